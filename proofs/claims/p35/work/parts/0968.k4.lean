theorem hW246 {g d f : Nat} {A : hs_A} {C m : Nat} (hC0 : hc_get hs_sh C = some (0, 1, [m])) (hm : m < 2000) (a2 : Int32) {P : Option Value → hs_A → Prop} (hP : ∀ (r : Option Value) (A' : hs_A), (r = none ∧ ((A'.1 = A.1 ∧ A'.2.2 = A.2.2 ∧ (∀ i, ¬ i = C → A'.2.1 i = A.2.1 i) ∧ ∀ j, j < m → A'.2.1 C j = a2))) → P r A') : hpa (f, g) d none hm_t246 0 [.ref (C + 1), .int a2, .retAddr 0, .retAddr 0] [] A P := by
  have k0 := hk_0
  have k1 := hk_1
  have cm := hn_c (n := m) (z := Int32.ofNat m) rfl (by omega)
  have L5 : ∀ (f : Nat) (x5_2 : Int32) (A5 : hs_A) (k : Nat) (bk : k ≤ m) (ek : x5_2 = Int32.ofNat k) (F5 : (A5.1 = A.1 ∧ A5.2.2 = A.2.2 ∧ (∀ i, ¬ i = C → A5.2.1 i = A.2.1 i) ∧ ∀ j, j < k → A5.2.1 C j = a2)), hpa (f, g) d none hm_t246 5 [.ref (C + 1), .int a2, .int x5_2, .int (Int32.ofNat m)] [] A5 P := by
    intro f
    induction f with
    | zero => intros; exact hpa.zero
    | succ f ih5 =>
      intro x5_2 A5 k bk ek F5
      subst ek
      have ck := hn_c (n := k) (z := Int32.ofNat k) rfl (by omega)
      refine hpa_iload_nS (by rfl) rfl ?_
      refine hpa_iload_n (by rfl) rfl ?_
      refine hpj_cge (by rfl) ck cm (fun q1 => ?_) (fun q1 => ?_)
      ·
        exact hpa_return (by rfl) rfl (hP _ _ ⟨rfl, F5.1, F5.2.1, F5.2.2.1, fun j hj => F5.2.2.2 j (by omega)⟩)
      ·
        refine hpa_aload_n (by rfl) rfl ?_
        refine hpa_iload_n (by rfl) rfl ?_
        refine hpa_iload_n (by rfl) rfl ?_
        refine hpx_iast (by rfl) hC0 (fun A2 h0A2 h1A2 eA2 fA2 gA2 => ?_)
        refine hpj_iinc (by rfl) rfl ck hk_1 (by omega) (by omega) (fun _ => rfl) (fun z3 ez3 => ?_)
        refine hpa_goto (by rfl) ?_
        exact ih5 z3 A2 (k + 1) (by omega) (huI (by omega) (by omega)) (by rw [show ((Int32.ofNat k)).toNatClampNeg = k from by have := hn_cn (j := (Int32.ofNat k)) (by omega); omega] at fA2; exact ⟨eA2.trans F5.1, gA2.trans F5.2.1, fun i hi => by rw [← F5.2.2.1 i hi, fA2]; funext j; exact hup2 (by omega), fun j hj => by rw [fA2]; by_cases s : j = k; (rw [s, hup1]); rw [hup2 (by omega)]; exact F5.2.2.2 j (by omega)⟩)
  refine hpa_iconst (by rfl) rfl ?_
  refine hpa_s1 (by rfl) (Or.inl ⟨_, rfl, rfl⟩) rfl ?_
  refine hpa_aload_n (by rfl) rfl ?_
  refine hpa_alen (by rfl) (by rfl) hC0 ?_
  refine hpa_s1 (by rfl) (Or.inl ⟨_, rfl, rfl⟩) rfl ?_
  exact L5 _ (Int32.ofNat 0) A 0 (by omega) rfl ⟨rfl, rfl, fun _ _ => rfl, fun j hj => absurd hj (Nat.not_lt_zero j)⟩
theorem hP246 {g d : Nat} {A : hs_A} {C m : Nat} (hC0 : hc_get hs_sh C = some (0, 1, [m])) (hm : m < 2000) (a2 : Int32) : hpC g d 246 hm_m246 [.ref (C + 1), .int a2] A (fun r A' => r = none ∧ ((A'.1 = A.1 ∧ A'.2.2 = A.2.2 ∧ (∀ i, ¬ i = C → A'.2.1 i = A.2.1 i) ∧ ∀ j, j < m → A'.2.1 C j = a2))) := hpC.all (fun f d => hW246 hC0 hm a2 (fun r A' h => h))
theorem huX_v {H : Int32} {ro : Nat → Int32} {h : Nat} {t : Int32} (c : (Int32.ofNat h).toNatClampNeg = h) : huX H ro (Int32.ofNat h) t 4 = huB 10 (ro h) ∧ huX H ro (Int32.ofNat h) t 5 = ro (10 + h) ∧ huX H ro (Int32.ofNat h) t 8 = huB 10 (ro (40 + h)) := by
  refine ⟨?_, ?_, ?_⟩
  · show huB 10 (ro (Int32.ofNat h).toNatClampNeg) = _
    rw [c]
  · show ro (10 + (Int32.ofNat h).toNatClampNeg) = _
    rw [c]
  · show huB 10 (ro (40 + (Int32.ofNat h).toNatClampNeg)) = _
    rw [c]
def uM1_26 : Nat := 323519360005807677536004181044235568083645733070486903550240528269312
theorem hW1_26 {g d f : Nat} {A : hs_A} {T : Nat} {D : hg_D} {ro : Nat → Int32} {n : Nat} {h : Nat} (a1 a2 : Int32) (hT : hTT T) (hC : hdK T D A) (hL : hdL 26 ro n A) (hO : huO ro n) (hh : h < n) (ha : a1 = Int32.ofNat h) (hTn : (A.1 T 4).toInt = (n : Int)) (hH0 : uf_H A) {P : Option Value → hs_A → Prop} (hP : ∀ (r : Option Value) (A' : hs_A), (r = none ∧ (hdS T D (huX (Int32.ofNat n) ro a1 a2) A' ∧ ((∀ i k, ¬ (i = 323 ∧ k = 4) → A'.1 i k = A.1 i k) ∧ ∀ i, ¬ i = 324 → ¬ i = 325 → ¬ i = 326 → ¬ i = 327 → A'.2.1 i = A.2.1 i))) → P r A') : hpa (f, g) d none hm_t1 0 [.ref 324, .ref (T + 1), .ref 27, .int a1, .int a2] [] A P := by
  have k0 := hk_0
  have k1 := hk_1
  have k2 := hk_2
  have k24 := hk_24
  have k4 := hk_4
  have k4294967295 := hk_4294967295
  have k5 := hk_5
  have k7 := hk_7
  have k8 := hk_8
  have hT9 : T ≤ 11 := by rcases hT with rfl | rfl <;> omega
  have hn10 := hL.1
  have ch := hn_c (n := h) (z := Int32.ofNat h) rfl (by omega)
  have cah : a1.toInt = (h : Int) := by rw [ha]; exact ch
  have cih : a1.toNatClampNeg = h := by have := hn_cn (j := a1) (by omega); omega
  have oh := hO.1 h hh
  obtain ⟨xv4, xv5, xv8⟩ := huX_v (H := Int32.ofNat n) (ro := ro) (h := h) (t := a2) (by rw [← ha]; exact cih)
  rw [← ha] at xv4 xv5 xv8
  have U0 : uf_W uM1_26 A A := uf_W.rfl
  refine hpa_aload_n (by rfl) rfl ?_
  refine hpa_aload_n (by rfl) rfl ?_
  refine hpa_get (v := .ref (T + 5)) (by rfl) (hsT hT) (by rfl) (hvT hT (by omega)) ?_
  refine hpj_putR (by rfl) (by rfl) (by rfl) (by rcases hT with rfl | rfl <;> rfl) (fun A1 eA1 fA1 gA1 iA1 => ?_)
  have UA1 : uf_W uM1_26 A A1 := uf_putl eA1 fA1 gA1 iA1 (by decide +kernel)
  have HA1 : uf_H A1 := hH0.putl hT iA1
  refine hpa_aload_n (by rfl) rfl ?_
  refine hpa_get (v := .ref 325) (by rfl) (by rfl) (by rfl) rfl ?_
  refine hpa_iconst (by rfl) rfl ?_
  refine hpa_iload_n (by rfl) rfl ?_
  refine hpx_iast (by rfl) (by rfl) (fun A2 h0A2 h1A2 eA2 fA2 gA2 => ?_)
  have UA2 := (UA1).ar eA2 fA2 gA2 (by decide +kernel)
  have HA2 := (HA1).e (congrArg (fun q => q.2) gA2)
  rw [show ((Int32.ofNat 0)).toNatClampNeg = 0 from by have := hn_cn (j := (Int32.ofNat 0)) (by omega); omega] at fA2
  refine hpa_aload_n (by rfl) rfl ?_
  refine hpa_get (v := .ref 325) (by rfl) (by rfl) (by rfl) rfl ?_
  refine hpa_iconst (by rfl) rfl ?_
  refine hpa_iload (by rfl) rfl ?_
  refine hpa_bipush (by rfl) rfl ?_
  refine hpa_irem (by rfl) (by decide) ?_
  refine hpx_iast (by rfl) (by rfl) (fun A3 h0A3 h1A3 eA3 fA3 gA3 => ?_)
  have UA3 := (UA2).ar eA3 fA3 gA3 (by decide +kernel)
  have HA3 := (HA2).e (congrArg (fun q => q.2) gA3)
  rw [show ((Int32.ofNat 1)).toNatClampNeg = 1 from by have := hn_cn (j := (Int32.ofNat 1)) (by omega); omega] at fA3
  refine hpa_aload_n (by rfl) rfl ?_
  refine hpa_get (v := .ref 325) (by rfl) (by rfl) (by rfl) rfl ?_
  refine hpa_iconst (by rfl) rfl ?_
  refine hpa_iload (by rfl) rfl ?_
  refine hpa_bipush (by rfl) rfl ?_
  refine hpa_idiv (by rfl) (by decide) ?_
  refine hpx_iast (by rfl) (by rfl) (fun A4 h0A4 h1A4 eA4 fA4 gA4 => ?_)
  have UA4 := (UA3).ar eA4 fA4 gA4 (by decide +kernel)
  have HA4 := (HA3).e (congrArg (fun q => q.2) gA4)
  rw [show ((Int32.ofNat 2)).toNatClampNeg = 2 from by have := hn_cn (j := (Int32.ofNat 2)) (by omega); omega] at fA4
  refine hpa_aload_n (by rfl) rfl ?_
  refine hpa_get (v := .ref 325) (by rfl) (by rfl) (by rfl) rfl ?_
  refine hpa_iconst (by rfl) rfl ?_
  refine hpa_aload_n (by rfl) rfl ?_
  refine hpa_get (v := .ref 28) (by rfl) (by rfl) (by rfl) rfl ?_
  refine hpa_iload_n (by rfl) rfl ?_
  refine hpx_iald (by rfl) (by rfl) (fun h0v5 h1v5 v5 ev5 => ?_)
  have hL26A4 : hdL 26 ro n A4 := hL.uf hLL_26 UA4 (by decide +kernel)
  rw [show (a1).toNatClampNeg = h from by have := hn_cn (j := a1) (by omega); omega] at ev5
  have lv5 := ev5.symm.trans ((hL26A4.2.2.2.2 (h) (by omega)).1.1)
  clear ev5
  subst lv5
  refine hpa_call2 (by rfl) (by decide) (by rfl) (by rfl) (by rfl) (uf_C (X := ug_x108) (j := 108) rfl rfl (uf_int uf_nil) HA4 (hP242 (ro h) (by omega) (by omega))) ?_
  rintro _ _ ⟨⟨rfl, z7, rfl, Z_A6⟩, -, -⟩
  subst Z_A6
  refine hpx_iast (by rfl) (by rfl) (fun A8 h0A8 h1A8 eA8 fA8 gA8 => ?_)
  have UA8 := (UA4).ar eA8 fA8 gA8 (by decide +kernel)
  have HA8 := (HA4).e (congrArg (fun q => q.2) gA8)
  rw [show ((Int32.ofNat 4)).toNatClampNeg = 4 from by have := hn_cn (j := (Int32.ofNat 4)) (by omega); omega] at fA8
  refine hpa_aload_n (by rfl) rfl ?_
  refine hpa_get (v := .ref 325) (by rfl) (by rfl) (by rfl) rfl ?_
  refine hpa_iconst (by rfl) rfl ?_
  refine hpa_aload_n (by rfl) rfl ?_
  refine hpa_get (v := .ref 29) (by rfl) (by rfl) (by rfl) rfl ?_
  refine hpa_iload_n (by rfl) rfl ?_
  refine hpx_iald (by rfl) (by rfl) (fun h0v9 h1v9 v9 ev9 => ?_)
  have hL26A8 : hdL 26 ro n A8 := hL.uf hLL_26 UA8 (by decide +kernel)
  rw [show (a1).toNatClampNeg = h from by have := hn_cn (j := a1) (by omega); omega] at ev9
  have lv9 := ev9.symm.trans ((hL26A8.2.2.2.2 (h) (by omega)).1.2.1)
  clear ev9
  subst lv9
  refine hpx_iast (by rfl) (by rfl) (fun A10 h0A10 h1A10 eA10 fA10 gA10 => ?_)
  have UA10 := (UA8).ar eA10 fA10 gA10 (by decide +kernel)
  have HA10 := (HA8).e (congrArg (fun q => q.2) gA10)
  rw [show ((Int32.ofNat 5)).toNatClampNeg = 5 from by have := hn_cn (j := (Int32.ofNat 5)) (by omega); omega] at fA10
  refine hpa_aload_n (by rfl) rfl ?_
  refine hpa_get (v := .ref 325) (by rfl) (by rfl) (by rfl) rfl ?_
  refine hpa_bipush (by rfl) rfl ?_
  refine hpa_aload_n (by rfl) rfl ?_
  refine hpj_getK (by rfl) (hsT hT) (by rfl) rfl ?_
  have hTnA10 : (A10.1 T 4).toInt = (n : Int) := (congrArg Int32.toInt (hdT4 UA10 hT (by decide +kernel))).trans hTn
  rw [show (A10.1 T 4) = Int32.ofNat n from huI hTnA10 (by omega)]
  refine hpx_iast (by rfl) (by rfl) (fun A11 h0A11 h1A11 eA11 fA11 gA11 => ?_)
  have UA11 := (UA10).ar eA11 fA11 gA11 (by decide +kernel)
  have HA11 := (HA10).e (congrArg (fun q => q.2) gA11)
  rw [show ((Int32.ofNat 7)).toNatClampNeg = 7 from by have := hn_cn (j := (Int32.ofNat 7)) (by omega); omega] at fA11
  refine hpa_aload_n (by rfl) rfl ?_
  refine hpa_get (v := .ref 325) (by rfl) (by rfl) (by rfl) rfl ?_
  refine hpa_bipush (by rfl) rfl ?_
  refine hpa_aload_n (by rfl) rfl ?_
  refine hpa_get (v := .ref 30) (by rfl) (by rfl) (by rfl) rfl ?_
  refine hpa_iload_n (by rfl) rfl ?_
  refine hpx_iald (by rfl) (by rfl) (fun h0v12 h1v12 v12 ev12 => ?_)
  have hL26A11 : hdL 26 ro n A11 := hL.uf hLL_26 UA11 (by decide +kernel)
  rw [show (a1).toNatClampNeg = h from by have := hn_cn (j := a1) (by omega); omega] at ev12
  have lv12 := ev12.symm.trans ((hL26A11.2.2.2.2 (h) (by omega)).1.2.2)
  clear ev12
  subst lv12
  refine hpa_call2 (by rfl) (by decide) (by rfl) (by rfl) (by rfl) (uf_C (X := ug_x108) (j := 108) rfl rfl (uf_int uf_nil) HA11 (hP242 (ro (40 + h)) (by omega) (by omega))) ?_
  rintro _ _ ⟨⟨rfl, z14, rfl, Z_A13⟩, -, -⟩
  subst Z_A13
  refine hpx_iast (by rfl) (by rfl) (fun A15 h0A15 h1A15 eA15 fA15 gA15 => ?_)
  have UA15 := (UA11).ar eA15 fA15 gA15 (by decide +kernel)
  have HA15 := (HA11).e (congrArg (fun q => q.2) gA15)
  rw [show ((Int32.ofNat 8)).toNatClampNeg = 8 from by have := hn_cn (j := (Int32.ofNat 8)) (by omega); omega] at fA15
  have X90 : ∀ i, i < 9 → ¬ i = 3 → ¬ i = 6 → A15.2.1 324 i = huX (Int32.ofNat n) ro a1 a2 i := by
    intro i hi h3 h6
    have hi9 : i = 0 ∨ i = 1 ∨ i = 2 ∨ i = 4 ∨ i = 5 ∨ i = 7 ∨ i = 8 := by omega
    rcases hi9 with rfl | rfl | rfl | rfl | rfl | rfl | rfl
    · rw [fA15, hup2 (by omega), fA11, hup2 (by omega), fA10, hup2 (by omega), fA8, hup2 (by omega), fA4, hup2 (by omega), fA3, hup2 (by omega), fA2, hup1] <;> rfl
    · rw [fA15, hup2 (by omega), fA11, hup2 (by omega), fA10, hup2 (by omega), fA8, hup2 (by omega), fA4, hup2 (by omega), fA3, hup1] <;> rfl
    · rw [fA15, hup2 (by omega), fA11, hup2 (by omega), fA10, hup2 (by omega), fA8, hup2 (by omega), fA4, hup1] <;> rfl
    · rw [fA15, hup2 (by omega), fA11, hup2 (by omega), fA10, hup2 (by omega), fA8, hup1] <;> exact xv4.symm
    · rw [fA15, hup2 (by omega), fA11, hup2 (by omega), fA10, hup1] <;> exact xv5.symm
    · rw [fA15, hup2 (by omega), fA11, hup1] <;> rfl
    · rw [fA15, hup1] <;> exact xv8.symm
  have E90 : ∀ i, ¬ i = 324 → A15.2.1 i = A.2.1 i := fun i hi => by rw [fA15, fA11, fA10, fA8, fA4, fA3, fA2, fA1]; funext j; rw [hup2 (by omega), hup2 (by omega), hup2 (by omega), hup2 (by omega), hup2 (by omega), hup2 (by omega), hup2 (by omega)]
  have C90 : A15.1 = A.1 := (((((((eA15).trans eA11).trans eA10).trans eA8).trans eA4).trans eA3).trans eA2).trans eA1
  have R90 : A15.2.2.2 323 5 = T + 5 := by rw [gA15, gA11, gA10, gA8, gA4, gA3, gA2, iA1, hs_upN1]
  refine hpa_aload_n (by rfl) rfl ?_
  refine hpa_get (v := .ref 326) (by rfl) (by rfl) (by rfl) rfl ?_
  refine hpa_iconst (by rfl) rfl ?_
  refine hpa_call2 (by rfl) (by decide) (by rfl) (by rfl) (by rfl) (uf_C (X := ug_x179) (j := 179) rfl rfl (ug_L.cons (uf_rk_ok (by decide +kernel)) (uf_int uf_nil)) HA15 (hP246 (m := 9) rfl (by decide) (Int32.ofNat 0))) ?_
  rintro _ A16 ⟨⟨rfl, FR_A16⟩, wA16, HA16⟩
  have UA16 := (UA15).trans (wA16.le (by decide +kernel : ug_wle ug_x179.2.2.2.1 uM1_26 = true))
  refine hpa_aload_n (by rfl) rfl ?_
  refine hpa_get (v := .ref 327) (by rfl) (by rfl) (by rfl) rfl ?_
  refine hpa_iconst (by rfl) rfl ?_
  refine hpa_call2 (by rfl) (by decide) (by rfl) (by rfl) (by rfl) (uf_C (X := ug_x180) (j := 180) rfl rfl (ug_L.cons (uf_rk_ok (by decide +kernel)) (uf_int uf_nil)) HA16 (hP246 (m := 9) rfl (by decide) (Int32.ofNat 0))) ?_
  rintro _ A17 ⟨⟨rfl, FR_A17⟩, wA17, HA17⟩
  have UA17 := (UA16).trans (wA17.le (by decide +kernel : ug_wle ug_x180.2.2.2.1 uM1_26 = true))
  refine hpa_aload_n (by rfl) rfl ?_
  refine hpa_get (v := .ref 328) (by rfl) (by rfl) (by rfl) rfl ?_
  refine hpa_iconst (by rfl) rfl ?_
  refine hpa_call2 (by rfl) (by decide) (by rfl) (by rfl) (by rfl) (uf_C (X := ug_x181) (j := 181) rfl rfl (ug_L.cons (uf_rk_ok (by decide +kernel)) (uf_int uf_nil)) HA17 (hP246 (m := 9) rfl (by decide) (Int32.ofNat 4294967295))) ?_
  rintro _ A18 ⟨⟨rfl, FR_A18⟩, wA18, HA18⟩
  have UA18 := (UA17).trans (wA18.le (by decide +kernel : ug_wle ug_x181.2.2.2.1 uM1_26 = true))
  refine hpa_aload_n (by rfl) rfl ?_
  refine hpa_iconst (by rfl) rfl ?_
  refine hpj_putI (by rfl) (by rfl) (by rfl) (by rfl) (fun A19 eA19 fA19 => ?_)
  have UA19 := (UA18).put eA19 fA19 (by decide +kernel)
  have HA19 := (HA18).e (congrArg (fun q => q.2.2) fA19)
  exact hpa_return (by rfl) rfl (hP _ _ ⟨rfl, ⟨⟨by rw [fA19, FR_A18.2.1, FR_A17.2.1, FR_A16.2.1]; exact R90, fun i hi h3 h6 => by rw [fA19, FR_A18.2.2.1 324 (by omega), FR_A17.2.2.1 324 (by omega), FR_A16.2.2.1 324 (by omega)]; exact X90 i hi h3 h6⟩, fun q hq p hp => by rw [fA19, FR_A18.2.2.1 325 (by omega), FR_A17.2.2.1 325 (by omega), FR_A16.2.2.2 q (by omega), FR_A18.2.2.1 326 (by omega), FR_A17.2.2.2 q (by omega), hub_0]; exact ⟨fun u => absurd u (by decide), fun _ => rfl⟩, fun q hq => Or.inl (by rw [fA19, FR_A18.2.2.2 q (by omega)]), Or.inl (by rw [eA19, hup1])⟩, fun i k h => by rw [eA19, hup2 h, FR_A18.1, FR_A17.1, FR_A16.1, C90], fun i h1 h2 h3 h4 => by rw [fA19, FR_A18.2.2.1 i h4, FR_A17.2.2.1 i h3, FR_A16.2.2.1 i h2, E90 i h1]⟩)
theorem hP1_26 {g d : Nat} {A : hs_A} {T : Nat} {D : hg_D} {ro : Nat → Int32} {n : Nat} {h : Nat} (a1 a2 : Int32) (hT : hTT T) (hC : hdK T D A) (hL : hdL 26 ro n A) (hO : huO ro n) (hh : h < n) (ha : a1 = Int32.ofNat h) (hTn : (A.1 T 4).toInt = (n : Int)) (hH0 : uf_H A) : hpC g d 1 hm_m1 [.ref 324, .ref (T + 1), .ref 27, .int a1, .int a2] A (fun r A' => r = none ∧ (hdS T D (huX (Int32.ofNat n) ro a1 a2) A' ∧ ((∀ i k, ¬ (i = 323 ∧ k = 4) → A'.1 i k = A.1 i k) ∧ ∀ i, ¬ i = 324 → ¬ i = 325 → ¬ i = 326 → ¬ i = 327 → A'.2.1 i = A.2.1 i))) := hpC.all (fun f d => hW1_26 a1 a2 hT hC hL hO hh ha hTn hH0 (fun r A' h => h))
def uM1_33 : Nat := 323519360005807677536004181044235568083645733070486903550240528269312
theorem hW1_33 {g d f : Nat} {A : hs_A} {T : Nat} {D : hg_D} {ro : Nat → Int32} {n : Nat} {h : Nat} (a1 a2 : Int32) (hT : hTT T) (hC : hdK T D A) (hL : hdL 33 ro n A) (hO : huO ro n) (hh : h < n) (ha : a1 = Int32.ofNat h) (hTn : (A.1 T 4).toInt = (n : Int)) (hH0 : uf_H A) {P : Option Value → hs_A → Prop} (hP : ∀ (r : Option Value) (A' : hs_A), (r = none ∧ (hdS T D (huX (Int32.ofNat n) ro a1 a2) A' ∧ ((∀ i k, ¬ (i = 323 ∧ k = 4) → A'.1 i k = A.1 i k) ∧ ∀ i, ¬ i = 324 → ¬ i = 325 → ¬ i = 326 → ¬ i = 327 → A'.2.1 i = A.2.1 i))) → P r A') : hpa (f, g) d none hm_t1 0 [.ref 324, .ref (T + 1), .ref 34, .int a1, .int a2] [] A P := by
  have k0 := hk_0
  have k1 := hk_1
  have k2 := hk_2
  have k24 := hk_24
  have k4 := hk_4
  have k4294967295 := hk_4294967295
  have k5 := hk_5
  have k7 := hk_7
  have k8 := hk_8
  have hT9 : T ≤ 11 := by rcases hT with rfl | rfl <;> omega
  have hn10 := hL.1
  have ch := hn_c (n := h) (z := Int32.ofNat h) rfl (by omega)
  have cah : a1.toInt = (h : Int) := by rw [ha]; exact ch
  have cih : a1.toNatClampNeg = h := by have := hn_cn (j := a1) (by omega); omega
  have oh := hO.1 h hh
  obtain ⟨xv4, xv5, xv8⟩ := huX_v (H := Int32.ofNat n) (ro := ro) (h := h) (t := a2) (by rw [← ha]; exact cih)
  rw [← ha] at xv4 xv5 xv8
  have U0 : uf_W uM1_33 A A := uf_W.rfl
  refine hpa_aload_n (by rfl) rfl ?_
  refine hpa_aload_n (by rfl) rfl ?_
  refine hpa_get (v := .ref (T + 5)) (by rfl) (hsT hT) (by rfl) (hvT hT (by omega)) ?_
  refine hpj_putR (by rfl) (by rfl) (by rfl) (by rcases hT with rfl | rfl <;> rfl) (fun A1 eA1 fA1 gA1 iA1 => ?_)
  have UA1 : uf_W uM1_33 A A1 := uf_putl eA1 fA1 gA1 iA1 (by decide +kernel)
  have HA1 : uf_H A1 := hH0.putl hT iA1
  refine hpa_aload_n (by rfl) rfl ?_
  refine hpa_get (v := .ref 325) (by rfl) (by rfl) (by rfl) rfl ?_
  refine hpa_iconst (by rfl) rfl ?_
  refine hpa_iload_n (by rfl) rfl ?_
  refine hpx_iast (by rfl) (by rfl) (fun A2 h0A2 h1A2 eA2 fA2 gA2 => ?_)
  have UA2 := (UA1).ar eA2 fA2 gA2 (by decide +kernel)
  have HA2 := (HA1).e (congrArg (fun q => q.2) gA2)
  rw [show ((Int32.ofNat 0)).toNatClampNeg = 0 from by have := hn_cn (j := (Int32.ofNat 0)) (by omega); omega] at fA2
  refine hpa_aload_n (by rfl) rfl ?_
  refine hpa_get (v := .ref 325) (by rfl) (by rfl) (by rfl) rfl ?_
  refine hpa_iconst (by rfl) rfl ?_
  refine hpa_iload (by rfl) rfl ?_
  refine hpa_bipush (by rfl) rfl ?_
  refine hpa_irem (by rfl) (by decide) ?_
  refine hpx_iast (by rfl) (by rfl) (fun A3 h0A3 h1A3 eA3 fA3 gA3 => ?_)
  have UA3 := (UA2).ar eA3 fA3 gA3 (by decide +kernel)
  have HA3 := (HA2).e (congrArg (fun q => q.2) gA3)
  rw [show ((Int32.ofNat 1)).toNatClampNeg = 1 from by have := hn_cn (j := (Int32.ofNat 1)) (by omega); omega] at fA3
  refine hpa_aload_n (by rfl) rfl ?_
  refine hpa_get (v := .ref 325) (by rfl) (by rfl) (by rfl) rfl ?_
  refine hpa_iconst (by rfl) rfl ?_
  refine hpa_iload (by rfl) rfl ?_
  refine hpa_bipush (by rfl) rfl ?_
  refine hpa_idiv (by rfl) (by decide) ?_
  refine hpx_iast (by rfl) (by rfl) (fun A4 h0A4 h1A4 eA4 fA4 gA4 => ?_)
  have UA4 := (UA3).ar eA4 fA4 gA4 (by decide +kernel)
  have HA4 := (HA3).e (congrArg (fun q => q.2) gA4)
  rw [show ((Int32.ofNat 2)).toNatClampNeg = 2 from by have := hn_cn (j := (Int32.ofNat 2)) (by omega); omega] at fA4
  refine hpa_aload_n (by rfl) rfl ?_
  refine hpa_get (v := .ref 325) (by rfl) (by rfl) (by rfl) rfl ?_
  refine hpa_iconst (by rfl) rfl ?_
  refine hpa_aload_n (by rfl) rfl ?_
  refine hpa_get (v := .ref 35) (by rfl) (by rfl) (by rfl) rfl ?_
  refine hpa_iload_n (by rfl) rfl ?_
  refine hpx_iald (by rfl) (by rfl) (fun h0v5 h1v5 v5 ev5 => ?_)
  have hL33A4 : hdL 33 ro n A4 := hL.uf hLL_33 UA4 (by decide +kernel)
  rw [show (a1).toNatClampNeg = h from by have := hn_cn (j := a1) (by omega); omega] at ev5
  have lv5 := ev5.symm.trans ((hL33A4.2.2.2.2 (h) (by omega)).1.1)
  clear ev5
  subst lv5
  refine hpa_call2 (by rfl) (by decide) (by rfl) (by rfl) (by rfl) (uf_C (X := ug_x108) (j := 108) rfl rfl (uf_int uf_nil) HA4 (hP242 (ro h) (by omega) (by omega))) ?_
  rintro _ _ ⟨⟨rfl, z7, rfl, Z_A6⟩, -, -⟩
  subst Z_A6
  refine hpx_iast (by rfl) (by rfl) (fun A8 h0A8 h1A8 eA8 fA8 gA8 => ?_)
  have UA8 := (UA4).ar eA8 fA8 gA8 (by decide +kernel)
  have HA8 := (HA4).e (congrArg (fun q => q.2) gA8)
  rw [show ((Int32.ofNat 4)).toNatClampNeg = 4 from by have := hn_cn (j := (Int32.ofNat 4)) (by omega); omega] at fA8
  refine hpa_aload_n (by rfl) rfl ?_
  refine hpa_get (v := .ref 325) (by rfl) (by rfl) (by rfl) rfl ?_
  refine hpa_iconst (by rfl) rfl ?_
  refine hpa_aload_n (by rfl) rfl ?_
  refine hpa_get (v := .ref 36) (by rfl) (by rfl) (by rfl) rfl ?_
  refine hpa_iload_n (by rfl) rfl ?_
  refine hpx_iald (by rfl) (by rfl) (fun h0v9 h1v9 v9 ev9 => ?_)
  have hL33A8 : hdL 33 ro n A8 := hL.uf hLL_33 UA8 (by decide +kernel)
  rw [show (a1).toNatClampNeg = h from by have := hn_cn (j := a1) (by omega); omega] at ev9
  have lv9 := ev9.symm.trans ((hL33A8.2.2.2.2 (h) (by omega)).1.2.1)
  clear ev9
  subst lv9
  refine hpx_iast (by rfl) (by rfl) (fun A10 h0A10 h1A10 eA10 fA10 gA10 => ?_)
  have UA10 := (UA8).ar eA10 fA10 gA10 (by decide +kernel)
  have HA10 := (HA8).e (congrArg (fun q => q.2) gA10)
  rw [show ((Int32.ofNat 5)).toNatClampNeg = 5 from by have := hn_cn (j := (Int32.ofNat 5)) (by omega); omega] at fA10
  refine hpa_aload_n (by rfl) rfl ?_
  refine hpa_get (v := .ref 325) (by rfl) (by rfl) (by rfl) rfl ?_
  refine hpa_bipush (by rfl) rfl ?_
  refine hpa_aload_n (by rfl) rfl ?_
  refine hpj_getK (by rfl) (hsT hT) (by rfl) rfl ?_
  have hTnA10 : (A10.1 T 4).toInt = (n : Int) := (congrArg Int32.toInt (hdT4 UA10 hT (by decide +kernel))).trans hTn
  rw [show (A10.1 T 4) = Int32.ofNat n from huI hTnA10 (by omega)]
  refine hpx_iast (by rfl) (by rfl) (fun A11 h0A11 h1A11 eA11 fA11 gA11 => ?_)
  have UA11 := (UA10).ar eA11 fA11 gA11 (by decide +kernel)
  have HA11 := (HA10).e (congrArg (fun q => q.2) gA11)
  rw [show ((Int32.ofNat 7)).toNatClampNeg = 7 from by have := hn_cn (j := (Int32.ofNat 7)) (by omega); omega] at fA11
  refine hpa_aload_n (by rfl) rfl ?_
  refine hpa_get (v := .ref 325) (by rfl) (by rfl) (by rfl) rfl ?_
  refine hpa_bipush (by rfl) rfl ?_
  refine hpa_aload_n (by rfl) rfl ?_
  refine hpa_get (v := .ref 37) (by rfl) (by rfl) (by rfl) rfl ?_
  refine hpa_iload_n (by rfl) rfl ?_
  refine hpx_iald (by rfl) (by rfl) (fun h0v12 h1v12 v12 ev12 => ?_)
  have hL33A11 : hdL 33 ro n A11 := hL.uf hLL_33 UA11 (by decide +kernel)
  rw [show (a1).toNatClampNeg = h from by have := hn_cn (j := a1) (by omega); omega] at ev12
  have lv12 := ev12.symm.trans ((hL33A11.2.2.2.2 (h) (by omega)).1.2.2)
  clear ev12
  subst lv12
  refine hpa_call2 (by rfl) (by decide) (by rfl) (by rfl) (by rfl) (uf_C (X := ug_x108) (j := 108) rfl rfl (uf_int uf_nil) HA11 (hP242 (ro (40 + h)) (by omega) (by omega))) ?_
  rintro _ _ ⟨⟨rfl, z14, rfl, Z_A13⟩, -, -⟩
  subst Z_A13
  refine hpx_iast (by rfl) (by rfl) (fun A15 h0A15 h1A15 eA15 fA15 gA15 => ?_)
  have UA15 := (UA11).ar eA15 fA15 gA15 (by decide +kernel)
  have HA15 := (HA11).e (congrArg (fun q => q.2) gA15)
  rw [show ((Int32.ofNat 8)).toNatClampNeg = 8 from by have := hn_cn (j := (Int32.ofNat 8)) (by omega); omega] at fA15
  have X90 : ∀ i, i < 9 → ¬ i = 3 → ¬ i = 6 → A15.2.1 324 i = huX (Int32.ofNat n) ro a1 a2 i := by
    intro i hi h3 h6
    have hi9 : i = 0 ∨ i = 1 ∨ i = 2 ∨ i = 4 ∨ i = 5 ∨ i = 7 ∨ i = 8 := by omega
    rcases hi9 with rfl | rfl | rfl | rfl | rfl | rfl | rfl
    · rw [fA15, hup2 (by omega), fA11, hup2 (by omega), fA10, hup2 (by omega), fA8, hup2 (by omega), fA4, hup2 (by omega), fA3, hup2 (by omega), fA2, hup1] <;> rfl
    · rw [fA15, hup2 (by omega), fA11, hup2 (by omega), fA10, hup2 (by omega), fA8, hup2 (by omega), fA4, hup2 (by omega), fA3, hup1] <;> rfl
    · rw [fA15, hup2 (by omega), fA11, hup2 (by omega), fA10, hup2 (by omega), fA8, hup2 (by omega), fA4, hup1] <;> rfl
    · rw [fA15, hup2 (by omega), fA11, hup2 (by omega), fA10, hup2 (by omega), fA8, hup1] <;> exact xv4.symm
    · rw [fA15, hup2 (by omega), fA11, hup2 (by omega), fA10, hup1] <;> exact xv5.symm
    · rw [fA15, hup2 (by omega), fA11, hup1] <;> rfl
    · rw [fA15, hup1] <;> exact xv8.symm
  have E90 : ∀ i, ¬ i = 324 → A15.2.1 i = A.2.1 i := fun i hi => by rw [fA15, fA11, fA10, fA8, fA4, fA3, fA2, fA1]; funext j; rw [hup2 (by omega), hup2 (by omega), hup2 (by omega), hup2 (by omega), hup2 (by omega), hup2 (by omega), hup2 (by omega)]
  have C90 : A15.1 = A.1 := (((((((eA15).trans eA11).trans eA10).trans eA8).trans eA4).trans eA3).trans eA2).trans eA1
  have R90 : A15.2.2.2 323 5 = T + 5 := by rw [gA15, gA11, gA10, gA8, gA4, gA3, gA2, iA1, hs_upN1]
  refine hpa_aload_n (by rfl) rfl ?_
  refine hpa_get (v := .ref 326) (by rfl) (by rfl) (by rfl) rfl ?_
  refine hpa_iconst (by rfl) rfl ?_
  refine hpa_call2 (by rfl) (by decide) (by rfl) (by rfl) (by rfl) (uf_C (X := ug_x179) (j := 179) rfl rfl (ug_L.cons (uf_rk_ok (by decide +kernel)) (uf_int uf_nil)) HA15 (hP246 (m := 9) rfl (by decide) (Int32.ofNat 0))) ?_
  rintro _ A16 ⟨⟨rfl, FR_A16⟩, wA16, HA16⟩
  have UA16 := (UA15).trans (wA16.le (by decide +kernel : ug_wle ug_x179.2.2.2.1 uM1_33 = true))
  refine hpa_aload_n (by rfl) rfl ?_
  refine hpa_get (v := .ref 327) (by rfl) (by rfl) (by rfl) rfl ?_
  refine hpa_iconst (by rfl) rfl ?_
  refine hpa_call2 (by rfl) (by decide) (by rfl) (by rfl) (by rfl) (uf_C (X := ug_x180) (j := 180) rfl rfl (ug_L.cons (uf_rk_ok (by decide +kernel)) (uf_int uf_nil)) HA16 (hP246 (m := 9) rfl (by decide) (Int32.ofNat 0))) ?_
  rintro _ A17 ⟨⟨rfl, FR_A17⟩, wA17, HA17⟩
  have UA17 := (UA16).trans (wA17.le (by decide +kernel : ug_wle ug_x180.2.2.2.1 uM1_33 = true))
  refine hpa_aload_n (by rfl) rfl ?_
  refine hpa_get (v := .ref 328) (by rfl) (by rfl) (by rfl) rfl ?_
  refine hpa_iconst (by rfl) rfl ?_
  refine hpa_call2 (by rfl) (by decide) (by rfl) (by rfl) (by rfl) (uf_C (X := ug_x181) (j := 181) rfl rfl (ug_L.cons (uf_rk_ok (by decide +kernel)) (uf_int uf_nil)) HA17 (hP246 (m := 9) rfl (by decide) (Int32.ofNat 4294967295))) ?_
  rintro _ A18 ⟨⟨rfl, FR_A18⟩, wA18, HA18⟩
  have UA18 := (UA17).trans (wA18.le (by decide +kernel : ug_wle ug_x181.2.2.2.1 uM1_33 = true))
  refine hpa_aload_n (by rfl) rfl ?_
  refine hpa_iconst (by rfl) rfl ?_
  refine hpj_putI (by rfl) (by rfl) (by rfl) (by rfl) (fun A19 eA19 fA19 => ?_)
  have UA19 := (UA18).put eA19 fA19 (by decide +kernel)
  have HA19 := (HA18).e (congrArg (fun q => q.2.2) fA19)
  exact hpa_return (by rfl) rfl (hP _ _ ⟨rfl, ⟨⟨by rw [fA19, FR_A18.2.1, FR_A17.2.1, FR_A16.2.1]; exact R90, fun i hi h3 h6 => by rw [fA19, FR_A18.2.2.1 324 (by omega), FR_A17.2.2.1 324 (by omega), FR_A16.2.2.1 324 (by omega)]; exact X90 i hi h3 h6⟩, fun q hq p hp => by rw [fA19, FR_A18.2.2.1 325 (by omega), FR_A17.2.2.1 325 (by omega), FR_A16.2.2.2 q (by omega), FR_A18.2.2.1 326 (by omega), FR_A17.2.2.2 q (by omega), hub_0]; exact ⟨fun u => absurd u (by decide), fun _ => rfl⟩, fun q hq => Or.inl (by rw [fA19, FR_A18.2.2.2 q (by omega)]), Or.inl (by rw [eA19, hup1])⟩, fun i k h => by rw [eA19, hup2 h, FR_A18.1, FR_A17.1, FR_A16.1, C90], fun i h1 h2 h3 h4 => by rw [fA19, FR_A18.2.2.1 i h4, FR_A17.2.2.1 i h3, FR_A16.2.2.1 i h2, E90 i h1]⟩)
theorem hP1_33 {g d : Nat} {A : hs_A} {T : Nat} {D : hg_D} {ro : Nat → Int32} {n : Nat} {h : Nat} (a1 a2 : Int32) (hT : hTT T) (hC : hdK T D A) (hL : hdL 33 ro n A) (hO : huO ro n) (hh : h < n) (ha : a1 = Int32.ofNat h) (hTn : (A.1 T 4).toInt = (n : Int)) (hH0 : uf_H A) : hpC g d 1 hm_m1 [.ref 324, .ref (T + 1), .ref 34, .int a1, .int a2] A (fun r A' => r = none ∧ (hdS T D (huX (Int32.ofNat n) ro a1 a2) A' ∧ ((∀ i k, ¬ (i = 323 ∧ k = 4) → A'.1 i k = A.1 i k) ∧ ∀ i, ¬ i = 324 → ¬ i = 325 → ¬ i = 326 → ¬ i = 327 → A'.2.1 i = A.2.1 i))) := hpC.all (fun f d => hW1_33 a1 a2 hT hC hL hO hh ha hTn hH0 (fun r A' h => h))
theorem hW18_26 {g d f : Nat} {A : hs_A} {ro : Nat → Int32} {n : Nat} {h : Nat} (a1 : Int32) (hL : hdL 26 ro n A) (hh : h < n) (ha : a1 = Int32.ofNat h) {P : Option Value → hs_A → Prop} (hP : ∀ (r : Option Value) (A' : hs_A), (A = A' ∧ ∃ z : Int32, r = some (.int z) ∧ ((z.toInt = 1 ∧ (ro (50 + h)).toInt = 1) ∨ (z.toInt = 0 ∧ (ro (50 + h)).toInt = 0))) → P r A') : hpa (f, g) d (some (.boolean)) hm_t18 0 [.ref 27, .int a1] [] A P := by
  have k0 := hk_0
  have k1 := hk_1
  have hn10 := hL.1
  have ch := hn_c (n := h) (z := Int32.ofNat h) rfl (by omega)
  have cah : a1.toInt = (h : Int) := by rw [ha]; exact ch
  have cih : a1.toNatClampNeg = h := by have := hn_cn (j := a1) (by omega); omega
  have hb := hL.2.2.2.1.bit (a := a1) (by omega) (by omega) (by omega)
  rw [cih] at hb
  refine hpa_aload_n (by rfl) rfl ?_
  refine hpj_getK (by rfl) (by rfl) (by rfl) rfl ?_
  refine hpa_iload_n (by rfl) rfl ?_
  refine hpa_ishr (by rfl) ?_
  refine hpa_iconst (by rfl) rfl ?_
  refine hpa_iand (by rfl) ?_
  refine hpj_zeq (by rfl) rfl (fun q1 => ?_) (fun q1 => ?_)
  ·
    have hq : hBit (A.1 26 9) a1 = 0 := q1
    refine hpa_iconst (by rfl) rfl ?_
    exact hpa_ireturn (by rfl) (by rfl) (hP _ _ ⟨rfl, _, rfl, Or.inr ⟨hk_0, by omega⟩⟩)
  ·
    have hq : ¬ hBit (A.1 26 9) a1 = 0 := q1
    refine hpa_iconst (by rfl) rfl ?_
    refine hpa_goto (by rfl) ?_
    exact hpa_ireturn (by rfl) (by rfl) (hP _ _ ⟨rfl, _, rfl, Or.inl ⟨hk_1, by omega⟩⟩)
theorem hP18_26 {g d : Nat} {A : hs_A} {ro : Nat → Int32} {n : Nat} {h : Nat} (a1 : Int32) (hL : hdL 26 ro n A) (hh : h < n) (ha : a1 = Int32.ofNat h) : hpC g d 18 hm_m18 [.ref 27, .int a1] A (fun r A' => A = A' ∧ ∃ z : Int32, r = some (.int z) ∧ ((z.toInt = 1 ∧ (ro (50 + h)).toInt = 1) ∨ (z.toInt = 0 ∧ (ro (50 + h)).toInt = 0))) := hpC.all (fun f d => hW18_26 a1 hL hh ha (fun r A' h => h))
theorem hW19_26 {g d f : Nat} {A : hs_A} {ro : Nat → Int32} {n : Nat} {h : Nat} (a1 : Int32) (hL : hdL 26 ro n A) (hh : h < n) (ha : a1 = Int32.ofNat h) {P : Option Value → hs_A → Prop} (hP : ∀ (r : Option Value) (A' : hs_A), (A = A' ∧ ∃ z : Int32, r = some (.int z) ∧ ((z.toInt = 1 ∧ huH ro h = true) ∨ (z.toInt = 0 ∧ huH ro h = false))) → P r A') : hpa (f, g) d (some (.boolean)) hm_t19 0 [.ref 27, .int a1] [] A P := by
  have k0 := hk_0
  have k1 := hk_1
  have hn10 := hL.1
  have ch := hn_c (n := h) (z := Int32.ofNat h) rfl (by omega)
  have cah : a1.toInt = (h : Int) := by rw [ha]; exact ch
  have cih : a1.toNatClampNeg = h := by have := hn_cn (j := a1) (by omega); omega
  refine hpa_aload_n (by rfl) rfl ?_
  refine hpa_iload_n (by rfl) rfl ?_
  refine hpa_call0 (by rfl) (by rfl) (by rfl) (by rfl) (by rfl) (by rfl) (hP18_26 a1 hL (by omega) (by omega)) ?_
  rintro _ _ ⟨rfl, z2, rfl, (⟨fz_A1, ON_A1⟩ | ⟨fz_A1, ON_A1⟩)⟩
  ·
    have ON1 := ON_A1
    refine hpj_zeq (by rfl) rfl (fun q3 => False.elim (by omega)) (fun q3 => ?_)
    refine hpa_aload_n (by rfl) rfl ?_
    refine hpa_get (v := .ref 33) (by rfl) (by rfl) (by rfl) rfl ?_
    refine hpa_iload_n (by rfl) rfl ?_
    refine hpx_iald (by rfl) (by rfl) (fun h0v4 h1v4 v4 ev4 => ?_)
    rw [show (a1).toNatClampNeg = h from by have := hn_cn (j := a1) (by omega); omega] at ev4
    have lv4 := ev4.symm.trans ((hL.2.2.2.2 (h) (by omega)).2.2.2)
    clear ev4
    subst lv4
    refine hpj_zne (by rfl) rfl (fun q5 => ?_) (fun q5 => ?_)
    ·
      refine hpa_iconst (by rfl) rfl ?_
      exact hpa_ireturn (by rfl) (by rfl) (hP _ _ ⟨rfl, _, rfl, Or.inr ⟨hk_0, by unfold huH; rw [decide_eq_false q5, Bool.and_false]⟩⟩)
    ·
      refine hpa_iconst (by rfl) rfl ?_
      refine hpa_goto (by rfl) ?_
      exact hpa_ireturn (by rfl) (by rfl) (hP _ _ ⟨rfl, _, rfl, Or.inl ⟨hk_1, by unfold huH; rw [decide_eq_true ON1, decide_eq_true q5]; rfl⟩⟩)
  ·
    have ON1 := ON_A1
    refine hpj_zeq (by rfl) rfl (fun q6 => ?_) (fun q6 => False.elim (by omega))
    refine hpa_iconst (by rfl) rfl ?_
    exact hpa_ireturn (by rfl) (by rfl) (hP _ _ ⟨rfl, _, rfl, Or.inr ⟨hk_0, by unfold huH; rw [decide_eq_false (by omega), Bool.false_and]⟩⟩)
theorem hP19_26 {g d : Nat} {A : hs_A} {ro : Nat → Int32} {n : Nat} {h : Nat} (a1 : Int32) (hL : hdL 26 ro n A) (hh : h < n) (ha : a1 = Int32.ofNat h) : hpC g d 19 hm_m19 [.ref 27, .int a1] A (fun r A' => A = A' ∧ ∃ z : Int32, r = some (.int z) ∧ ((z.toInt = 1 ∧ huH ro h = true) ∨ (z.toInt = 0 ∧ huH ro h = false))) := hpC.all (fun f d => hW19_26 a1 hL hh ha (fun r A' h => h))
theorem hW21_26 {g d f : Nat} {A : hs_A} {ro : Nat → Int32} {n : Nat} {h : Nat} (a1 : Int32) (hL : hdL 26 ro n A) (hh : h < n) (ha : a1 = Int32.ofNat h) {P : Option Value → hs_A → Prop} (hP : ∀ (r : Option Value) (A' : hs_A), (A = A' ∧ ∃ z : Int32, r = some (.int z) ∧ z = (ro h &&& (ro (40 + h) ^^^ Int32.ofNat 4294967295))) → P r A') : hpa (f, g) d (some (.int)) hm_t21 0 [.ref 27, .int a1] [] A P := by
  have k4294967295 := hk_4294967295
  have hn10 := hL.1
  have ch := hn_c (n := h) (z := Int32.ofNat h) rfl (by omega)
  have cah : a1.toInt = (h : Int) := by rw [ha]; exact ch
  have cih : a1.toNatClampNeg = h := by have := hn_cn (j := a1) (by omega); omega
  refine hpa_aload_n (by rfl) rfl ?_
  refine hpa_get (v := .ref 28) (by rfl) (by rfl) (by rfl) rfl ?_
  refine hpa_iload_n (by rfl) rfl ?_
  refine hpx_iald (by rfl) (by rfl) (fun h0v1 h1v1 v1 ev1 => ?_)
  rw [show (a1).toNatClampNeg = h from by have := hn_cn (j := a1) (by omega); omega] at ev1
  have lv1 := ev1.symm.trans ((hL.2.2.2.2 (h) (by omega)).1.1)
  clear ev1
  subst lv1
  refine hpa_aload_n (by rfl) rfl ?_
  refine hpa_get (v := .ref 30) (by rfl) (by rfl) (by rfl) rfl ?_
  refine hpa_iload_n (by rfl) rfl ?_
  refine hpx_iald (by rfl) (by rfl) (fun h0v2 h1v2 v2 ev2 => ?_)
  rw [show (a1).toNatClampNeg = h from by have := hn_cn (j := a1) (by omega); omega] at ev2
  have lv2 := ev2.symm.trans ((hL.2.2.2.2 (h) (by omega)).1.2.2)
  clear ev2
  subst lv2
  refine hpa_iconst (by rfl) rfl ?_
  refine hpa_ixor (by rfl) ?_
  refine hpa_iand (by rfl) ?_
  exact hpa_ireturn (by rfl) rfl (hP _ _ ⟨rfl, _, rfl, rfl⟩)
theorem hP21_26 {g d : Nat} {A : hs_A} {ro : Nat → Int32} {n : Nat} {h : Nat} (a1 : Int32) (hL : hdL 26 ro n A) (hh : h < n) (ha : a1 = Int32.ofNat h) : hpC g d 21 hm_m21 [.ref 27, .int a1] A (fun r A' => A = A' ∧ ∃ z : Int32, r = some (.int z) ∧ z = (ro h &&& (ro (40 + h) ^^^ Int32.ofNat 4294967295))) := hpC.all (fun f d => hW21_26 a1 hL hh ha (fun r A' h => h))
theorem hW18_33 {g d f : Nat} {A : hs_A} {ro : Nat → Int32} {n : Nat} {h : Nat} (a1 : Int32) (hL : hdL 33 ro n A) (hh : h < n) (ha : a1 = Int32.ofNat h) {P : Option Value → hs_A → Prop} (hP : ∀ (r : Option Value) (A' : hs_A), (A = A' ∧ ∃ z : Int32, r = some (.int z) ∧ ((z.toInt = 1 ∧ (ro (50 + h)).toInt = 1) ∨ (z.toInt = 0 ∧ (ro (50 + h)).toInt = 0))) → P r A') : hpa (f, g) d (some (.boolean)) hm_t18 0 [.ref 34, .int a1] [] A P := by
  have k0 := hk_0
  have k1 := hk_1
  have hn10 := hL.1
  have ch := hn_c (n := h) (z := Int32.ofNat h) rfl (by omega)
  have cah : a1.toInt = (h : Int) := by rw [ha]; exact ch
  have cih : a1.toNatClampNeg = h := by have := hn_cn (j := a1) (by omega); omega
  have hb := hL.2.2.2.1.bit (a := a1) (by omega) (by omega) (by omega)
  rw [cih] at hb
  refine hpa_aload_n (by rfl) rfl ?_
  refine hpj_getK (by rfl) (by rfl) (by rfl) rfl ?_
  refine hpa_iload_n (by rfl) rfl ?_
  refine hpa_ishr (by rfl) ?_
  refine hpa_iconst (by rfl) rfl ?_
  refine hpa_iand (by rfl) ?_
  refine hpj_zeq (by rfl) rfl (fun q1 => ?_) (fun q1 => ?_)
  ·
    have hq : hBit (A.1 33 9) a1 = 0 := q1
    refine hpa_iconst (by rfl) rfl ?_
    exact hpa_ireturn (by rfl) (by rfl) (hP _ _ ⟨rfl, _, rfl, Or.inr ⟨hk_0, by omega⟩⟩)
  ·
    have hq : ¬ hBit (A.1 33 9) a1 = 0 := q1
    refine hpa_iconst (by rfl) rfl ?_
    refine hpa_goto (by rfl) ?_
    exact hpa_ireturn (by rfl) (by rfl) (hP _ _ ⟨rfl, _, rfl, Or.inl ⟨hk_1, by omega⟩⟩)
theorem hP18_33 {g d : Nat} {A : hs_A} {ro : Nat → Int32} {n : Nat} {h : Nat} (a1 : Int32) (hL : hdL 33 ro n A) (hh : h < n) (ha : a1 = Int32.ofNat h) : hpC g d 18 hm_m18 [.ref 34, .int a1] A (fun r A' => A = A' ∧ ∃ z : Int32, r = some (.int z) ∧ ((z.toInt = 1 ∧ (ro (50 + h)).toInt = 1) ∨ (z.toInt = 0 ∧ (ro (50 + h)).toInt = 0))) := hpC.all (fun f d => hW18_33 a1 hL hh ha (fun r A' h => h))
theorem hW19_33 {g d f : Nat} {A : hs_A} {ro : Nat → Int32} {n : Nat} {h : Nat} (a1 : Int32) (hL : hdL 33 ro n A) (hh : h < n) (ha : a1 = Int32.ofNat h) {P : Option Value → hs_A → Prop} (hP : ∀ (r : Option Value) (A' : hs_A), (A = A' ∧ ∃ z : Int32, r = some (.int z) ∧ ((z.toInt = 1 ∧ huH ro h = true) ∨ (z.toInt = 0 ∧ huH ro h = false))) → P r A') : hpa (f, g) d (some (.boolean)) hm_t19 0 [.ref 34, .int a1] [] A P := by
  have k0 := hk_0
  have k1 := hk_1
  have hn10 := hL.1
  have ch := hn_c (n := h) (z := Int32.ofNat h) rfl (by omega)
  have cah : a1.toInt = (h : Int) := by rw [ha]; exact ch
  have cih : a1.toNatClampNeg = h := by have := hn_cn (j := a1) (by omega); omega
  refine hpa_aload_n (by rfl) rfl ?_
  refine hpa_iload_n (by rfl) rfl ?_
  refine hpa_call0 (by rfl) (by rfl) (by rfl) (by rfl) (by rfl) (by rfl) (hP18_33 a1 hL (by omega) (by omega)) ?_
  rintro _ _ ⟨rfl, z2, rfl, (⟨fz_A1, ON_A1⟩ | ⟨fz_A1, ON_A1⟩)⟩
  ·
    have ON1 := ON_A1
    refine hpj_zeq (by rfl) rfl (fun q3 => False.elim (by omega)) (fun q3 => ?_)
    refine hpa_aload_n (by rfl) rfl ?_
    refine hpa_get (v := .ref 40) (by rfl) (by rfl) (by rfl) rfl ?_
    refine hpa_iload_n (by rfl) rfl ?_
    refine hpx_iald (by rfl) (by rfl) (fun h0v4 h1v4 v4 ev4 => ?_)
    rw [show (a1).toNatClampNeg = h from by have := hn_cn (j := a1) (by omega); omega] at ev4
    have lv4 := ev4.symm.trans ((hL.2.2.2.2 (h) (by omega)).2.2.2)
    clear ev4
    subst lv4
    refine hpj_zne (by rfl) rfl (fun q5 => ?_) (fun q5 => ?_)
    ·
      refine hpa_iconst (by rfl) rfl ?_
      exact hpa_ireturn (by rfl) (by rfl) (hP _ _ ⟨rfl, _, rfl, Or.inr ⟨hk_0, by unfold huH; rw [decide_eq_false q5, Bool.and_false]⟩⟩)
    ·
      refine hpa_iconst (by rfl) rfl ?_
      refine hpa_goto (by rfl) ?_
      exact hpa_ireturn (by rfl) (by rfl) (hP _ _ ⟨rfl, _, rfl, Or.inl ⟨hk_1, by unfold huH; rw [decide_eq_true ON1, decide_eq_true q5]; rfl⟩⟩)
  ·
    have ON1 := ON_A1
    refine hpj_zeq (by rfl) rfl (fun q6 => ?_) (fun q6 => False.elim (by omega))
    refine hpa_iconst (by rfl) rfl ?_
    exact hpa_ireturn (by rfl) (by rfl) (hP _ _ ⟨rfl, _, rfl, Or.inr ⟨hk_0, by unfold huH; rw [decide_eq_false (by omega), Bool.false_and]⟩⟩)
theorem hP19_33 {g d : Nat} {A : hs_A} {ro : Nat → Int32} {n : Nat} {h : Nat} (a1 : Int32) (hL : hdL 33 ro n A) (hh : h < n) (ha : a1 = Int32.ofNat h) : hpC g d 19 hm_m19 [.ref 34, .int a1] A (fun r A' => A = A' ∧ ∃ z : Int32, r = some (.int z) ∧ ((z.toInt = 1 ∧ huH ro h = true) ∨ (z.toInt = 0 ∧ huH ro h = false))) := hpC.all (fun f d => hW19_33 a1 hL hh ha (fun r A' h => h))
theorem hW21_33 {g d f : Nat} {A : hs_A} {ro : Nat → Int32} {n : Nat} {h : Nat} (a1 : Int32) (hL : hdL 33 ro n A) (hh : h < n) (ha : a1 = Int32.ofNat h) {P : Option Value → hs_A → Prop} (hP : ∀ (r : Option Value) (A' : hs_A), (A = A' ∧ ∃ z : Int32, r = some (.int z) ∧ z = (ro h &&& (ro (40 + h) ^^^ Int32.ofNat 4294967295))) → P r A') : hpa (f, g) d (some (.int)) hm_t21 0 [.ref 34, .int a1] [] A P := by
  have k4294967295 := hk_4294967295
  have hn10 := hL.1
  have ch := hn_c (n := h) (z := Int32.ofNat h) rfl (by omega)
  have cah : a1.toInt = (h : Int) := by rw [ha]; exact ch
  have cih : a1.toNatClampNeg = h := by have := hn_cn (j := a1) (by omega); omega
  refine hpa_aload_n (by rfl) rfl ?_
  refine hpa_get (v := .ref 35) (by rfl) (by rfl) (by rfl) rfl ?_
  refine hpa_iload_n (by rfl) rfl ?_
  refine hpx_iald (by rfl) (by rfl) (fun h0v1 h1v1 v1 ev1 => ?_)
  rw [show (a1).toNatClampNeg = h from by have := hn_cn (j := a1) (by omega); omega] at ev1
  have lv1 := ev1.symm.trans ((hL.2.2.2.2 (h) (by omega)).1.1)
  clear ev1
  subst lv1
  refine hpa_aload_n (by rfl) rfl ?_
  refine hpa_get (v := .ref 37) (by rfl) (by rfl) (by rfl) rfl ?_
  refine hpa_iload_n (by rfl) rfl ?_
  refine hpx_iald (by rfl) (by rfl) (fun h0v2 h1v2 v2 ev2 => ?_)
  rw [show (a1).toNatClampNeg = h from by have := hn_cn (j := a1) (by omega); omega] at ev2
  have lv2 := ev2.symm.trans ((hL.2.2.2.2 (h) (by omega)).1.2.2)
  clear ev2
  subst lv2
  refine hpa_iconst (by rfl) rfl ?_
  refine hpa_ixor (by rfl) ?_
  refine hpa_iand (by rfl) ?_
  exact hpa_ireturn (by rfl) rfl (hP _ _ ⟨rfl, _, rfl, rfl⟩)
theorem hP21_33 {g d : Nat} {A : hs_A} {ro : Nat → Int32} {n : Nat} {h : Nat} (a1 : Int32) (hL : hdL 33 ro n A) (hh : h < n) (ha : a1 = Int32.ofNat h) : hpC g d 21 hm_m21 [.ref 34, .int a1] A (fun r A' => A = A' ∧ ∃ z : Int32, r = some (.int z) ∧ z = (ro h &&& (ro (40 + h) ^^^ Int32.ofNat 4294967295))) := hpC.all (fun f d => hW21_33 a1 hL hh ha (fun r A' h => h))
theorem hu_xor0 {x y : Int32} (h0 : 0 ≤ x.toInt) (h1 : 0 ≤ y.toInt) : 0 ≤ (x ^^^ y).toInt := by
  have hx := hn_bv h0
  have hy := hn_bv h1
  have rx := hn_rng x
  have ry := hn_rng y
  have h5 : x.toBitVec.toNat ^^^ y.toBitVec.toNat < 2 ^ 31 := Nat.xor_lt_two_pow (by omega) (by omega)
  have e : (x ^^^ y).toBitVec.toNat = x.toBitVec.toNat ^^^ y.toBitVec.toNat := by rw [Int32.toBitVec_xor, BitVec.toNat_xor]
  have h4 := hn_bv2 (x := x ^^^ y) (by rw [e]; omega)
  omega
theorem hs_fm {x : Int32} (h : 0 ≤ x.toInt) : ((x - x / Int32.ofNat 24 * Int32.ofNat 24).toInt = x.toInt % 24) := hn_rem (y := Int32.ofNat 24) h (by decide)
theorem hW243 {g d f : Nat} {A : hs_A} (a1 a2 : Int32) (pa1 : 0 ≤ a1.toInt) (ha : a2 = Int32.ofNat 24) {P : Option Value → hs_A → Prop} (hP : ∀ (r : Option Value) (A' : hs_A), (A = A' ∧ ∃ z : Int32, r = some (.int z) ∧ z.toInt = a1.toInt % 24) → P r A') : hpa (f, g) d (some (.int)) hm_t243 0 [.int a1, .int a2, .retAddr 0] [] A P := by
  have ax := hu_xor0 (y := Int32.ofNat 24) pa1 (by decide)
  have k24 := hk_24
  have a24 : a2.toInt = 24 := by rw [ha]; exact hk_24
  refine hpa_iload_n (by rfl) rfl ?_
  refine hpa_iload_n (by rfl) rfl ?_
  refine hpa_irem (by rfl) (by rw [ha]; decide) ?_
  rw [ha]
  refine hpa_s1 (by rfl) (Or.inl ⟨_, rfl, rfl⟩) rfl ?_
  refine hpa_iload_n (by rfl) rfl ?_
  refine hpa_iload_n (by rfl) rfl ?_
  refine hpa_ixor (by rfl) ?_
  refine hpj_zge (by rfl) rfl (fun q1 => ?_) (fun q1 => ?_)
  ·
    refine hpa_iload_n (by rfl) rfl ?_
    exact hpa_ireturn (by rfl) rfl (hP _ _ ⟨rfl, _, rfl, hs_fm pa1⟩)
  ·
    refine hpa_iload_n (by rfl) rfl ?_
    refine hpj_zeq (by rfl) (hs_fm pa1) (fun q2 => ?_) (fun q2 => ?_)
    ·
      refine hpa_iload_n (by rfl) rfl ?_
      exact hpa_ireturn (by rfl) rfl (hP _ _ ⟨rfl, _, rfl, hs_fm pa1⟩)
    ·
      refine hpa_iload_n (by rfl) rfl ?_
      refine hpa_iload_n (by rfl) rfl ?_
      refine hpj_iadd (by rfl) (hs_fm pa1) rfl (by omega) (by omega) (fun z3 ez3 => ?_)
      exact hpa_ireturn (by rfl) rfl (hP _ _ ⟨rfl, _, rfl, by omega⟩)
theorem hP243 {g d : Nat} {A : hs_A} (a1 a2 : Int32) (pa1 : 0 ≤ a1.toInt) (ha : a2 = Int32.ofNat 24) : hpC g d 243 hm_m243 [.int a1, .int a2] A (fun r A' => A = A' ∧ ∃ z : Int32, r = some (.int z) ∧ z.toInt = a1.toInt % 24) := hpC.all (fun f d => hW243 a1 a2 pa1 ha (fun r A' h => h))
theorem hW22_26 {g d f : Nat} {A : hs_A} {T : Nat} {D : hg_D} {ro : Nat → Int32} {n : Nat} (hT : hTT T) (hC : hdK T D A) (hL : hdL 26 ro n A) (hO : huO ro n) (hD : ∀ t, t < 24 → 0 ≤ D.1 t ∧ D.1 t ≤ 255) {P : Option Value → hs_A → Prop} (hP : ∀ (r : Option Value) (A' : hs_A), (A = A' ∧ ∃ z : Int32, r = some (.int z) ∧ z = huN D ro ∧ (0 ≤ z.toInt ∧ z.toInt ≤ 255)) → P r A') : hpa (f, g) d (some (.int)) hm_t22 0 [.ref 27, .ref (T + 1)] [] A P := by
  have k24 := hk_24
  have k4294967295 := hk_4294967295
  have hT9 : T ≤ 11 := by rcases hT with rfl | rfl <;> omega
  obtain ⟨kw, V, ns, zz, k1, k2, kM, k3⟩ := hC
  have hX := kM.2.2.1.1
  have hO70 := hO.2.1
  refine hpa_aload_n (by rfl) rfl ?_
  refine hpj_getK (by rfl) (by rfl) (by rfl) rfl ?_
  rw [show (A.1 26 8) = ro 71 from hL.2.2.1.2.1]
  refine hpa_iconst (by rfl) rfl ?_
  refine hpj_cne (by rfl) rfl hk_4294967295 (fun q1 => ?_) (fun q1 => ?_)
  ·
    refine hpa_aload_n (by rfl) rfl ?_
    refine hpj_getK (by rfl) (by rfl) (by rfl) rfl ?_
    rw [show (A.1 26 8) = ro 71 from hL.2.2.1.2.1]
    exact hpa_ireturn (by rfl) rfl (hP _ _ ⟨rfl, _, rfl, by unfold huN; rw [if_neg q1], by have := hO.2.2; omega⟩)
  ·
    refine hpa_aload_n (by rfl) rfl ?_
    refine hpa_get (v := .ref (T + 4)) (by rfl) (hsT hT) (by rfl) (hvT hT (by omega)) ?_
    refine hpa_aload_n (by rfl) rfl ?_
    refine hpj_getK (by rfl) (by rfl) (by rfl) rfl ?_
    rw [show (A.1 26 7) = ro 70 from hL.2.2.1.1]
    refine hpa_bipush (by rfl) rfl ?_
    refine hpa_call2 (by rfl) (by decide) (by rfl) (by rfl) (by rfl) (hP243 (ro 70) (Int32.ofNat 24) hO70 rfl) ?_
    rintro _ _ ⟨rfl, z3, rfl, Z_A2⟩
    refine hpx_iald (by rfl) (hsT3 hT) (fun h0v4 h1v4 v4 ev4 => ?_)
    have hm : 0 ≤ (ro 70).toInt % 24 ∧ (ro 70).toInt % 24 < 24 := by omega
    have c21 := hn_cn (j := z3) (by omega)
    have e21 := hX ((ro 70).toInt % 24).toNat (by omega)
    rw [show ((ro 70).toInt % 24).toNat = (z3).toNatClampNeg by omega, ev4] at e21
    have d21 := hD ((ro 70).toInt % 24).toNat (by omega)
    rw [show ((ro 70).toInt % 24).toNat = (z3).toNatClampNeg by omega] at d21
    refine hpa_goto (by rfl) ?_
    exact hpa_ireturn (by rfl) rfl (hP _ _ ⟨rfl, _, rfl, by unfold huN; rw [if_pos q1, show ((ro 70).toInt % 24).toNat = (z3).toNatClampNeg by omega]; exact Int32.toInt_inj.mp (e21.trans (hofi e21).symm), by omega⟩)
theorem hP22_26 {g d : Nat} {A : hs_A} {T : Nat} {D : hg_D} {ro : Nat → Int32} {n : Nat} (hT : hTT T) (hC : hdK T D A) (hL : hdL 26 ro n A) (hO : huO ro n) (hD : ∀ t, t < 24 → 0 ≤ D.1 t ∧ D.1 t ≤ 255) : hpC g d 22 hm_m22 [.ref 27, .ref (T + 1)] A (fun r A' => A = A' ∧ ∃ z : Int32, r = some (.int z) ∧ z = huN D ro ∧ (0 ≤ z.toInt ∧ z.toInt ≤ 255)) := hpC.all (fun f d => hW22_26 hT hC hL hO hD (fun r A' h => h))
theorem hW22_33 {g d f : Nat} {A : hs_A} {T : Nat} {D : hg_D} {ro : Nat → Int32} {n : Nat} (hT : hTT T) (hC : hdK T D A) (hL : hdL 33 ro n A) (hO : huO ro n) (hD : ∀ t, t < 24 → 0 ≤ D.1 t ∧ D.1 t ≤ 255) {P : Option Value → hs_A → Prop} (hP : ∀ (r : Option Value) (A' : hs_A), (A = A' ∧ ∃ z : Int32, r = some (.int z) ∧ z = huN D ro ∧ (0 ≤ z.toInt ∧ z.toInt ≤ 255)) → P r A') : hpa (f, g) d (some (.int)) hm_t22 0 [.ref 34, .ref (T + 1)] [] A P := by
  have k24 := hk_24
  have k4294967295 := hk_4294967295
  have hT9 : T ≤ 11 := by rcases hT with rfl | rfl <;> omega
  obtain ⟨kw, V, ns, zz, k1, k2, kM, k3⟩ := hC
  have hX := kM.2.2.1.1
  have hO70 := hO.2.1
  refine hpa_aload_n (by rfl) rfl ?_
  refine hpj_getK (by rfl) (by rfl) (by rfl) rfl ?_
  rw [show (A.1 33 8) = ro 71 from hL.2.2.1.2.1]
  refine hpa_iconst (by rfl) rfl ?_
  refine hpj_cne (by rfl) rfl hk_4294967295 (fun q1 => ?_) (fun q1 => ?_)
  ·
    refine hpa_aload_n (by rfl) rfl ?_
    refine hpj_getK (by rfl) (by rfl) (by rfl) rfl ?_
    rw [show (A.1 33 8) = ro 71 from hL.2.2.1.2.1]
    exact hpa_ireturn (by rfl) rfl (hP _ _ ⟨rfl, _, rfl, by unfold huN; rw [if_neg q1], by have := hO.2.2; omega⟩)
  ·
    refine hpa_aload_n (by rfl) rfl ?_
    refine hpa_get (v := .ref (T + 4)) (by rfl) (hsT hT) (by rfl) (hvT hT (by omega)) ?_
    refine hpa_aload_n (by rfl) rfl ?_
    refine hpj_getK (by rfl) (by rfl) (by rfl) rfl ?_
    rw [show (A.1 33 7) = ro 70 from hL.2.2.1.1]
    refine hpa_bipush (by rfl) rfl ?_
    refine hpa_call2 (by rfl) (by decide) (by rfl) (by rfl) (by rfl) (hP243 (ro 70) (Int32.ofNat 24) hO70 rfl) ?_
    rintro _ _ ⟨rfl, z3, rfl, Z_A2⟩
    refine hpx_iald (by rfl) (hsT3 hT) (fun h0v4 h1v4 v4 ev4 => ?_)
    have hm : 0 ≤ (ro 70).toInt % 24 ∧ (ro 70).toInt % 24 < 24 := by omega
    have c21 := hn_cn (j := z3) (by omega)
    have e21 := hX ((ro 70).toInt % 24).toNat (by omega)
    rw [show ((ro 70).toInt % 24).toNat = (z3).toNatClampNeg by omega, ev4] at e21
    have d21 := hD ((ro 70).toInt % 24).toNat (by omega)
    rw [show ((ro 70).toInt % 24).toNat = (z3).toNatClampNeg by omega] at d21
    refine hpa_goto (by rfl) ?_
    exact hpa_ireturn (by rfl) rfl (hP _ _ ⟨rfl, _, rfl, by unfold huN; rw [if_pos q1, show ((ro 70).toInt % 24).toNat = (z3).toNatClampNeg by omega]; exact Int32.toInt_inj.mp (e21.trans (hofi e21).symm), by omega⟩)
theorem hP22_33 {g d : Nat} {A : hs_A} {T : Nat} {D : hg_D} {ro : Nat → Int32} {n : Nat} (hT : hTT T) (hC : hdK T D A) (hL : hdL 33 ro n A) (hO : huO ro n) (hD : ∀ t, t < 24 → 0 ≤ D.1 t ∧ D.1 t ≤ 255) : hpC g d 22 hm_m22 [.ref 34, .ref (T + 1)] A (fun r A' => A = A' ∧ ∃ z : Int32, r = some (.int z) ∧ z = huN D ro ∧ (0 ≤ z.toInt ∧ z.toInt ≤ 255)) := hpC.all (fun f d => hW22_33 hT hC hL hO hD (fun r A' h => h))
/-! AN HOUR, house by house from the last one: the row when the houses from k on are done -/
def huRm (D : hg_D) (n : Nat) (b : Bool) (s : Int32) (ro : Nat → Int32) (k : Nat) : Nat → Int32 := fun j =>
  if 30 + k ≤ j ∧ j < 30 + n then huHd D n ro (j - 30)
  else if 40 + k ≤ j ∧ j < 40 + n then ro j ||| (huHd D n ro (j - 40) &&& ro (j - 40))
  else if 60 + k ≤ j ∧ j < 60 + n then huGr D n ro b s (j - 60)
  else if j = 72 then ro 72 + Int32.ofNat (huCt (huDy D n ro b s) n) - Int32.ofNat (huCt (huDy D n ro b s) k)
  else ro j
section HSR
variable {D : hg_D} {n k h : Nat} {b : Bool} {s : Int32} {ro : Nat → Int32}
theorem hs_ac {a c : Int32} : a + c - c = a := by
  apply Int32.toBitVec_inj.mp
  show a.toBitVec + c.toBitVec - c.toBitVec = a.toBitVec
  exact BitVec.add_sub_cancel _ _
theorem huRm_low (h9 : n ≤ 10) {j : Nat} (hj : j < 30 ∨ 50 ≤ j ∧ j < 60 ∨ j = 70 ∨ j = 71) : huRm D n b s ro k j = ro j := by
  unfold huRm
  rw [if_neg (by omega), if_neg (by omega), if_neg (by omega), if_neg (by omega)]
theorem huRm_old (h9 : n ≤ 10) (hk : h < k) (hn : h < n) : huRm D n b s ro k (30 + h) = ro (30 + h) ∧ huRm D n b s ro k (40 + h) = ro (40 + h) ∧ huRm D n b s ro k (60 + h) = ro (60 + h) := by
  unfold huRm
  refine ⟨?_, ?_, ?_⟩
  · rw [if_neg (by omega), if_neg (by omega), if_neg (by omega), if_neg (by omega)]
  · rw [if_neg (by omega), if_neg (by omega), if_neg (by omega), if_neg (by omega)]
  · rw [if_neg (by omega), if_neg (by omega), if_neg (by omega), if_neg (by omega)]
theorem huRm_new (h9 : n ≤ 10) (hk : k ≤ h) (hn : h < n) : huRm D n b s ro k (30 + h) = huHd D n ro h ∧ huRm D n b s ro k (40 + h) = ro (40 + h) ||| (huHd D n ro h &&& ro h) ∧ huRm D n b s ro k (60 + h) = huGr D n ro b s h := by
  unfold huRm
  refine ⟨?_, ?_, ?_⟩
  · rw [if_pos (by omega), show 30 + h - 30 = h by omega]
  · rw [if_neg (by omega), if_pos (by omega), show 40 + h - 40 = h by omega]
  · rw [if_neg (by omega), if_neg (by omega), if_pos (by omega), show 60 + h - 60 = h by omega]
theorem huRm_72 (h9 : n ≤ 10) : huRm D n b s ro k 72 = ro 72 + Int32.ofNat (huCt (huDy D n ro b s) n) - Int32.ofNat (huCt (huDy D n ro b s) k) := by
  unfold huRm
  rw [if_neg (by omega), if_neg (by omega), if_neg (by omega), if_pos rfl]
theorem huX_at (h9 : n ≤ 10) (hk : h < k) (hn : h < n) {t : Int32} : huX (Int32.ofNat n) (huRm D n b s ro k) (Int32.ofNat h) t = huX (Int32.ofNat n) ro (Int32.ofNat h) t := by
  have c : (Int32.ofNat h).toNatClampNeg = h := by
    have e := hn_c (n := h) (z := Int32.ofNat h) rfl (by omega)
    have := hn_cn (j := Int32.ofNat h) (by omega)
    omega
  have e4 : huRm D n b s ro k h = ro h := huRm_low h9 (by omega)
  have e5 : huRm D n b s ro k (10 + h) = ro (10 + h) := huRm_low h9 (by omega)
  have e8 := (huRm_old (D := D) (b := b) (s := s) (ro := ro) h9 hk hn).2.1
  funext i
  unfold huX
  rw [c, e4, e5, e8]
theorem huRm_H (h9 : n ≤ 10) (hk : h < k) (hn : h < n) : huH (huRm D n b s ro k) h = huH ro h := by
  unfold huH
  rw [huRm_low h9 (by omega), (huRm_old h9 hk hn).2.2]
theorem hs_ofInt {v : Int} (h0 : 0 ≤ v) (h1 : v ≤ 10000) : (Int32.ofInt v).toInt = v := Int32.toInt_ofInt_of_le (by omega) (by omega)
/-- bounds stay -/
theorem huN_in (hO : huO ro n) (hD : ∀ t, t < 24 → 0 ≤ D.1 t ∧ D.1 t ≤ 255) : 0 ≤ (huN D ro).toInt ∧ (huN D ro).toInt ≤ 255 := by
  unfold huN
  split
  · have d := hD ((ro 70).toInt % 24).toNat (by have := hO.2.1; omega)
    have e := hs_ofInt d.1 (by omega)
    omega
  · have := hO.2.2
    omega
theorem huHd_in (hO : huO ro n) (hD : ∀ t, t < 24 → 0 ≤ D.1 t ∧ D.1 t ≤ 255) : 0 ≤ (huHd D n ro h).toInt ∧ (huHd D n ro h).toInt ≤ 255 := by
  unfold huHd
  split
  · split
    · exact huN_in hO hD
    · exact huW_in
  · rw [hk_0]
    omega
theorem huGr_in (hO : huO ro n) (hn : h < n) (hD2 : 0 ≤ D.2.1 ∧ D.2.1 ≤ 10000) : 0 ≤ (huGr D n ro b s h).toInt := by
  have o := (hO.1 h hn).2.2.2.1
  unfold huGr
  split
  · have e := hn_sub (z := ro (60 + h) - Int32.ofNat 1) rfl (by rw [hk_1]; omega) (by rw [hk_1]; have := hn_rng (ro (60 + h)); omega)
    rw [hk_1] at e
    omega
  · split
    · rw [hs_ofInt hD2.1 hD2.2]
      exact hD2.1
    · exact o
theorem hs_sub {a w d : Int32} (h : a &&& w = a) : (a ||| (d &&& w)) &&& w = a ||| (d &&& w) := hub_ext (fun p _ => by
  have q : (hub a p && hub w p) = hub a p := by rw [← hub_and, h]
  rw [hub_and, hub_or, hub_and]
  revert q
  cases hub a p <;> cases hub w p <;> cases hub d p <;> decide)
theorem huO.mix (hO : huO ro n) (h9 : n ≤ 10) (hD : ∀ t, t < 24 → 0 ≤ D.1 t ∧ D.1 t ≤ 255) (hD2 : 0 ≤ D.2.1 ∧ D.2.1 ≤ 10000) : huO (huRm D n b s ro k) n := by
  obtain ⟨o1, o2, o3⟩ := id hO
  refine ⟨fun h hn => ?_, by rw [huRm_low h9 (by omega)]; exact o2, by rw [huRm_low h9 (by omega)]; exact o3⟩
  obtain ⟨p1, p2, p3, p4⟩ := o1 h hn
  rw [huRm_low h9 (by omega)]
  have hd := huHd_in (h := h) hO hD
  have ha := hn_and (x := huHd D n ro h) (y := ro h) p1.1
  by_cases q : h < k
  · obtain ⟨e1, e2, e3⟩ := huRm_old (D := D) (b := b) (s := s) (ro := ro) h9 q hn
    rw [e1, e2, e3]
    exact ⟨p1, p2, p3, p4⟩
  · obtain ⟨e1, e2, e3⟩ := huRm_new (D := D) (b := b) (s := s) (ro := ro) h9 (by omega : k ≤ h) hn
    rw [e1, e2, e3]
    exact ⟨p1, hn_or p2.1 p2.2 ha.1 (by omega), hd, huGr_in hO hn hD2, hs_sub p4.2⟩
theorem huRm_n (h9 : n ≤ 10) : ∀ j, j < 73 → huRm D n b s ro n j = ro j := fun j hj => by
  unfold huRm
  rw [if_neg (by omega), if_neg (by omega), if_neg (by omega)]
  split
  next q => rw [hs_ac, q]
  · rfl
theorem huRm_0 (h9 : n ≤ 10) : ∀ j, j < 70 → huR D n b s ro j = huRm D n b s ro 0 j := fun j hj => by
  unfold huR huRm
  simp only [Nat.add_zero]
  by_cases q1 : 30 ≤ j ∧ j < 30 + n
  · rw [if_pos q1, if_pos q1]
  · rw [if_neg q1, if_neg q1]
    by_cases q2 : 40 ≤ j ∧ j < 40 + n
    · rw [if_pos q2, if_pos q2]
    · rw [if_neg q2, if_neg q2]
      by_cases q3 : 60 ≤ j ∧ j < 60 + n
      · rw [if_pos q3, if_pos q3]
      · rw [if_neg q3, if_neg q3, if_neg (by omega : ¬ j = 70), if_neg (by omega : ¬ j = 71), if_neg (by omega : ¬ j = 72), if_neg (by omega : ¬ j = 72)]
theorem huR_70 (h9 : n ≤ 10) : huR D n b s ro 70 = ro 70 + Int32.ofNat 1 ∧ huR D n b s ro 71 = Int32.ofNat 4294967295 ∧ huR D n b s ro 72 = ro 72 + Int32.ofNat (huCt (huDy D n ro b s) n) := by
  unfold huR
  refine ⟨?_, ?_, ?_⟩
  · rw [if_neg (by omega), if_neg (by omega), if_neg (by omega), if_pos rfl]
  · rw [if_neg (by omega), if_neg (by omega), if_neg (by omega), if_neg (by omega), if_pos rfl]
  · rw [if_neg (by omega), if_neg (by omega), if_neg (by omega), if_neg (by omega), if_neg (by omega), if_pos rfl]
theorem huRm_72s (h9 : n ≤ 10) : huRm D n b s ro k 72 = (if huDy D n ro b s k then huRm D n b s ro (k + 1) 72 + Int32.ofNat 1 else huRm D n b s ro (k + 1) 72) := by
  rw [huRm_72 h9, huRm_72 h9]
  have e : huCt (huDy D n ro b s) (k + 1) = huCt (huDy D n ro b s) k + (if huDy D n ro b s k then 1 else 0) := rfl
  rw [e]
  cases huDy D n ro b s k with
  | false =>
    rw [if_neg (by decide), if_neg (by decide)]
    rfl
  | true =>
    rw [if_pos rfl, if_pos rfl, Int32.ofNat_add]
    apply Int32.toBitVec_inj.mp
    show _ + _ - BitVec.ofNat 32 _ = _ + _ - (BitVec.ofNat 32 _ + 1#32) + 1#32
    bv_omega
/-- one house done -/
theorem hdL.step {L : Nat} {A A' : hs_A} (hm : hdL L (huRm D n b s ro (h + 1)) n A) (hn : h < n) (e10 : A'.1 L 10 = if huDy D n ro b s h then A.1 L 10 + Int32.ofNat 1 else A.1 L 10) (e : ∀ k, 6 ≤ k → k ≤ 9 → A'.1 L k = A.1 L k) (f5 : A'.2.1 (L + 5) h = huHd D n ro h) (f3 : A'.2.1 (L + 3) h = ro (40 + h) ||| (huHd D n ro h &&& ro h)) (f6 : A'.2.1 (L + 6) h = huGr D n ro b s h) (o : ∀ j x, 1 ≤ j → j ≤ 6 → x < 10 → ¬ (x = h ∧ (j = 3 ∨ j = 5 ∨ j = 6)) → A'.2.1 (L + j) x = A.2.1 (L + j) x) : hdL L (huRm D n b s ro h) n A' := by
  obtain ⟨h0, h1, ⟨h2, h3, h4⟩, ⟨m, m1, m2, m3⟩, h5⟩ := hm
  refine ⟨h0, by rw [e 6 (by omega) (by omega)]; exact h1, ⟨?_, ?_, ?_⟩, ⟨m, m1, by rw [e 9 (by omega) (by omega)]; exact m2, fun k hk => ?_⟩, fun k hk => ?_⟩
  · rw [e 7 (by omega) (by omega), h2, huRm_low h0 (by omega), huRm_low h0 (by omega)]
  · rw [e 8 (by omega) (by omega), h3, huRm_low h0 (by omega), huRm_low h0 (by omega)]
  · rw [e10, huRm_72s h0 (k := h), h4]
  · rw [huRm_low h0 (by omega), ← m3 k hk, huRm_low h0 (by omega)]
  · obtain ⟨⟨a1, a2, a3⟩, a4, a5, a6⟩ := h5 k hk
    rw [huRm_low h0 (by omega)] at a1 a2 a4
    rw [huRm_low h0 (by omega : k < 30 ∨ _), huRm_low h0 (by omega : 10 + k < 30 ∨ _), huRm_low h0 (by omega : 20 + k < 30 ∨ _)]
    have x1 := o 1 k (by omega) (by omega) (by omega) (by omega)
    have x2 := o 2 k (by omega) (by omega) (by omega) (by omega)
    have x4 := o 4 k (by omega) (by omega) (by omega) (by omega)
    by_cases q : k = h
    · subst q
      obtain ⟨n1, n2, n3⟩ := huRm_new (D := D) (b := b) (s := s) (ro := ro) h0 (Nat.le_refl k) hk
      rw [n1, n2, n3]
      exact ⟨⟨x1.trans a1, x2.trans a2, f3⟩, x4.trans a4, f5, f6⟩
    · have x3 := o 3 k (by omega) (by omega) (by omega) (by omega)
      have x5 := o 5 k (by omega) (by omega) (by omega) (by omega)
      have x6 := o 6 k (by omega) (by omega) (by omega) (by omega)
      by_cases q2 : k < h
      · obtain ⟨n1, n2, n3⟩ := huRm_old (D := D) (b := b) (s := s) (ro := ro) h0 q2 hk
        obtain ⟨o1, o2, o3⟩ := huRm_old (D := D) (b := b) (s := s) (ro := ro) h0 (by omega : k < h + 1) hk
        rw [n1, n2, n3]
        rw [o2] at a3
        rw [o1] at a5
        rw [o3] at a6
        exact ⟨⟨x1.trans a1, x2.trans a2, x3.trans a3⟩, x4.trans a4, x5.trans a5, x6.trans a6⟩
      · obtain ⟨n1, n2, n3⟩ := huRm_new (D := D) (b := b) (s := s) (ro := ro) h0 (by omega : h ≤ k) hk
        obtain ⟨o1, o2, o3⟩ := huRm_new (D := D) (b := b) (s := s) (ro := ro) h0 (by omega : h + 1 ≤ k) hk
        rw [n1, n2, n3]
        rw [o2] at a3
        rw [o1] at a5
        rw [o3] at a6
        exact ⟨⟨x1.trans a1, x2.trans a2, x3.trans a3⟩, x4.trans a4, x5.trans a5, x6.trans a6⟩
/-- the hour is over -/
theorem hdL.over {L : Nat} {A A' : hs_A} (hm : hdL L (huRm D n b s ro 0) n A) (e7 : A'.1 L 7 = A.1 L 7 + Int32.ofNat 1) (e8 : A'.1 L 8 = Int32.ofNat 4294967295) (e : ∀ k, k = 6 ∨ k = 9 ∨ k = 10 → A'.1 L k = A.1 L k) (f : ∀ j, 1 ≤ j → j ≤ 6 → ∀ x : Nat, x < 10 → A'.2.1 (L + j) x = A.2.1 (L + j) x) : hdL L (huR D n b s ro) n A' := by
  obtain ⟨h0, h1, ⟨h2, h3, h4⟩, ⟨m, m1, m2, m3⟩, h5⟩ := hm
  obtain ⟨r0, r1, r2⟩ := huR_70 (D := D) (b := b) (s := s) (ro := ro) h0
  refine ⟨h0, by rw [e 6 (by omega)]; exact h1, ⟨by rw [e7, h2, r0, huRm_low h0 (by omega)], by rw [e8, r1], ?_⟩, ⟨m, m1, by rw [e 9 (by omega)]; exact m2, fun k hk => by rw [huRm_0 h0 (50 + k) (by omega)]; exact m3 k hk⟩, fun k hk => ?_⟩
  · rw [e 10 (by omega), h4, r2, huRm_72 h0]
    show _ - Int32.ofNat 0 = _
    apply Int32.toBitVec_inj.mp
    show _ - 0#32 = _
    exact BitVec.sub_zero _
  · obtain ⟨⟨a1, a2, a3⟩, a4, a5, a6⟩ := h5 k hk
    rw [huRm_0 h0 k (by omega), huRm_0 h0 (10 + k) (by omega), huRm_0 h0 (40 + k) (by omega), huRm_0 h0 (20 + k) (by omega), huRm_0 h0 (30 + k) (by omega), huRm_0 h0 (60 + k) (by omega)]
    exact ⟨⟨(f 1 (by omega) (by omega) k (by omega)).trans a1, (f 2 (by omega) (by omega) k (by omega)).trans a2, (f 3 (by omega) (by omega) k (by omega)).trans a3⟩, (f 4 (by omega) (by omega) k (by omega)).trans a4, (f 5 (by omega) (by omega) k (by omega)).trans a5, (f 6 (by omega) (by omega) k (by omega)).trans a6⟩
end HSR
theorem hW28 {g d f : Nat} {A : hs_A} (a1 a2 : Int32) {P : Option Value → hs_A → Prop} (hP : ∀ (r : Option Value) (A' : hs_A), (A = A' ∧ ∃ z : Int32, r = some (.int z) ∧ z = huMx a1 a2) → P r A') : hpa (f, g) d (some (.int)) hm_t28 0 [.int a1, .int a2, .retAddr 0] [] A P := by
  have k1103515245 := hk_1103515245
  have k12345 := hk_12345
  have k15 := hk_15
  refine hpa_iload_n (by rfl) rfl ?_
  refine hpa_iload_n (by rfl) rfl ?_
  refine hpa_ixor (by rfl) ?_
  refine hpa_ldc (by rfl) rfl ?_
  refine hpa_imul (by rfl) ?_
  refine hpa_sipush (by rfl) rfl ?_
  refine hpa_iadd (by rfl) ?_
  refine hpa_s1 (by rfl) (Or.inl ⟨_, rfl, rfl⟩) rfl ?_
  refine hpa_iload_n (by rfl) rfl ?_
  refine hpa_iload_n (by rfl) rfl ?_
  refine hpa_bipush (by rfl) rfl ?_
  refine hpa_iushr (by rfl) ?_
  refine hpa_ixor (by rfl) ?_
  exact hpa_ireturn (by rfl) rfl (hP _ _ ⟨rfl, _, rfl, rfl⟩)
theorem hP28 {g d : Nat} {A : hs_A} (a1 a2 : Int32) : hpC g d 28 hm_m28 [.int a1, .int a2] A (fun r A' => A = A' ∧ ∃ z : Int32, r = some (.int z) ∧ z = huMx a1 a2) := hpC.all (fun f d => hW28 a1 a2 (fun r A' h => h))
theorem hW27 {g d f : Nat} {A : hs_A} (a1 a2 : Int32) {P : Option Value → hs_A → Prop} (hP : ∀ (r : Option Value) (A' : hs_A), (A = A' ∧ ∃ z : Int32, r = some (.int z) ∧ z = huLt a1 a2) → P r A') : hpa (f, g) d (some (.int)) hm_t27 0 [.int a1, .int a2, .retAddr 0] [] A P := by
  have k1 := hk_1
  have k100 := hk_100
  have k137 := hk_137
  refine hpa_iload_n (by rfl) rfl ?_
  refine hpa_sipush (by rfl) rfl ?_
  refine hpa_call2 (by rfl) (by decide) (by rfl) (by rfl) (by rfl) (hP28 a1 (Int32.ofNat 137)) ?_
  rintro _ _ ⟨rfl, z2, rfl, Z_A1⟩
  subst Z_A1
  refine hpa_iload_n (by rfl) rfl ?_
  refine hpa_call2 (by rfl) (by decide) (by rfl) (by rfl) (by rfl) (hP28 (huMx a1 (Int32.ofNat 137)) a2) ?_
  rintro _ _ ⟨rfl, z4, rfl, Z_A3⟩
  subst Z_A3
  refine hpa_s1 (by rfl) (Or.inl ⟨_, rfl, rfl⟩) rfl ?_
  refine hpa_iload_n (by rfl) rfl ?_
  refine hpa_iconst (by rfl) rfl ?_
  refine hpa_iushr (by rfl) ?_
  refine hpa_bipush (by rfl) rfl ?_
  refine hpa_irem (by rfl) (by decide) ?_
  exact hpa_ireturn (by rfl) rfl (hP _ _ ⟨rfl, _, rfl, rfl⟩)
theorem hP27 {g d : Nat} {A : hs_A} (a1 a2 : Int32) : hpC g d 27 hm_m27 [.int a1, .int a2] A (fun r A' => A = A' ∧ ∃ z : Int32, r = some (.int z) ∧ z = huLt a1 a2) := hpC.all (fun f d => hW27 a1 a2 (fun r A' h => h))
theorem hW23_26 {g d f : Nat} {A : hs_A} {h : Nat} (a1 a2 : Int32) (ha : a1 = Int32.ofNat h) (h10 : h < 10) {P : Option Value → hs_A → Prop} (hP : ∀ (r : Option Value) (A' : hs_A), (r = none ∧ ((A'.1 = A.1 ∧ A'.2.1 31 h = a2 ∧ A'.2.1 29 h = A.2.1 29 h ||| (a2 &&& A.2.1 27 h) ∧ ∀ i j, ¬ (i = 31 ∧ j = h) → ¬ (i = 29 ∧ j = h) → A'.2.1 i j = A.2.1 i j))) → P r A') : hpa (f, g) d none hm_t23 0 [.ref 27, .int a1, .int a2] [] A P := by
  have ch := hn_c (n := h) (z := Int32.ofNat h) rfl (by omega)
  have cah : a1.toInt = (h : Int) := by rw [ha]; exact ch
  have cih : a1.toNatClampNeg = h := by have := hn_cn (j := a1) (by omega); omega
  refine hpa_aload_n (by rfl) rfl ?_
  refine hpa_get (v := .ref 32) (by rfl) (by rfl) (by rfl) rfl ?_
  refine hpa_iload_n (by rfl) rfl ?_
  refine hpa_iload_n (by rfl) rfl ?_
  refine hpx_iast (by rfl) (by rfl) (fun A1 h0A1 h1A1 eA1 fA1 gA1 => ?_)
  rw [cih] at fA1
  refine hpa_aload_n (by rfl) rfl ?_
  refine hpa_get (v := .ref 30) (by rfl) (by rfl) (by rfl) rfl ?_
  refine hpa_iload_n (by rfl) rfl ?_
  refine hpa_dup2IR (by rfl) ?_
  refine hpx_iald (by rfl) (by rfl) (fun h0v2 h1v2 v2 ev2 => ?_)
  rw [cih] at ev2
  subst ev2
  refine hpa_iload_n (by rfl) rfl ?_
  refine hpa_aload_n (by rfl) rfl ?_
  refine hpa_get (v := .ref 28) (by rfl) (by rfl) (by rfl) rfl ?_
  refine hpa_iload_n (by rfl) rfl ?_
  refine hpx_iald (by rfl) (by rfl) (fun h0v3 h1v3 v3 ev3 => ?_)
  rw [cih] at ev3
  subst ev3
  refine hpa_iand (by rfl) ?_
  refine hpa_ior (by rfl) ?_
  refine hpx_iast (by rfl) (by rfl) (fun A4 h0A4 h1A4 eA4 fA4 gA4 => ?_)
  rw [cih] at fA4
  exact hpa_return (by rfl) rfl (hP _ _ ⟨rfl, eA4.trans eA1, by rw [fA4, hup2 (by omega), fA1, hup1], by rw [fA4, hup1, fA1, hup2 (by omega), hup2 (by omega)], fun i j h1 h2 => by rw [fA4, hup2 h2, fA1, hup2 h1]⟩)
theorem hP23_26 {g d : Nat} {A : hs_A} {h : Nat} (a1 a2 : Int32) (ha : a1 = Int32.ofNat h) (h10 : h < 10) : hpC g d 23 hm_m23 [.ref 27, .int a1, .int a2] A (fun r A' => r = none ∧ ((A'.1 = A.1 ∧ A'.2.1 31 h = a2 ∧ A'.2.1 29 h = A.2.1 29 h ||| (a2 &&& A.2.1 27 h) ∧ ∀ i j, ¬ (i = 31 ∧ j = h) → ¬ (i = 29 ∧ j = h) → A'.2.1 i j = A.2.1 i j))) := hpC.all (fun f d => hW23_26 a1 a2 ha h10 (fun r A' h => h))
def uM26_26 : Nat := 323519360143903915714511157848622935394214394224738723328456267400192
theorem hW26_26 {g d f : Nat} {A : hs_A} {T : Nat} {D : hg_D} {ro : Nat → Int32} {n : Nat} {b : Bool} (a3 a4 : Int32) (hT : hTT T) (hC : hdK T D A) (hL : hdL 26 ro n A) (hO : huO ro n) (hD : ∀ t, t < 24 → 0 ≤ D.1 t ∧ D.1 t ≤ 255) (hD2 : 0 ≤ D.2.1 ∧ D.2.1 ≤ 10000) (hb : a3.toInt = if b then 1 else 0) (hTn : (A.1 T 4).toInt = (n : Int)) (hH0 : uf_H A) {P : Option Value → hs_A → Prop} (hP : ∀ (r : Option Value) (A' : hs_A), (r = none ∧ (hdL 26 (huR D n b a4 ro) n A')) → P r A') : hpa (f, g) d none hm_t26 0 [.ref 27, .ref (T + 1), .ref 324, .int a3, .int a4, .retAddr 0, .retAddr 0, .retAddr 0] [] A P := by
  have k0 := hk_0
  have k1 := hk_1
  have k16 := hk_16
  have k4294967295 := hk_4294967295
  have hT9 : T ≤ 11 := by rcases hT with rfl | rfl <;> omega
  have h10 := hL.1
  have U0 : uf_W uM26_26 A A := uf_W.rfl
  have L15 : ∀ (f : Nat) (x15_6 : Int32) (x15_7 : Value) (A15 : hs_A) (k : Nat) (k15 : k ≤ n) (l15 : x15_6.toInt = (k : Int) - 1) (hL15 : hdL 26 (huRm D n b a4 ro k) n A15) (U15 : uf_W uM26_26 A A15) (H15 : uf_H A15), hpa (f, g) d none hm_t26 15 [.ref 27, .ref (T + 1), .ref 324, .int a3, .int a4, .int (huN D ro), .int x15_6, x15_7] [] A15 P := by
    intro f
    induction f with
    | zero => intros; exact hpa.zero
    | succ f ih15 =>
      intro x15_6 x15_7 A15 k k15 l15 hL15 U15 H15
      refine hpa_iloadS (by rfl) rfl ?_
      refine hpj_zlt (by rfl) rfl (fun q1 => ?_) (fun q1 => ?_)
      ·
        have k0 : k = 0 := by omega
        subst k0
        refine hpa_aload_n (by rfl) rfl ?_
        refine hpa_iconst (by rfl) rfl ?_
        refine hpj_putI (by rfl) (by rfl) (by rfl) (by rfl) (fun A2 eA2 fA2 => ?_)
        have UA2 := (U15).put eA2 fA2 (by decide +kernel)
        have HA2 := (H15).e (congrArg (fun q => q.2.2) fA2)
        refine hpa_aload_n (by rfl) rfl ?_
        refine hpa_dupR (by rfl) ?_
        refine hpj_getK (by rfl) (by rfl) (by rfl) rfl ?_
        refine hpa_iconst (by rfl) rfl ?_
        refine hpa_iadd (by rfl) ?_
        refine hpj_putI (by rfl) (by rfl) (by rfl) (by rfl) (fun A3 eA3 fA3 => ?_)
        have UA3 := (UA2).put eA3 fA3 (by decide +kernel)
        have HA3 := (HA2).e (congrArg (fun q => q.2.2) fA3)
        exact hpa_return (by rfl) rfl (hP _ _ ⟨rfl, hL15.over (by rw [eA3, hup1, eA2, hup2 (by omega)]) (by rw [eA3, hup2 (by omega), eA2, hup1]) (fun k hk => by rw [eA3, hup2 (by omega), eA2, hup2 (by omega)]) (fun j _ _ x _ => by rw [fA3, fA2])⟩)
      ·
        obtain ⟨h, rfl⟩ : ∃ h, k = h + 1 := ⟨k - 1, by omega⟩
        have ex15 : x15_6 = Int32.ofNat h := huI (by omega) (by omega)
        subst ex15
        have ch := hn_c (n := h) (z := Int32.ofNat h) rfl (by omega)
        have cih : (Int32.ofNat h).toNatClampNeg = h := by have := hn_cn (j := Int32.ofNat h) (by omega); omega
        have hh : h < n := by omega
        have old := huRm_old (D := D) (b := b) (s := a4) (ro := ro) h10 (by omega : h < h + 1) hh
        have hXx := fun t => huX_at (D := D) (b := b) (s := a4) (ro := ro) (t := t) h10 (by omega : h < h + 1) hh
        have hHh := huRm_H (D := D) (b := b) (s := a4) (ro := ro) h10 (by omega : h < h + 1) hh
        have oh := hO.1 h hh
        refine hpa_aload_n (by rfl) rfl ?_
        refine hpa_aload_n (by rfl) rfl ?_
        refine hpa_aload_n (by rfl) rfl ?_
        refine hpa_iload (by rfl) rfl ?_
        refine hpa_aload_n (by rfl) rfl ?_
        refine hpj_getK (by rfl) (by rfl) (by rfl) rfl ?_
        rw [show (A15.1 26 7) = ro 70 from hL15.2.2.1.1.trans (huRm_low h10 (by omega))]
        have hCA15 : hdK T D A15 := hC.uf hT U15 (by decide +kernel)
        have hTnA15 : (A15.1 T 4).toInt = (n : Int) := (congrArg Int32.toInt (hdT4 U15 hT (by decide +kernel))).trans hTn
        refine hpa_call0 (by rfl) (by rfl) (by rfl) (by rfl) (by rfl) (by rfl) (uf_C (X := ug_x133) (j := 133) rfl rfl (ug_L.cons (uf_rk_ok (by decide +kernel)) (ug_L.cons (by rcases hT with rfl | rfl <;> exact uf_rk_ok (by decide +kernel)) (ug_L.cons (uf_rk_ok (by decide +kernel)) (uf_int (uf_int uf_nil))))) H15 (hP1_26 (Int32.ofNat h) (ro 70) hT hCA15 hL15 (hO.mix h10 hD hD2) (by omega) rfl hTnA15 H15)) ?_
        rintro _ A4 ⟨⟨rfl, SS_A4, FR_A4⟩, wA4, HA4⟩
        have UA4 := (U15).trans (wA4.le (by decide +kernel : ug_wle ug_x133.2.2.2.1 uM26_26 = true))
        have hLA4 := hL15.uf hLL_26 wA4 (by decide +kernel)
        have SSA4 : hdS T D (huX (Int32.ofNat n) ro (Int32.ofNat h) (ro 70)) A4 := by rw [← hXx]; exact SS_A4
        refine hpa_iconst (by rfl) rfl ?_
        refine hpa_s1 (by rfl) (Or.inr ⟨_, rfl, rfl⟩) rfl ?_
        refine hpa_aload_n (by rfl) rfl ?_
        refine hpa_iload (by rfl) rfl ?_
        refine hpa_call0 (by rfl) (by rfl) (by rfl) (by rfl) (by rfl) (by rfl) (uf_C (X := ug_x190) (j := 190) rfl rfl (ug_L.cons (uf_rk_ok (by decide +kernel)) (uf_int uf_nil)) HA4 (hP19_26 (Int32.ofNat h) hLA4 (by omega) rfl)) ?_
        rintro _ _ ⟨⟨rfl, z6, rfl, (⟨fz_A5, HE_A5⟩ | ⟨fz_A5, HE_A5⟩)⟩, -, -⟩
        ·
          rw [hHh] at HE_A5
          have hd0 : huHd D n ro h = if h = 0 then huN D ro else huW D (huX (Int32.ofNat n) ro (Int32.ofNat h) (ro 70)) (ro (29 + h)) := by unfold huHd; rw [HE_A5]; rfl
          refine hpj_zeq (by rfl) rfl (fun q7 => False.elim (by omega)) (fun q7 => ?_)
          refine hpa_iload (by rfl) rfl ?_
          refine hpj_zne (by rfl) ch (fun q8 => ?_) (fun q8 => ?_)
          ·
            rw [if_neg (by omega)] at hd0
            refine hpa_aload_n (by rfl) rfl ?_
            refine hpa_aload_n (by rfl) rfl ?_
            refine hpa_get (v := .ref 32) (by rfl) (by rfl) (by rfl) rfl ?_
            refine hpa_iload (by rfl) rfl ?_
            refine hpa_iconst (by rfl) rfl ?_
            refine hpj_isub (by rfl) ch hk_1 (by omega) (by omega) (fun z9 ez9 => ?_)
            refine hpx_iald (by rfl) (by rfl) (fun h0v10 h1v10 v10 ev10 => ?_)
            have o63 := (huRm_old (D := D) (b := b) (s := a4) (ro := ro) h10 (by omega : h - 1 < h + 1) (by omega : h - 1 < n)).1
            rw [show (z9).toNatClampNeg = h - 1 from by have := hn_cn (j := z9) (by omega); omega] at ev10
            have lv10 := ev10.symm.trans ((hLA4.2.2.2.2 (h - 1) (by omega)).2.2.1.trans (o63.trans (by rw [show 30 + (h - 1) = 29 + h by omega] : ro (30 + (h - 1)) = ro (29 + h))))
            clear ev10
            subst lv10
            have b63 := (hO.1 (h - 1) (by omega)).2.2.1
            rw [show 30 + (h - 1) = 29 + h by omega] at b63
            have hCA4 : hdK T D A4 := hC.uf hT UA4 (by decide +kernel)
            refine hpa_call0 (by rfl) (by rfl) (by rfl) (by rfl) (by rfl) (by rfl) (uf_C (X := ug_x134) (j := 134) rfl rfl (ug_L.cons (uf_rk_ok (by decide +kernel)) (uf_int uf_nil)) HA4 (hP5 (ro (29 + h)) hT hCA4 SSA4 (by omega) (by omega) HA4)) ?_
            rintro _ A11 ⟨⟨z12, rfl, Z_A11, SS_A11, FR_A11⟩, wA11, HA11⟩
            have UA11 := (UA4).trans (wA11.le (by decide +kernel : ug_wle ug_x134.2.2.2.1 uM26_26 = true))
            have hLA11 := hLA4.uf hLL_26 wA11 (by decide +kernel)
            subst Z_A11
            refine hpa_s1 (by rfl) (Or.inr ⟨_, rfl, rfl⟩) rfl ?_
            have p7 : (huW D (huX (Int32.ofNat n) ro (Int32.ofNat h) (ro 70)) (ro (29 + h))) = huHd D n ro h := hd0.symm
            refine hpa_aload_n (by rfl) rfl ?_
            refine hpa_get (v := .ref 33) (by rfl) (by rfl) (by rfl) rfl ?_
            refine hpa_iload (by rfl) rfl ?_
            refine hpx_iald (by rfl) (by rfl) (fun h0v13 h1v13 v13 ev13 => ?_)
            rw [cih] at ev13
            have lv13 := ev13.symm.trans ((hLA11.2.2.2.2 h hh).2.2.2.trans old.2.2)
            clear ev13
            subst lv13
            refine hpj_zle (by rfl) rfl (fun q14 => ?_) (fun q14 => ?_)
            ·
              have z60 : (ro (60 + h)).toInt = 0 := by omega
              have gr0 : huGr D n ro b a4 h = if huDy D n ro b a4 h then Int32.ofInt D.2.1 else ro (60 + h) := by unfold huGr; rw [if_neg (by omega)]
              refine hpa_iload_n (by rfl) rfl ?_
              refine hpj_zeq (by rfl) rfl (fun q15 => ?_) (fun q15 => ?_)
              ·
                have bf : b = false := by cases b with | false => rfl | true => rw [if_pos rfl] at hb; exact absurd hb (by omega)
                have dy0 : huDy D n ro b a4 h = false := by unfold huDy; rw [bf, Bool.false_and]
                rw [dy0, if_neg (by decide)] at gr0
                refine hpa_aload_n (by rfl) rfl ?_
                refine hpa_iload (by rfl) rfl ?_
                refine hpa_iload (by rfl) rfl ?_
                refine hpa_call0 (by rfl) (by rfl) (by rfl) (by rfl) (by rfl) (by rfl) (uf_C (X := ug_x142) (j := 142) rfl rfl (ug_L.cons (uf_rk_ok (by decide +kernel)) (uf_int (uf_int uf_nil))) HA11 (hP23_26 (Int32.ofNat h) (huW D (huX (Int32.ofNat n) ro (Int32.ofNat h) (ro 70)) (ro (29 + h))) rfl (by omega))) ?_
                rintro _ A16 ⟨⟨rfl, CH_A16⟩, wA16, HA16⟩
                have UA16 := (UA11).trans (wA16.le (by decide +kernel : ug_wle ug_x142.2.2.2.1 uM26_26 = true))
                have had0 : A11.2.1 29 h = ro (40 + h) := (hLA11.2.2.2.2 h hh).1.2.2.trans old.2.1
                have wan0 : A11.2.1 27 h = ro h := (hLA11.2.2.2.2 h hh).1.1.trans (huRm_low h10 (by omega))
                have had1 := had0
                have wan1 := wan0
                have hLA16 : hdL 26 (huRm D n b a4 ro h) n A16 := hLA11.step hh (by rw [dy0, if_neg (by decide), CH_A16.1]) (fun k a1_ b1_ => by rw [CH_A16.1]) (CH_A16.2.1.trans p7) (by rw [CH_A16.2.2.1, p7, had1, wan1]) (by rw [CH_A16.2.2.2 32 h (by omega) (by omega), gr0, ← old.2.2]; exact (hLA11.2.2.2.2 h hh).2.2.2) (fun j x j1 j6 x10 hne => by rw [CH_A16.2.2.2 _ _ (by omega) (by omega)])
                refine hpj_iinc (by rfl) rfl ch hk_4294967295 (by omega) (by omega) (fun _ => rfl) (fun z17 ez17 => ?_)
                refine hpa_goto (by rfl) ?_
                exact ih15 z17 (.int (huW D (huX (Int32.ofNat n) ro (Int32.ofNat h) (ro 70)) (ro (29 + h)))) A16 h (by omega) (by omega) hLA16 UA16 HA16
              ·
                have bt : b = true := by cases b with | true => rfl | false => rw [if_neg (by decide)] at hb; exact absurd hb (by omega)
                refine hpa_iload (by rfl) rfl ?_
                refine hpa_bipush (by rfl) rfl ?_
                refine hpa_aload_n (by rfl) rfl ?_
                refine hpj_getK (by rfl) (by rfl) (by rfl) rfl ?_
                rw [show (A11.1 26 7) = ro 70 from hLA11.2.2.1.1.trans (huRm_low h10 (by omega))]
                refine hpa_imul (by rfl) ?_
                refine hpa_iload (by rfl) rfl ?_
                refine hpa_iadd (by rfl) ?_
                refine hpa_call2 (by rfl) (by decide) (by rfl) (by rfl) (by rfl) (uf_C (X := ug_x240) (j := 240) rfl rfl (uf_int (uf_int uf_nil)) HA11 (hP27 a4 (((Int32.ofNat 16) * (ro 70)) + (Int32.ofNat h)))) ?_
                rintro _ _ ⟨⟨rfl, z19, rfl, Z_A18⟩, -, -⟩
                subst Z_A18
                refine hpa_aload_n (by rfl) rfl ?_
                have hCA11 : hdK T D A11 := hC.uf hT UA11 (by decide +kernel)
                refine hpa_call0 (by rfl) (by rfl) (by rfl) (by rfl) (by rfl) (by rfl) (uf_C (X := ug_x192) (j := 192) rfl rfl (ug_L.cons (uf_rk_ok (by decide +kernel)) uf_nil) HA11 (hP4 hT hCA11 SS_A11.1 HA11)) ?_
                rintro _ A20 ⟨⟨z21, rfl, Z_A20, VV_A20, FR_A20⟩, wA20, HA20⟩
                have UA20 := (UA11).trans (wA20.le (by decide +kernel : ug_wle ug_x192.2.2.2.1 uM26_26 = true))
                have hLA20 := hLA11.uf hLL_26 wA20 (by decide +kernel)
                subst Z_A20
                refine hpj_cge (by rfl) rfl rfl (fun q22 => ?_) (fun q22 => ?_)
                ·
                  have dy0 : huDy D n ro b a4 h = false := by unfold huDy; rw [decide_eq_false (show ¬ (huLt a4 (Int32.ofNat 16 * ro 70 + Int32.ofNat h)).toInt < (huE D (huX (Int32.ofNat n) ro (Int32.ofNat h) (ro 70))).toInt from Int.not_lt.mpr q22), Bool.and_false, Bool.and_false]
                  rw [dy0, if_neg (by decide)] at gr0
                  refine hpa_aload_n (by rfl) rfl ?_
                  refine hpa_iload (by rfl) rfl ?_
                  refine hpa_iload (by rfl) rfl ?_
                  refine hpa_call0 (by rfl) (by rfl) (by rfl) (by rfl) (by rfl) (by rfl) (uf_C (X := ug_x142) (j := 142) rfl rfl (ug_L.cons (uf_rk_ok (by decide +kernel)) (uf_int (uf_int uf_nil))) HA20 (hP23_26 (Int32.ofNat h) (huW D (huX (Int32.ofNat n) ro (Int32.ofNat h) (ro 70)) (ro (29 + h))) rfl (by omega))) ?_
                  rintro _ A23 ⟨⟨rfl, CH_A23⟩, wA23, HA23⟩
                  have UA23 := (UA20).trans (wA23.le (by decide +kernel : ug_wle ug_x142.2.2.2.1 uM26_26 = true))
                  have had0 : A20.2.1 29 h = ro (40 + h) := (hLA20.2.2.2.2 h hh).1.2.2.trans old.2.1
                  have wan0 : A20.2.1 27 h = ro h := (hLA20.2.2.2.2 h hh).1.1.trans (huRm_low h10 (by omega))
                  have had1 := had0
                  have wan1 := wan0
                  have hLA23 : hdL 26 (huRm D n b a4 ro h) n A23 := hLA20.step hh (by rw [dy0, if_neg (by decide), CH_A23.1]) (fun k a1_ b1_ => by rw [CH_A23.1]) (CH_A23.2.1.trans p7) (by rw [CH_A23.2.2.1, p7, had1, wan1]) (by rw [CH_A23.2.2.2 32 h (by omega) (by omega), gr0, ← old.2.2]; exact (hLA20.2.2.2.2 h hh).2.2.2) (fun j x j1 j6 x10 hne => by rw [CH_A23.2.2.2 _ _ (by omega) (by omega)])
                  refine hpj_iinc (by rfl) rfl ch hk_4294967295 (by omega) (by omega) (fun _ => rfl) (fun z24 ez24 => ?_)
                  refine hpa_goto (by rfl) ?_
                  exact ih15 z24 (.int (huW D (huX (Int32.ofNat n) ro (Int32.ofNat h) (ro 70)) (ro (29 + h)))) A23 h (by omega) (by omega) hLA23 UA23 HA23
                ·
                  have dy0 : huDy D n ro b a4 h = true := by unfold huDy; rw [bt, decide_eq_true z60, decide_eq_true q22]; rfl
                  rw [dy0, if_pos rfl] at gr0
                  refine hpa_aload_n (by rfl) rfl ?_
                  refine hpa_get (v := .ref 33) (by rfl) (by rfl) (by rfl) rfl ?_
                  refine hpa_iload (by rfl) rfl ?_
                  refine hpa_aload_n (by rfl) rfl ?_
                  refine hpj_getK (by rfl) (hsT hT) (by rfl) rfl ?_
                  have hCA20 : hdK T D A20 := hC.uf hT UA20 (by decide +kernel)
                  have t6 : (A20.1 T 6) = Int32.ofInt D.2.1 := by obtain ⟨kw, V, ns, zz, k1, k2, kM, k3⟩ := hCA20; exact Int32.toInt_inj.mp (kM.2.2.1.2.1.trans (hs_ofInt hD2.1 hD2.2).symm)
                  rw [t6]
                  refine hpx_iast (by rfl) (by rfl) (fun A25 h0A25 h1A25 eA25 fA25 gA25 => ?_)
                  have UA25 := (UA20).ar eA25 fA25 gA25 (by decide +kernel)
                  have HA25 := (HA20).e (congrArg (fun q => q.2) gA25)
                  rw [cih] at fA25
                  refine hpa_aload_n (by rfl) rfl ?_
                  refine hpa_dupR (by rfl) ?_
                  refine hpj_getK (by rfl) (by rfl) (by rfl) rfl ?_
                  refine hpa_iconst (by rfl) rfl ?_
                  refine hpa_iadd (by rfl) ?_
                  refine hpj_putI (by rfl) (by rfl) (by rfl) (by rfl) (fun A26 eA26 fA26 => ?_)
                  have UA26 := (UA25).put eA26 fA26 (by decide +kernel)
                  have HA26 := (HA25).e (congrArg (fun q => q.2.2) fA26)
                  refine hpa_aload_n (by rfl) rfl ?_
                  refine hpa_iload (by rfl) rfl ?_
                  refine hpa_iload (by rfl) rfl ?_
                  refine hpa_call0 (by rfl) (by rfl) (by rfl) (by rfl) (by rfl) (by rfl) (uf_C (X := ug_x142) (j := 142) rfl rfl (ug_L.cons (uf_rk_ok (by decide +kernel)) (uf_int (uf_int uf_nil))) HA26 (hP23_26 (Int32.ofNat h) (huW D (huX (Int32.ofNat n) ro (Int32.ofNat h) (ro 70)) (ro (29 + h))) rfl (by omega))) ?_
                  rintro _ A27 ⟨⟨rfl, CH_A27⟩, wA27, HA27⟩
                  have UA27 := (UA26).trans (wA27.le (by decide +kernel : ug_wle ug_x142.2.2.2.1 uM26_26 = true))
                  have had0 : A20.2.1 29 h = ro (40 + h) := (hLA20.2.2.2.2 h hh).1.2.2.trans old.2.1
                  have wan0 : A20.2.1 27 h = ro h := (hLA20.2.2.2.2 h hh).1.1.trans (huRm_low h10 (by omega))
                  have had1 : A26.2.1 29 h = ro (40 + h) := by rw [fA26, fA25, hup2 (by omega)]; exact had0
                  have wan1 : A26.2.1 27 h = ro h := by rw [fA26, fA25, hup2 (by omega)]; exact wan0
                  have hLA27 : hdL 26 (huRm D n b a4 ro h) n A27 := hLA20.step hh (by rw [dy0, if_pos rfl, CH_A27.1, eA26, hup1, eA25]) (fun k a1_ b1_ => by rw [CH_A27.1, eA26, hup2 (by omega), eA25]) (CH_A27.2.1.trans p7) (by rw [CH_A27.2.2.1, p7, had1, wan1]) (by rw [CH_A27.2.2.2 32 h (by omega) (by omega), fA26, fA25, hup1, gr0]) (fun j x j1 j6 x10 hne => by rw [CH_A27.2.2.2 _ _ (by omega) (by omega), fA26, fA25, hup2 (by omega)])
                  refine hpj_iinc (by rfl) rfl ch hk_4294967295 (by omega) (by omega) (fun _ => rfl) (fun z28 ez28 => ?_)
                  refine hpa_goto (by rfl) ?_
                  exact ih15 z28 (.int (huW D (huX (Int32.ofNat n) ro (Int32.ofNat h) (ro 70)) (ro (29 + h)))) A27 h (by omega) (by omega) hLA27 UA27 HA27
            ·
              have gr0 : huGr D n ro b a4 h = ro (60 + h) - Int32.ofNat 1 := by unfold huGr; rw [if_pos q14]
              have dy0 : huDy D n ro b a4 h = false := by unfold huDy; rw [decide_eq_false (by omega : ¬ (ro (60 + h)).toInt = 0), Bool.false_and, Bool.and_false]
              refine hpa_aload_n (by rfl) rfl ?_
              refine hpa_get (v := .ref 33) (by rfl) (by rfl) (by rfl) rfl ?_
              refine hpa_iload (by rfl) rfl ?_
              refine hpa_dup2IR (by rfl) ?_
              refine hpx_iald (by rfl) (by rfl) (fun h0v29 h1v29 v29 ev29 => ?_)
              rw [cih] at ev29
              have lv29 := ev29.symm.trans ((hLA11.2.2.2.2 h hh).2.2.2.trans old.2.2)
              clear ev29
              subst lv29
              refine hpa_iconst (by rfl) rfl ?_
              refine hpa_isub (by rfl) ?_
              refine hpx_iast (by rfl) (by rfl) (fun A30 h0A30 h1A30 eA30 fA30 gA30 => ?_)
              have UA30 := (UA11).ar eA30 fA30 gA30 (by decide +kernel)
              have HA30 := (HA11).e (congrArg (fun q => q.2) gA30)
              rw [cih] at fA30
              refine hpa_goto (by rfl) ?_
              refine hpa_aload_n (by rfl) rfl ?_
              refine hpa_iload (by rfl) rfl ?_
              refine hpa_iload (by rfl) rfl ?_
              refine hpa_call0 (by rfl) (by rfl) (by rfl) (by rfl) (by rfl) (by rfl) (uf_C (X := ug_x142) (j := 142) rfl rfl (ug_L.cons (uf_rk_ok (by decide +kernel)) (uf_int (uf_int uf_nil))) HA30 (hP23_26 (Int32.ofNat h) (huW D (huX (Int32.ofNat n) ro (Int32.ofNat h) (ro 70)) (ro (29 + h))) rfl (by omega))) ?_
              rintro _ A31 ⟨⟨rfl, CH_A31⟩, wA31, HA31⟩
              have UA31 := (UA30).trans (wA31.le (by decide +kernel : ug_wle ug_x142.2.2.2.1 uM26_26 = true))
              have had0 : A11.2.1 29 h = ro (40 + h) := (hLA11.2.2.2.2 h hh).1.2.2.trans old.2.1
              have wan0 : A11.2.1 27 h = ro h := (hLA11.2.2.2.2 h hh).1.1.trans (huRm_low h10 (by omega))
              have had1 : A30.2.1 29 h = ro (40 + h) := by rw [fA30, hup2 (by omega)]; exact had0
              have wan1 : A30.2.1 27 h = ro h := by rw [fA30, hup2 (by omega)]; exact wan0
              have hLA31 : hdL 26 (huRm D n b a4 ro h) n A31 := hLA11.step hh (by rw [dy0, if_neg (by decide), CH_A31.1, eA30]) (fun k a1_ b1_ => by rw [CH_A31.1, eA30]) (CH_A31.2.1.trans p7) (by rw [CH_A31.2.2.1, p7, had1, wan1]) (by rw [CH_A31.2.2.2 32 h (by omega) (by omega), fA30, hup1, gr0]) (fun j x j1 j6 x10 hne => by rw [CH_A31.2.2.2 _ _ (by omega) (by omega), fA30, hup2 (by omega)])
              refine hpj_iinc (by rfl) rfl ch hk_4294967295 (by omega) (by omega) (fun _ => rfl) (fun z32 ez32 => ?_)
              refine hpa_goto (by rfl) ?_
              exact ih15 z32 (.int (huW D (huX (Int32.ofNat n) ro (Int32.ofNat h) (ro 70)) (ro (29 + h)))) A31 h (by omega) (by omega) hLA31 UA31 HA31
          ·
            rw [if_pos (by omega)] at hd0
            refine hpa_iload (by rfl) rfl ?_
            refine hpa_goto (by rfl) ?_
            refine hpa_s1 (by rfl) (Or.inr ⟨_, rfl, rfl⟩) rfl ?_
            have p7 : (huN D ro) = huHd D n ro h := hd0.symm
            refine hpa_aload_n (by rfl) rfl ?_
            refine hpa_get (v := .ref 33) (by rfl) (by rfl) (by rfl) rfl ?_
            refine hpa_iload (by rfl) rfl ?_
            refine hpx_iald (by rfl) (by rfl) (fun h0v33 h1v33 v33 ev33 => ?_)
            rw [cih] at ev33
            have lv33 := ev33.symm.trans ((hLA4.2.2.2.2 h hh).2.2.2.trans old.2.2)
            clear ev33
            subst lv33
            refine hpj_zle (by rfl) rfl (fun q34 => ?_) (fun q34 => ?_)
            ·
              have z60 : (ro (60 + h)).toInt = 0 := by omega
              have gr0 : huGr D n ro b a4 h = if huDy D n ro b a4 h then Int32.ofInt D.2.1 else ro (60 + h) := by unfold huGr; rw [if_neg (by omega)]
              refine hpa_iload_n (by rfl) rfl ?_
              refine hpj_zeq (by rfl) rfl (fun q35 => ?_) (fun q35 => ?_)
              ·
                have bf : b = false := by cases b with | false => rfl | true => rw [if_pos rfl] at hb; exact absurd hb (by omega)
                have dy0 : huDy D n ro b a4 h = false := by unfold huDy; rw [bf, Bool.false_and]
                rw [dy0, if_neg (by decide)] at gr0
                refine hpa_aload_n (by rfl) rfl ?_
                refine hpa_iload (by rfl) rfl ?_
                refine hpa_iload (by rfl) rfl ?_
                refine hpa_call0 (by rfl) (by rfl) (by rfl) (by rfl) (by rfl) (by rfl) (uf_C (X := ug_x142) (j := 142) rfl rfl (ug_L.cons (uf_rk_ok (by decide +kernel)) (uf_int (uf_int uf_nil))) HA4 (hP23_26 (Int32.ofNat h) (huN D ro) rfl (by omega))) ?_
                rintro _ A36 ⟨⟨rfl, CH_A36⟩, wA36, HA36⟩
                have UA36 := (UA4).trans (wA36.le (by decide +kernel : ug_wle ug_x142.2.2.2.1 uM26_26 = true))
                have had0 : A4.2.1 29 h = ro (40 + h) := (hLA4.2.2.2.2 h hh).1.2.2.trans old.2.1
                have wan0 : A4.2.1 27 h = ro h := (hLA4.2.2.2.2 h hh).1.1.trans (huRm_low h10 (by omega))
                have had1 := had0
                have wan1 := wan0
                have hLA36 : hdL 26 (huRm D n b a4 ro h) n A36 := hLA4.step hh (by rw [dy0, if_neg (by decide), CH_A36.1]) (fun k a1_ b1_ => by rw [CH_A36.1]) (CH_A36.2.1.trans p7) (by rw [CH_A36.2.2.1, p7, had1, wan1]) (by rw [CH_A36.2.2.2 32 h (by omega) (by omega), gr0, ← old.2.2]; exact (hLA4.2.2.2.2 h hh).2.2.2) (fun j x j1 j6 x10 hne => by rw [CH_A36.2.2.2 _ _ (by omega) (by omega)])
                refine hpj_iinc (by rfl) rfl ch hk_4294967295 (by omega) (by omega) (fun _ => rfl) (fun z37 ez37 => ?_)
                refine hpa_goto (by rfl) ?_
                exact ih15 z37 (.int (huN D ro)) A36 h (by omega) (by omega) hLA36 UA36 HA36
              ·
                have bt : b = true := by cases b with | true => rfl | false => rw [if_neg (by decide)] at hb; exact absurd hb (by omega)
                refine hpa_iload (by rfl) rfl ?_
                refine hpa_bipush (by rfl) rfl ?_
                refine hpa_aload_n (by rfl) rfl ?_
                refine hpj_getK (by rfl) (by rfl) (by rfl) rfl ?_
                rw [show (A4.1 26 7) = ro 70 from hLA4.2.2.1.1.trans (huRm_low h10 (by omega))]
                refine hpa_imul (by rfl) ?_
                refine hpa_iload (by rfl) rfl ?_
                refine hpa_iadd (by rfl) ?_
                refine hpa_call2 (by rfl) (by decide) (by rfl) (by rfl) (by rfl) (uf_C (X := ug_x240) (j := 240) rfl rfl (uf_int (uf_int uf_nil)) HA4 (hP27 a4 (((Int32.ofNat 16) * (ro 70)) + (Int32.ofNat h)))) ?_
                rintro _ _ ⟨⟨rfl, z39, rfl, Z_A38⟩, -, -⟩
                subst Z_A38
                refine hpa_aload_n (by rfl) rfl ?_
                have hCA4 : hdK T D A4 := hC.uf hT UA4 (by decide +kernel)
                refine hpa_call0 (by rfl) (by rfl) (by rfl) (by rfl) (by rfl) (by rfl) (uf_C (X := ug_x192) (j := 192) rfl rfl (ug_L.cons (uf_rk_ok (by decide +kernel)) uf_nil) HA4 (hP4 hT hCA4 SSA4.1 HA4)) ?_
                rintro _ A40 ⟨⟨z41, rfl, Z_A40, VV_A40, FR_A40⟩, wA40, HA40⟩
                have UA40 := (UA4).trans (wA40.le (by decide +kernel : ug_wle ug_x192.2.2.2.1 uM26_26 = true))
                have hLA40 := hLA4.uf hLL_26 wA40 (by decide +kernel)
                subst Z_A40
                refine hpj_cge (by rfl) rfl rfl (fun q42 => ?_) (fun q42 => ?_)
                ·
                  have dy0 : huDy D n ro b a4 h = false := by unfold huDy; rw [decide_eq_false (show ¬ (huLt a4 (Int32.ofNat 16 * ro 70 + Int32.ofNat h)).toInt < (huE D (huX (Int32.ofNat n) ro (Int32.ofNat h) (ro 70))).toInt from Int.not_lt.mpr q42), Bool.and_false, Bool.and_false]
                  rw [dy0, if_neg (by decide)] at gr0
                  refine hpa_aload_n (by rfl) rfl ?_
                  refine hpa_iload (by rfl) rfl ?_
                  refine hpa_iload (by rfl) rfl ?_
                  refine hpa_call0 (by rfl) (by rfl) (by rfl) (by rfl) (by rfl) (by rfl) (uf_C (X := ug_x142) (j := 142) rfl rfl (ug_L.cons (uf_rk_ok (by decide +kernel)) (uf_int (uf_int uf_nil))) HA40 (hP23_26 (Int32.ofNat h) (huN D ro) rfl (by omega))) ?_
                  rintro _ A43 ⟨⟨rfl, CH_A43⟩, wA43, HA43⟩
                  have UA43 := (UA40).trans (wA43.le (by decide +kernel : ug_wle ug_x142.2.2.2.1 uM26_26 = true))
                  have had0 : A40.2.1 29 h = ro (40 + h) := (hLA40.2.2.2.2 h hh).1.2.2.trans old.2.1
                  have wan0 : A40.2.1 27 h = ro h := (hLA40.2.2.2.2 h hh).1.1.trans (huRm_low h10 (by omega))
                  have had1 := had0
                  have wan1 := wan0
                  have hLA43 : hdL 26 (huRm D n b a4 ro h) n A43 := hLA40.step hh (by rw [dy0, if_neg (by decide), CH_A43.1]) (fun k a1_ b1_ => by rw [CH_A43.1]) (CH_A43.2.1.trans p7) (by rw [CH_A43.2.2.1, p7, had1, wan1]) (by rw [CH_A43.2.2.2 32 h (by omega) (by omega), gr0, ← old.2.2]; exact (hLA40.2.2.2.2 h hh).2.2.2) (fun j x j1 j6 x10 hne => by rw [CH_A43.2.2.2 _ _ (by omega) (by omega)])
                  refine hpj_iinc (by rfl) rfl ch hk_4294967295 (by omega) (by omega) (fun _ => rfl) (fun z44 ez44 => ?_)
                  refine hpa_goto (by rfl) ?_
                  exact ih15 z44 (.int (huN D ro)) A43 h (by omega) (by omega) hLA43 UA43 HA43
                ·
                  have dy0 : huDy D n ro b a4 h = true := by unfold huDy; rw [bt, decide_eq_true z60, decide_eq_true q42]; rfl
                  rw [dy0, if_pos rfl] at gr0
                  refine hpa_aload_n (by rfl) rfl ?_
                  refine hpa_get (v := .ref 33) (by rfl) (by rfl) (by rfl) rfl ?_
                  refine hpa_iload (by rfl) rfl ?_
                  refine hpa_aload_n (by rfl) rfl ?_
                  refine hpj_getK (by rfl) (hsT hT) (by rfl) rfl ?_
                  have hCA40 : hdK T D A40 := hC.uf hT UA40 (by decide +kernel)
                  have t6 : (A40.1 T 6) = Int32.ofInt D.2.1 := by obtain ⟨kw, V, ns, zz, k1, k2, kM, k3⟩ := hCA40; exact Int32.toInt_inj.mp (kM.2.2.1.2.1.trans (hs_ofInt hD2.1 hD2.2).symm)
                  rw [t6]
                  refine hpx_iast (by rfl) (by rfl) (fun A45 h0A45 h1A45 eA45 fA45 gA45 => ?_)
                  have UA45 := (UA40).ar eA45 fA45 gA45 (by decide +kernel)
                  have HA45 := (HA40).e (congrArg (fun q => q.2) gA45)
                  rw [cih] at fA45
                  refine hpa_aload_n (by rfl) rfl ?_
                  refine hpa_dupR (by rfl) ?_
                  refine hpj_getK (by rfl) (by rfl) (by rfl) rfl ?_
                  refine hpa_iconst (by rfl) rfl ?_
                  refine hpa_iadd (by rfl) ?_
                  refine hpj_putI (by rfl) (by rfl) (by rfl) (by rfl) (fun A46 eA46 fA46 => ?_)
                  have UA46 := (UA45).put eA46 fA46 (by decide +kernel)
                  have HA46 := (HA45).e (congrArg (fun q => q.2.2) fA46)
                  refine hpa_aload_n (by rfl) rfl ?_
                  refine hpa_iload (by rfl) rfl ?_
                  refine hpa_iload (by rfl) rfl ?_
                  refine hpa_call0 (by rfl) (by rfl) (by rfl) (by rfl) (by rfl) (by rfl) (uf_C (X := ug_x142) (j := 142) rfl rfl (ug_L.cons (uf_rk_ok (by decide +kernel)) (uf_int (uf_int uf_nil))) HA46 (hP23_26 (Int32.ofNat h) (huN D ro) rfl (by omega))) ?_
                  rintro _ A47 ⟨⟨rfl, CH_A47⟩, wA47, HA47⟩
                  have UA47 := (UA46).trans (wA47.le (by decide +kernel : ug_wle ug_x142.2.2.2.1 uM26_26 = true))
                  have had0 : A40.2.1 29 h = ro (40 + h) := (hLA40.2.2.2.2 h hh).1.2.2.trans old.2.1
                  have wan0 : A40.2.1 27 h = ro h := (hLA40.2.2.2.2 h hh).1.1.trans (huRm_low h10 (by omega))
                  have had1 : A46.2.1 29 h = ro (40 + h) := by rw [fA46, fA45, hup2 (by omega)]; exact had0
                  have wan1 : A46.2.1 27 h = ro h := by rw [fA46, fA45, hup2 (by omega)]; exact wan0
                  have hLA47 : hdL 26 (huRm D n b a4 ro h) n A47 := hLA40.step hh (by rw [dy0, if_pos rfl, CH_A47.1, eA46, hup1, eA45]) (fun k a1_ b1_ => by rw [CH_A47.1, eA46, hup2 (by omega), eA45]) (CH_A47.2.1.trans p7) (by rw [CH_A47.2.2.1, p7, had1, wan1]) (by rw [CH_A47.2.2.2 32 h (by omega) (by omega), fA46, fA45, hup1, gr0]) (fun j x j1 j6 x10 hne => by rw [CH_A47.2.2.2 _ _ (by omega) (by omega), fA46, fA45, hup2 (by omega)])
                  refine hpj_iinc (by rfl) rfl ch hk_4294967295 (by omega) (by omega) (fun _ => rfl) (fun z48 ez48 => ?_)
                  refine hpa_goto (by rfl) ?_
                  exact ih15 z48 (.int (huN D ro)) A47 h (by omega) (by omega) hLA47 UA47 HA47
            ·
              have gr0 : huGr D n ro b a4 h = ro (60 + h) - Int32.ofNat 1 := by unfold huGr; rw [if_pos q34]
              have dy0 : huDy D n ro b a4 h = false := by unfold huDy; rw [decide_eq_false (by omega : ¬ (ro (60 + h)).toInt = 0), Bool.false_and, Bool.and_false]
              refine hpa_aload_n (by rfl) rfl ?_
              refine hpa_get (v := .ref 33) (by rfl) (by rfl) (by rfl) rfl ?_
              refine hpa_iload (by rfl) rfl ?_
              refine hpa_dup2IR (by rfl) ?_
              refine hpx_iald (by rfl) (by rfl) (fun h0v49 h1v49 v49 ev49 => ?_)
              rw [cih] at ev49
              have lv49 := ev49.symm.trans ((hLA4.2.2.2.2 h hh).2.2.2.trans old.2.2)
              clear ev49
              subst lv49
              refine hpa_iconst (by rfl) rfl ?_
              refine hpa_isub (by rfl) ?_
              refine hpx_iast (by rfl) (by rfl) (fun A50 h0A50 h1A50 eA50 fA50 gA50 => ?_)
              have UA50 := (UA4).ar eA50 fA50 gA50 (by decide +kernel)
              have HA50 := (HA4).e (congrArg (fun q => q.2) gA50)
              rw [cih] at fA50
              refine hpa_goto (by rfl) ?_
              refine hpa_aload_n (by rfl) rfl ?_
              refine hpa_iload (by rfl) rfl ?_
              refine hpa_iload (by rfl) rfl ?_
              refine hpa_call0 (by rfl) (by rfl) (by rfl) (by rfl) (by rfl) (by rfl) (uf_C (X := ug_x142) (j := 142) rfl rfl (ug_L.cons (uf_rk_ok (by decide +kernel)) (uf_int (uf_int uf_nil))) HA50 (hP23_26 (Int32.ofNat h) (huN D ro) rfl (by omega))) ?_
              rintro _ A51 ⟨⟨rfl, CH_A51⟩, wA51, HA51⟩
              have UA51 := (UA50).trans (wA51.le (by decide +kernel : ug_wle ug_x142.2.2.2.1 uM26_26 = true))
              have had0 : A4.2.1 29 h = ro (40 + h) := (hLA4.2.2.2.2 h hh).1.2.2.trans old.2.1
              have wan0 : A4.2.1 27 h = ro h := (hLA4.2.2.2.2 h hh).1.1.trans (huRm_low h10 (by omega))
              have had1 : A50.2.1 29 h = ro (40 + h) := by rw [fA50, hup2 (by omega)]; exact had0
              have wan1 : A50.2.1 27 h = ro h := by rw [fA50, hup2 (by omega)]; exact wan0
              have hLA51 : hdL 26 (huRm D n b a4 ro h) n A51 := hLA4.step hh (by rw [dy0, if_neg (by decide), CH_A51.1, eA50]) (fun k a1_ b1_ => by rw [CH_A51.1, eA50]) (CH_A51.2.1.trans p7) (by rw [CH_A51.2.2.1, p7, had1, wan1]) (by rw [CH_A51.2.2.2 32 h (by omega) (by omega), fA50, hup1, gr0]) (fun j x j1 j6 x10 hne => by rw [CH_A51.2.2.2 _ _ (by omega) (by omega), fA50, hup2 (by omega)])
              refine hpj_iinc (by rfl) rfl ch hk_4294967295 (by omega) (by omega) (fun _ => rfl) (fun z52 ez52 => ?_)
              refine hpa_goto (by rfl) ?_
              exact ih15 z52 (.int (huN D ro)) A51 h (by omega) (by omega) hLA51 UA51 HA51
        ·
          rw [hHh] at HE_A5
          have hd0 : huHd D n ro h = Int32.ofNat 0 := by unfold huHd; rw [HE_A5]; rfl
          refine hpj_zeq (by rfl) rfl (fun q53 => ?_) (fun q53 => False.elim (by omega))
          have p7 : (Int32.ofNat 0) = huHd D n ro h := hd0.symm
          refine hpa_aload_n (by rfl) rfl ?_
          refine hpa_get (v := .ref 33) (by rfl) (by rfl) (by rfl) rfl ?_
          refine hpa_iload (by rfl) rfl ?_
          refine hpx_iald (by rfl) (by rfl) (fun h0v54 h1v54 v54 ev54 => ?_)
          rw [cih] at ev54
          have lv54 := ev54.symm.trans ((hLA4.2.2.2.2 h hh).2.2.2.trans old.2.2)
          clear ev54
          subst lv54
          refine hpj_zle (by rfl) rfl (fun q55 => ?_) (fun q55 => ?_)
          ·
            have z60 : (ro (60 + h)).toInt = 0 := by omega
            have gr0 : huGr D n ro b a4 h = if huDy D n ro b a4 h then Int32.ofInt D.2.1 else ro (60 + h) := by unfold huGr; rw [if_neg (by omega)]
            refine hpa_iload_n (by rfl) rfl ?_
            refine hpj_zeq (by rfl) rfl (fun q56 => ?_) (fun q56 => ?_)
            ·
              have bf : b = false := by cases b with | false => rfl | true => rw [if_pos rfl] at hb; exact absurd hb (by omega)
              have dy0 : huDy D n ro b a4 h = false := by unfold huDy; rw [bf, Bool.false_and]
              rw [dy0, if_neg (by decide)] at gr0
              refine hpa_aload_n (by rfl) rfl ?_
              refine hpa_iload (by rfl) rfl ?_
              refine hpa_iload (by rfl) rfl ?_
              refine hpa_call0 (by rfl) (by rfl) (by rfl) (by rfl) (by rfl) (by rfl) (uf_C (X := ug_x142) (j := 142) rfl rfl (ug_L.cons (uf_rk_ok (by decide +kernel)) (uf_int (uf_int uf_nil))) HA4 (hP23_26 (Int32.ofNat h) (Int32.ofNat 0) rfl (by omega))) ?_
              rintro _ A57 ⟨⟨rfl, CH_A57⟩, wA57, HA57⟩
              have UA57 := (UA4).trans (wA57.le (by decide +kernel : ug_wle ug_x142.2.2.2.1 uM26_26 = true))
              have had0 : A4.2.1 29 h = ro (40 + h) := (hLA4.2.2.2.2 h hh).1.2.2.trans old.2.1
              have wan0 : A4.2.1 27 h = ro h := (hLA4.2.2.2.2 h hh).1.1.trans (huRm_low h10 (by omega))
              have had1 := had0
              have wan1 := wan0
              have hLA57 : hdL 26 (huRm D n b a4 ro h) n A57 := hLA4.step hh (by rw [dy0, if_neg (by decide), CH_A57.1]) (fun k a1_ b1_ => by rw [CH_A57.1]) (CH_A57.2.1.trans p7) (by rw [CH_A57.2.2.1, p7, had1, wan1]) (by rw [CH_A57.2.2.2 32 h (by omega) (by omega), gr0, ← old.2.2]; exact (hLA4.2.2.2.2 h hh).2.2.2) (fun j x j1 j6 x10 hne => by rw [CH_A57.2.2.2 _ _ (by omega) (by omega)])
              refine hpj_iinc (by rfl) rfl ch hk_4294967295 (by omega) (by omega) (fun _ => rfl) (fun z58 ez58 => ?_)
              refine hpa_goto (by rfl) ?_
              exact ih15 z58 (.int (Int32.ofNat 0)) A57 h (by omega) (by omega) hLA57 UA57 HA57
            ·
              have bt : b = true := by cases b with | true => rfl | false => rw [if_neg (by decide)] at hb; exact absurd hb (by omega)
              refine hpa_iload (by rfl) rfl ?_
              refine hpa_bipush (by rfl) rfl ?_
              refine hpa_aload_n (by rfl) rfl ?_
              refine hpj_getK (by rfl) (by rfl) (by rfl) rfl ?_
              rw [show (A4.1 26 7) = ro 70 from hLA4.2.2.1.1.trans (huRm_low h10 (by omega))]
              refine hpa_imul (by rfl) ?_
              refine hpa_iload (by rfl) rfl ?_
              refine hpa_iadd (by rfl) ?_
              refine hpa_call2 (by rfl) (by decide) (by rfl) (by rfl) (by rfl) (uf_C (X := ug_x240) (j := 240) rfl rfl (uf_int (uf_int uf_nil)) HA4 (hP27 a4 (((Int32.ofNat 16) * (ro 70)) + (Int32.ofNat h)))) ?_
              rintro _ _ ⟨⟨rfl, z60, rfl, Z_A59⟩, -, -⟩
              subst Z_A59
              refine hpa_aload_n (by rfl) rfl ?_
              have hCA4 : hdK T D A4 := hC.uf hT UA4 (by decide +kernel)
              refine hpa_call0 (by rfl) (by rfl) (by rfl) (by rfl) (by rfl) (by rfl) (uf_C (X := ug_x192) (j := 192) rfl rfl (ug_L.cons (uf_rk_ok (by decide +kernel)) uf_nil) HA4 (hP4 hT hCA4 SSA4.1 HA4)) ?_
              rintro _ A61 ⟨⟨z62, rfl, Z_A61, VV_A61, FR_A61⟩, wA61, HA61⟩
              have UA61 := (UA4).trans (wA61.le (by decide +kernel : ug_wle ug_x192.2.2.2.1 uM26_26 = true))
              have hLA61 := hLA4.uf hLL_26 wA61 (by decide +kernel)
              subst Z_A61
              refine hpj_cge (by rfl) rfl rfl (fun q63 => ?_) (fun q63 => ?_)
              ·
                have dy0 : huDy D n ro b a4 h = false := by unfold huDy; rw [decide_eq_false (show ¬ (huLt a4 (Int32.ofNat 16 * ro 70 + Int32.ofNat h)).toInt < (huE D (huX (Int32.ofNat n) ro (Int32.ofNat h) (ro 70))).toInt from Int.not_lt.mpr q63), Bool.and_false, Bool.and_false]
                rw [dy0, if_neg (by decide)] at gr0
                refine hpa_aload_n (by rfl) rfl ?_
                refine hpa_iload (by rfl) rfl ?_
                refine hpa_iload (by rfl) rfl ?_
                refine hpa_call0 (by rfl) (by rfl) (by rfl) (by rfl) (by rfl) (by rfl) (uf_C (X := ug_x142) (j := 142) rfl rfl (ug_L.cons (uf_rk_ok (by decide +kernel)) (uf_int (uf_int uf_nil))) HA61 (hP23_26 (Int32.ofNat h) (Int32.ofNat 0) rfl (by omega))) ?_
                rintro _ A64 ⟨⟨rfl, CH_A64⟩, wA64, HA64⟩
                have UA64 := (UA61).trans (wA64.le (by decide +kernel : ug_wle ug_x142.2.2.2.1 uM26_26 = true))
                have had0 : A61.2.1 29 h = ro (40 + h) := (hLA61.2.2.2.2 h hh).1.2.2.trans old.2.1
                have wan0 : A61.2.1 27 h = ro h := (hLA61.2.2.2.2 h hh).1.1.trans (huRm_low h10 (by omega))
                have had1 := had0
                have wan1 := wan0
                have hLA64 : hdL 26 (huRm D n b a4 ro h) n A64 := hLA61.step hh (by rw [dy0, if_neg (by decide), CH_A64.1]) (fun k a1_ b1_ => by rw [CH_A64.1]) (CH_A64.2.1.trans p7) (by rw [CH_A64.2.2.1, p7, had1, wan1]) (by rw [CH_A64.2.2.2 32 h (by omega) (by omega), gr0, ← old.2.2]; exact (hLA61.2.2.2.2 h hh).2.2.2) (fun j x j1 j6 x10 hne => by rw [CH_A64.2.2.2 _ _ (by omega) (by omega)])
                refine hpj_iinc (by rfl) rfl ch hk_4294967295 (by omega) (by omega) (fun _ => rfl) (fun z65 ez65 => ?_)
                refine hpa_goto (by rfl) ?_
                exact ih15 z65 (.int (Int32.ofNat 0)) A64 h (by omega) (by omega) hLA64 UA64 HA64
              ·
                have dy0 : huDy D n ro b a4 h = true := by unfold huDy; rw [bt, decide_eq_true z60, decide_eq_true q63]; rfl
                rw [dy0, if_pos rfl] at gr0
                refine hpa_aload_n (by rfl) rfl ?_
                refine hpa_get (v := .ref 33) (by rfl) (by rfl) (by rfl) rfl ?_
                refine hpa_iload (by rfl) rfl ?_
                refine hpa_aload_n (by rfl) rfl ?_
                refine hpj_getK (by rfl) (hsT hT) (by rfl) rfl ?_
                have hCA61 : hdK T D A61 := hC.uf hT UA61 (by decide +kernel)
                have t6 : (A61.1 T 6) = Int32.ofInt D.2.1 := by obtain ⟨kw, V, ns, zz, k1, k2, kM, k3⟩ := hCA61; exact Int32.toInt_inj.mp (kM.2.2.1.2.1.trans (hs_ofInt hD2.1 hD2.2).symm)
                rw [t6]
                refine hpx_iast (by rfl) (by rfl) (fun A66 h0A66 h1A66 eA66 fA66 gA66 => ?_)
                have UA66 := (UA61).ar eA66 fA66 gA66 (by decide +kernel)
                have HA66 := (HA61).e (congrArg (fun q => q.2) gA66)
                rw [cih] at fA66
                refine hpa_aload_n (by rfl) rfl ?_
                refine hpa_dupR (by rfl) ?_
                refine hpj_getK (by rfl) (by rfl) (by rfl) rfl ?_
                refine hpa_iconst (by rfl) rfl ?_
                refine hpa_iadd (by rfl) ?_
                refine hpj_putI (by rfl) (by rfl) (by rfl) (by rfl) (fun A67 eA67 fA67 => ?_)
                have UA67 := (UA66).put eA67 fA67 (by decide +kernel)
                have HA67 := (HA66).e (congrArg (fun q => q.2.2) fA67)
                refine hpa_aload_n (by rfl) rfl ?_
                refine hpa_iload (by rfl) rfl ?_
                refine hpa_iload (by rfl) rfl ?_
                refine hpa_call0 (by rfl) (by rfl) (by rfl) (by rfl) (by rfl) (by rfl) (uf_C (X := ug_x142) (j := 142) rfl rfl (ug_L.cons (uf_rk_ok (by decide +kernel)) (uf_int (uf_int uf_nil))) HA67 (hP23_26 (Int32.ofNat h) (Int32.ofNat 0) rfl (by omega))) ?_
                rintro _ A68 ⟨⟨rfl, CH_A68⟩, wA68, HA68⟩
                have UA68 := (UA67).trans (wA68.le (by decide +kernel : ug_wle ug_x142.2.2.2.1 uM26_26 = true))
                have had0 : A61.2.1 29 h = ro (40 + h) := (hLA61.2.2.2.2 h hh).1.2.2.trans old.2.1
                have wan0 : A61.2.1 27 h = ro h := (hLA61.2.2.2.2 h hh).1.1.trans (huRm_low h10 (by omega))
                have had1 : A67.2.1 29 h = ro (40 + h) := by rw [fA67, fA66, hup2 (by omega)]; exact had0
                have wan1 : A67.2.1 27 h = ro h := by rw [fA67, fA66, hup2 (by omega)]; exact wan0
                have hLA68 : hdL 26 (huRm D n b a4 ro h) n A68 := hLA61.step hh (by rw [dy0, if_pos rfl, CH_A68.1, eA67, hup1, eA66]) (fun k a1_ b1_ => by rw [CH_A68.1, eA67, hup2 (by omega), eA66]) (CH_A68.2.1.trans p7) (by rw [CH_A68.2.2.1, p7, had1, wan1]) (by rw [CH_A68.2.2.2 32 h (by omega) (by omega), fA67, fA66, hup1, gr0]) (fun j x j1 j6 x10 hne => by rw [CH_A68.2.2.2 _ _ (by omega) (by omega), fA67, fA66, hup2 (by omega)])
                refine hpj_iinc (by rfl) rfl ch hk_4294967295 (by omega) (by omega) (fun _ => rfl) (fun z69 ez69 => ?_)
                refine hpa_goto (by rfl) ?_
                exact ih15 z69 (.int (Int32.ofNat 0)) A68 h (by omega) (by omega) hLA68 UA68 HA68
          ·
            have gr0 : huGr D n ro b a4 h = ro (60 + h) - Int32.ofNat 1 := by unfold huGr; rw [if_pos q55]
            have dy0 : huDy D n ro b a4 h = false := by unfold huDy; rw [decide_eq_false (by omega : ¬ (ro (60 + h)).toInt = 0), Bool.false_and, Bool.and_false]
            refine hpa_aload_n (by rfl) rfl ?_
            refine hpa_get (v := .ref 33) (by rfl) (by rfl) (by rfl) rfl ?_
            refine hpa_iload (by rfl) rfl ?_
            refine hpa_dup2IR (by rfl) ?_
            refine hpx_iald (by rfl) (by rfl) (fun h0v70 h1v70 v70 ev70 => ?_)
            rw [cih] at ev70
            have lv70 := ev70.symm.trans ((hLA4.2.2.2.2 h hh).2.2.2.trans old.2.2)
            clear ev70
            subst lv70
            refine hpa_iconst (by rfl) rfl ?_
            refine hpa_isub (by rfl) ?_
            refine hpx_iast (by rfl) (by rfl) (fun A71 h0A71 h1A71 eA71 fA71 gA71 => ?_)
            have UA71 := (UA4).ar eA71 fA71 gA71 (by decide +kernel)
            have HA71 := (HA4).e (congrArg (fun q => q.2) gA71)
            rw [cih] at fA71
            refine hpa_goto (by rfl) ?_
            refine hpa_aload_n (by rfl) rfl ?_
            refine hpa_iload (by rfl) rfl ?_
            refine hpa_iload (by rfl) rfl ?_
            refine hpa_call0 (by rfl) (by rfl) (by rfl) (by rfl) (by rfl) (by rfl) (uf_C (X := ug_x142) (j := 142) rfl rfl (ug_L.cons (uf_rk_ok (by decide +kernel)) (uf_int (uf_int uf_nil))) HA71 (hP23_26 (Int32.ofNat h) (Int32.ofNat 0) rfl (by omega))) ?_
            rintro _ A72 ⟨⟨rfl, CH_A72⟩, wA72, HA72⟩
            have UA72 := (UA71).trans (wA72.le (by decide +kernel : ug_wle ug_x142.2.2.2.1 uM26_26 = true))
            have had0 : A4.2.1 29 h = ro (40 + h) := (hLA4.2.2.2.2 h hh).1.2.2.trans old.2.1
            have wan0 : A4.2.1 27 h = ro h := (hLA4.2.2.2.2 h hh).1.1.trans (huRm_low h10 (by omega))
            have had1 : A71.2.1 29 h = ro (40 + h) := by rw [fA71, hup2 (by omega)]; exact had0
            have wan1 : A71.2.1 27 h = ro h := by rw [fA71, hup2 (by omega)]; exact wan0
            have hLA72 : hdL 26 (huRm D n b a4 ro h) n A72 := hLA4.step hh (by rw [dy0, if_neg (by decide), CH_A72.1, eA71]) (fun k a1_ b1_ => by rw [CH_A72.1, eA71]) (CH_A72.2.1.trans p7) (by rw [CH_A72.2.2.1, p7, had1, wan1]) (by rw [CH_A72.2.2.2 32 h (by omega) (by omega), fA71, hup1, gr0]) (fun j x j1 j6 x10 hne => by rw [CH_A72.2.2.2 _ _ (by omega) (by omega), fA71, hup2 (by omega)])
            refine hpj_iinc (by rfl) rfl ch hk_4294967295 (by omega) (by omega) (fun _ => rfl) (fun z73 ez73 => ?_)
            refine hpa_goto (by rfl) ?_
            exact ih15 z73 (.int (Int32.ofNat 0)) A72 h (by omega) (by omega) hLA72 UA72 HA72
  refine hpa_aload_n (by rfl) rfl ?_
  refine hpa_aload_n (by rfl) rfl ?_
  refine hpa_call0 (by rfl) (by rfl) (by rfl) (by rfl) (by rfl) (by rfl) (uf_C (X := ug_x111) (j := 111) rfl rfl (ug_L.cons (uf_rk_ok (by decide +kernel)) (ug_L.cons (by rcases hT with rfl | rfl <;> exact uf_rk_ok (by decide +kernel)) uf_nil)) hH0 (hP22_26 hT hC hL hO hD)) ?_
  rintro _ _ ⟨⟨rfl, z75, rfl, Z_A74, IN_A74⟩, -, -⟩
  subst Z_A74
  refine hpa_s1 (by rfl) (Or.inr ⟨_, rfl, rfl⟩) rfl ?_
  refine hpa_aload_n (by rfl) rfl ?_
  refine hpj_getK (by rfl) (by rfl) (by rfl) rfl ?_
  refine hpa_iconst (by rfl) rfl ?_
  refine hpj_isub (by rfl) hL.2.1 hk_1 (by omega) (by omega) (fun z76 ez76 => ?_)
  refine hpa_s1 (by rfl) (Or.inr ⟨_, rfl, rfl⟩) rfl ?_
  exact L15 _ z76 (.retAddr 0) A n (by omega) (by omega) (hL.mv (fun _ _ _ => rfl) (fun _ _ _ _ _ => rfl) (huRm_n h10)) U0 hH0
theorem hP26_26 {g d : Nat} {A : hs_A} {T : Nat} {D : hg_D} {ro : Nat → Int32} {n : Nat} {b : Bool} (a3 a4 : Int32) (hT : hTT T) (hC : hdK T D A) (hL : hdL 26 ro n A) (hO : huO ro n) (hD : ∀ t, t < 24 → 0 ≤ D.1 t ∧ D.1 t ≤ 255) (hD2 : 0 ≤ D.2.1 ∧ D.2.1 ≤ 10000) (hb : a3.toInt = if b then 1 else 0) (hTn : (A.1 T 4).toInt = (n : Int)) (hH0 : uf_H A) : hpC g d 26 hm_m26 [.ref 27, .ref (T + 1), .ref 324, .int a3, .int a4] A (fun r A' => r = none ∧ (hdL 26 (huR D n b a4 ro) n A')) := hpC.all (fun f d => hW26_26 a3 a4 hT hC hL hO hD hD2 hb hTn hH0 (fun r A' h => h))
theorem hW23_33 {g d f : Nat} {A : hs_A} {h : Nat} (a1 a2 : Int32) (ha : a1 = Int32.ofNat h) (h10 : h < 10) {P : Option Value → hs_A → Prop} (hP : ∀ (r : Option Value) (A' : hs_A), (r = none ∧ ((A'.1 = A.1 ∧ A'.2.1 38 h = a2 ∧ A'.2.1 36 h = A.2.1 36 h ||| (a2 &&& A.2.1 34 h) ∧ ∀ i j, ¬ (i = 38 ∧ j = h) → ¬ (i = 36 ∧ j = h) → A'.2.1 i j = A.2.1 i j))) → P r A') : hpa (f, g) d none hm_t23 0 [.ref 34, .int a1, .int a2] [] A P := by
  have ch := hn_c (n := h) (z := Int32.ofNat h) rfl (by omega)
  have cah : a1.toInt = (h : Int) := by rw [ha]; exact ch
  have cih : a1.toNatClampNeg = h := by have := hn_cn (j := a1) (by omega); omega
  refine hpa_aload_n (by rfl) rfl ?_
  refine hpa_get (v := .ref 39) (by rfl) (by rfl) (by rfl) rfl ?_
  refine hpa_iload_n (by rfl) rfl ?_
  refine hpa_iload_n (by rfl) rfl ?_
  refine hpx_iast (by rfl) (by rfl) (fun A1 h0A1 h1A1 eA1 fA1 gA1 => ?_)
  rw [cih] at fA1
  refine hpa_aload_n (by rfl) rfl ?_
  refine hpa_get (v := .ref 37) (by rfl) (by rfl) (by rfl) rfl ?_
  refine hpa_iload_n (by rfl) rfl ?_
  refine hpa_dup2IR (by rfl) ?_
  refine hpx_iald (by rfl) (by rfl) (fun h0v2 h1v2 v2 ev2 => ?_)
  rw [cih] at ev2
  subst ev2
  refine hpa_iload_n (by rfl) rfl ?_
  refine hpa_aload_n (by rfl) rfl ?_
  refine hpa_get (v := .ref 35) (by rfl) (by rfl) (by rfl) rfl ?_
  refine hpa_iload_n (by rfl) rfl ?_
  refine hpx_iald (by rfl) (by rfl) (fun h0v3 h1v3 v3 ev3 => ?_)
  rw [cih] at ev3
  subst ev3
  refine hpa_iand (by rfl) ?_
  refine hpa_ior (by rfl) ?_
  refine hpx_iast (by rfl) (by rfl) (fun A4 h0A4 h1A4 eA4 fA4 gA4 => ?_)
  rw [cih] at fA4
  exact hpa_return (by rfl) rfl (hP _ _ ⟨rfl, eA4.trans eA1, by rw [fA4, hup2 (by omega), fA1, hup1], by rw [fA4, hup1, fA1, hup2 (by omega), hup2 (by omega)], fun i j h1 h2 => by rw [fA4, hup2 h2, fA1, hup2 h1]⟩)
theorem hP23_33 {g d : Nat} {A : hs_A} {h : Nat} (a1 a2 : Int32) (ha : a1 = Int32.ofNat h) (h10 : h < 10) : hpC g d 23 hm_m23 [.ref 34, .int a1, .int a2] A (fun r A' => r = none ∧ ((A'.1 = A.1 ∧ A'.2.1 38 h = a2 ∧ A'.2.1 36 h = A.2.1 36 h ||| (a2 &&& A.2.1 34 h) ∧ ∀ i j, ¬ (i = 38 ∧ j = h) → ¬ (i = 36 ∧ j = h) → A'.2.1 i j = A.2.1 i j))) := hpC.all (fun f d => hW23_33 a1 a2 ha h10 (fun r A' h => h))
def uM26_33 : Nat := 323519642826903467118292676429563820128263776978213809322672895034368
theorem hW26_33 {g d f : Nat} {A : hs_A} {T : Nat} {D : hg_D} {ro : Nat → Int32} {n : Nat} {b : Bool} (a3 a4 : Int32) (hT : hTT T) (hC : hdK T D A) (hL : hdL 33 ro n A) (hO : huO ro n) (hD : ∀ t, t < 24 → 0 ≤ D.1 t ∧ D.1 t ≤ 255) (hD2 : 0 ≤ D.2.1 ∧ D.2.1 ≤ 10000) (hb : a3.toInt = if b then 1 else 0) (hTn : (A.1 T 4).toInt = (n : Int)) (hH0 : uf_H A) {P : Option Value → hs_A → Prop} (hP : ∀ (r : Option Value) (A' : hs_A), (r = none ∧ (hdL 33 (huR D n b a4 ro) n A')) → P r A') : hpa (f, g) d none hm_t26 0 [.ref 34, .ref (T + 1), .ref 324, .int a3, .int a4, .retAddr 0, .retAddr 0, .retAddr 0] [] A P := by
  have k0 := hk_0
  have k1 := hk_1
  have k16 := hk_16
  have k4294967295 := hk_4294967295
  have hT9 : T ≤ 11 := by rcases hT with rfl | rfl <;> omega
  have h10 := hL.1
  have U0 : uf_W uM26_33 A A := uf_W.rfl
  have L15 : ∀ (f : Nat) (x15_6 : Int32) (x15_7 : Value) (A15 : hs_A) (k : Nat) (k15 : k ≤ n) (l15 : x15_6.toInt = (k : Int) - 1) (hL15 : hdL 33 (huRm D n b a4 ro k) n A15) (U15 : uf_W uM26_33 A A15) (H15 : uf_H A15), hpa (f, g) d none hm_t26 15 [.ref 34, .ref (T + 1), .ref 324, .int a3, .int a4, .int (huN D ro), .int x15_6, x15_7] [] A15 P := by
    intro f
    induction f with
    | zero => intros; exact hpa.zero
    | succ f ih15 =>
      intro x15_6 x15_7 A15 k k15 l15 hL15 U15 H15
      refine hpa_iloadS (by rfl) rfl ?_
      refine hpj_zlt (by rfl) rfl (fun q1 => ?_) (fun q1 => ?_)
      ·
        have k0 : k = 0 := by omega
        subst k0
        refine hpa_aload_n (by rfl) rfl ?_
        refine hpa_iconst (by rfl) rfl ?_
        refine hpj_putI (by rfl) (by rfl) (by rfl) (by rfl) (fun A2 eA2 fA2 => ?_)
        have UA2 := (U15).put eA2 fA2 (by decide +kernel)
        have HA2 := (H15).e (congrArg (fun q => q.2.2) fA2)
        refine hpa_aload_n (by rfl) rfl ?_
        refine hpa_dupR (by rfl) ?_
        refine hpj_getK (by rfl) (by rfl) (by rfl) rfl ?_
        refine hpa_iconst (by rfl) rfl ?_
        refine hpa_iadd (by rfl) ?_
        refine hpj_putI (by rfl) (by rfl) (by rfl) (by rfl) (fun A3 eA3 fA3 => ?_)
        have UA3 := (UA2).put eA3 fA3 (by decide +kernel)
        have HA3 := (HA2).e (congrArg (fun q => q.2.2) fA3)
        exact hpa_return (by rfl) rfl (hP _ _ ⟨rfl, hL15.over (by rw [eA3, hup1, eA2, hup2 (by omega)]) (by rw [eA3, hup2 (by omega), eA2, hup1]) (fun k hk => by rw [eA3, hup2 (by omega), eA2, hup2 (by omega)]) (fun j _ _ x _ => by rw [fA3, fA2])⟩)
      ·
        obtain ⟨h, rfl⟩ : ∃ h, k = h + 1 := ⟨k - 1, by omega⟩
        have ex15 : x15_6 = Int32.ofNat h := huI (by omega) (by omega)
        subst ex15
        have ch := hn_c (n := h) (z := Int32.ofNat h) rfl (by omega)
        have cih : (Int32.ofNat h).toNatClampNeg = h := by have := hn_cn (j := Int32.ofNat h) (by omega); omega
        have hh : h < n := by omega
        have old := huRm_old (D := D) (b := b) (s := a4) (ro := ro) h10 (by omega : h < h + 1) hh
        have hXx := fun t => huX_at (D := D) (b := b) (s := a4) (ro := ro) (t := t) h10 (by omega : h < h + 1) hh
        have hHh := huRm_H (D := D) (b := b) (s := a4) (ro := ro) h10 (by omega : h < h + 1) hh
        have oh := hO.1 h hh
        refine hpa_aload_n (by rfl) rfl ?_
        refine hpa_aload_n (by rfl) rfl ?_
        refine hpa_aload_n (by rfl) rfl ?_
        refine hpa_iload (by rfl) rfl ?_
        refine hpa_aload_n (by rfl) rfl ?_
        refine hpj_getK (by rfl) (by rfl) (by rfl) rfl ?_
        rw [show (A15.1 33 7) = ro 70 from hL15.2.2.1.1.trans (huRm_low h10 (by omega))]
        have hCA15 : hdK T D A15 := hC.uf hT U15 (by decide +kernel)
        have hTnA15 : (A15.1 T 4).toInt = (n : Int) := (congrArg Int32.toInt (hdT4 U15 hT (by decide +kernel))).trans hTn
        refine hpa_call0 (by rfl) (by rfl) (by rfl) (by rfl) (by rfl) (by rfl) (uf_C (X := ug_x238) (j := 238) rfl rfl (ug_L.cons (uf_rk_ok (by decide +kernel)) (ug_L.cons (by rcases hT with rfl | rfl <;> exact uf_rk_ok (by decide +kernel)) (ug_L.cons (uf_rk_ok (by decide +kernel)) (uf_int (uf_int uf_nil))))) H15 (hP1_33 (Int32.ofNat h) (ro 70) hT hCA15 hL15 (hO.mix h10 hD hD2) (by omega) rfl hTnA15 H15)) ?_
        rintro _ A4 ⟨⟨rfl, SS_A4, FR_A4⟩, wA4, HA4⟩
        have UA4 := (U15).trans (wA4.le (by decide +kernel : ug_wle ug_x238.2.2.2.1 uM26_33 = true))
        have hLA4 := hL15.uf hLL_33 wA4 (by decide +kernel)
        have SSA4 : hdS T D (huX (Int32.ofNat n) ro (Int32.ofNat h) (ro 70)) A4 := by rw [← hXx]; exact SS_A4
        refine hpa_iconst (by rfl) rfl ?_
        refine hpa_s1 (by rfl) (Or.inr ⟨_, rfl, rfl⟩) rfl ?_
        refine hpa_aload_n (by rfl) rfl ?_
        refine hpa_iload (by rfl) rfl ?_
        refine hpa_call0 (by rfl) (by rfl) (by rfl) (by rfl) (by rfl) (by rfl) (uf_C (X := ug_x239) (j := 239) rfl rfl (ug_L.cons (uf_rk_ok (by decide +kernel)) (uf_int uf_nil)) HA4 (hP19_33 (Int32.ofNat h) hLA4 (by omega) rfl)) ?_
        rintro _ _ ⟨⟨rfl, z6, rfl, (⟨fz_A5, HE_A5⟩ | ⟨fz_A5, HE_A5⟩)⟩, -, -⟩
        ·
          rw [hHh] at HE_A5
          have hd0 : huHd D n ro h = if h = 0 then huN D ro else huW D (huX (Int32.ofNat n) ro (Int32.ofNat h) (ro 70)) (ro (29 + h)) := by unfold huHd; rw [HE_A5]; rfl
          refine hpj_zeq (by rfl) rfl (fun q7 => False.elim (by omega)) (fun q7 => ?_)
          refine hpa_iload (by rfl) rfl ?_
          refine hpj_zne (by rfl) ch (fun q8 => ?_) (fun q8 => ?_)
          ·
            rw [if_neg (by omega)] at hd0
            refine hpa_aload_n (by rfl) rfl ?_
            refine hpa_aload_n (by rfl) rfl ?_
            refine hpa_get (v := .ref 39) (by rfl) (by rfl) (by rfl) rfl ?_
            refine hpa_iload (by rfl) rfl ?_
            refine hpa_iconst (by rfl) rfl ?_
            refine hpj_isub (by rfl) ch hk_1 (by omega) (by omega) (fun z9 ez9 => ?_)
            refine hpx_iald (by rfl) (by rfl) (fun h0v10 h1v10 v10 ev10 => ?_)
            have o63 := (huRm_old (D := D) (b := b) (s := a4) (ro := ro) h10 (by omega : h - 1 < h + 1) (by omega : h - 1 < n)).1
            rw [show (z9).toNatClampNeg = h - 1 from by have := hn_cn (j := z9) (by omega); omega] at ev10
            have lv10 := ev10.symm.trans ((hLA4.2.2.2.2 (h - 1) (by omega)).2.2.1.trans (o63.trans (by rw [show 30 + (h - 1) = 29 + h by omega] : ro (30 + (h - 1)) = ro (29 + h))))
            clear ev10
            subst lv10
            have b63 := (hO.1 (h - 1) (by omega)).2.2.1
            rw [show 30 + (h - 1) = 29 + h by omega] at b63
            have hCA4 : hdK T D A4 := hC.uf hT UA4 (by decide +kernel)
            refine hpa_call0 (by rfl) (by rfl) (by rfl) (by rfl) (by rfl) (by rfl) (uf_C (X := ug_x134) (j := 134) rfl rfl (ug_L.cons (uf_rk_ok (by decide +kernel)) (uf_int uf_nil)) HA4 (hP5 (ro (29 + h)) hT hCA4 SSA4 (by omega) (by omega) HA4)) ?_
            rintro _ A11 ⟨⟨z12, rfl, Z_A11, SS_A11, FR_A11⟩, wA11, HA11⟩
            have UA11 := (UA4).trans (wA11.le (by decide +kernel : ug_wle ug_x134.2.2.2.1 uM26_33 = true))
            have hLA11 := hLA4.uf hLL_33 wA11 (by decide +kernel)
            subst Z_A11
            refine hpa_s1 (by rfl) (Or.inr ⟨_, rfl, rfl⟩) rfl ?_
            have p7 : (huW D (huX (Int32.ofNat n) ro (Int32.ofNat h) (ro 70)) (ro (29 + h))) = huHd D n ro h := hd0.symm
            refine hpa_aload_n (by rfl) rfl ?_
            refine hpa_get (v := .ref 40) (by rfl) (by rfl) (by rfl) rfl ?_
            refine hpa_iload (by rfl) rfl ?_
            refine hpx_iald (by rfl) (by rfl) (fun h0v13 h1v13 v13 ev13 => ?_)
            rw [cih] at ev13
            have lv13 := ev13.symm.trans ((hLA11.2.2.2.2 h hh).2.2.2.trans old.2.2)
            clear ev13
            subst lv13
            refine hpj_zle (by rfl) rfl (fun q14 => ?_) (fun q14 => ?_)
            ·
              have z60 : (ro (60 + h)).toInt = 0 := by omega
              have gr0 : huGr D n ro b a4 h = if huDy D n ro b a4 h then Int32.ofInt D.2.1 else ro (60 + h) := by unfold huGr; rw [if_neg (by omega)]
              refine hpa_iload_n (by rfl) rfl ?_
              refine hpj_zeq (by rfl) rfl (fun q15 => ?_) (fun q15 => ?_)
              ·
                have bf : b = false := by cases b with | false => rfl | true => rw [if_pos rfl] at hb; exact absurd hb (by omega)
                have dy0 : huDy D n ro b a4 h = false := by unfold huDy; rw [bf, Bool.false_and]
                rw [dy0, if_neg (by decide)] at gr0
                refine hpa_aload_n (by rfl) rfl ?_
                refine hpa_iload (by rfl) rfl ?_
                refine hpa_iload (by rfl) rfl ?_
                refine hpa_call0 (by rfl) (by rfl) (by rfl) (by rfl) (by rfl) (by rfl) (uf_C (X := ug_x257) (j := 257) rfl rfl (ug_L.cons (uf_rk_ok (by decide +kernel)) (uf_int (uf_int uf_nil))) HA11 (hP23_33 (Int32.ofNat h) (huW D (huX (Int32.ofNat n) ro (Int32.ofNat h) (ro 70)) (ro (29 + h))) rfl (by omega))) ?_
                rintro _ A16 ⟨⟨rfl, CH_A16⟩, wA16, HA16⟩
                have UA16 := (UA11).trans (wA16.le (by decide +kernel : ug_wle ug_x257.2.2.2.1 uM26_33 = true))
                have had0 : A11.2.1 36 h = ro (40 + h) := (hLA11.2.2.2.2 h hh).1.2.2.trans old.2.1
                have wan0 : A11.2.1 34 h = ro h := (hLA11.2.2.2.2 h hh).1.1.trans (huRm_low h10 (by omega))
                have had1 := had0
                have wan1 := wan0
                have hLA16 : hdL 33 (huRm D n b a4 ro h) n A16 := hLA11.step hh (by rw [dy0, if_neg (by decide), CH_A16.1]) (fun k a1_ b1_ => by rw [CH_A16.1]) (CH_A16.2.1.trans p7) (by rw [CH_A16.2.2.1, p7, had1, wan1]) (by rw [CH_A16.2.2.2 39 h (by omega) (by omega), gr0, ← old.2.2]; exact (hLA11.2.2.2.2 h hh).2.2.2) (fun j x j1 j6 x10 hne => by rw [CH_A16.2.2.2 _ _ (by omega) (by omega)])
                refine hpj_iinc (by rfl) rfl ch hk_4294967295 (by omega) (by omega) (fun _ => rfl) (fun z17 ez17 => ?_)
                refine hpa_goto (by rfl) ?_
                exact ih15 z17 (.int (huW D (huX (Int32.ofNat n) ro (Int32.ofNat h) (ro 70)) (ro (29 + h)))) A16 h (by omega) (by omega) hLA16 UA16 HA16
              ·
                have bt : b = true := by cases b with | true => rfl | false => rw [if_neg (by decide)] at hb; exact absurd hb (by omega)
                refine hpa_iload (by rfl) rfl ?_
                refine hpa_bipush (by rfl) rfl ?_
                refine hpa_aload_n (by rfl) rfl ?_
                refine hpj_getK (by rfl) (by rfl) (by rfl) rfl ?_
                rw [show (A11.1 33 7) = ro 70 from hLA11.2.2.1.1.trans (huRm_low h10 (by omega))]
                refine hpa_imul (by rfl) ?_
                refine hpa_iload (by rfl) rfl ?_
                refine hpa_iadd (by rfl) ?_
                refine hpa_call2 (by rfl) (by decide) (by rfl) (by rfl) (by rfl) (uf_C (X := ug_x240) (j := 240) rfl rfl (uf_int (uf_int uf_nil)) HA11 (hP27 a4 (((Int32.ofNat 16) * (ro 70)) + (Int32.ofNat h)))) ?_
                rintro _ _ ⟨⟨rfl, z19, rfl, Z_A18⟩, -, -⟩
                subst Z_A18
                refine hpa_aload_n (by rfl) rfl ?_
                have hCA11 : hdK T D A11 := hC.uf hT UA11 (by decide +kernel)
                refine hpa_call0 (by rfl) (by rfl) (by rfl) (by rfl) (by rfl) (by rfl) (uf_C (X := ug_x192) (j := 192) rfl rfl (ug_L.cons (uf_rk_ok (by decide +kernel)) uf_nil) HA11 (hP4 hT hCA11 SS_A11.1 HA11)) ?_
                rintro _ A20 ⟨⟨z21, rfl, Z_A20, VV_A20, FR_A20⟩, wA20, HA20⟩
                have UA20 := (UA11).trans (wA20.le (by decide +kernel : ug_wle ug_x192.2.2.2.1 uM26_33 = true))
                have hLA20 := hLA11.uf hLL_33 wA20 (by decide +kernel)
                subst Z_A20
                refine hpj_cge (by rfl) rfl rfl (fun q22 => ?_) (fun q22 => ?_)
                ·
                  have dy0 : huDy D n ro b a4 h = false := by unfold huDy; rw [decide_eq_false (show ¬ (huLt a4 (Int32.ofNat 16 * ro 70 + Int32.ofNat h)).toInt < (huE D (huX (Int32.ofNat n) ro (Int32.ofNat h) (ro 70))).toInt from Int.not_lt.mpr q22), Bool.and_false, Bool.and_false]
                  rw [dy0, if_neg (by decide)] at gr0
                  refine hpa_aload_n (by rfl) rfl ?_
                  refine hpa_iload (by rfl) rfl ?_
                  refine hpa_iload (by rfl) rfl ?_
                  refine hpa_call0 (by rfl) (by rfl) (by rfl) (by rfl) (by rfl) (by rfl) (uf_C (X := ug_x257) (j := 257) rfl rfl (ug_L.cons (uf_rk_ok (by decide +kernel)) (uf_int (uf_int uf_nil))) HA20 (hP23_33 (Int32.ofNat h) (huW D (huX (Int32.ofNat n) ro (Int32.ofNat h) (ro 70)) (ro (29 + h))) rfl (by omega))) ?_
                  rintro _ A23 ⟨⟨rfl, CH_A23⟩, wA23, HA23⟩
                  have UA23 := (UA20).trans (wA23.le (by decide +kernel : ug_wle ug_x257.2.2.2.1 uM26_33 = true))
                  have had0 : A20.2.1 36 h = ro (40 + h) := (hLA20.2.2.2.2 h hh).1.2.2.trans old.2.1
                  have wan0 : A20.2.1 34 h = ro h := (hLA20.2.2.2.2 h hh).1.1.trans (huRm_low h10 (by omega))
                  have had1 := had0
                  have wan1 := wan0
                  have hLA23 : hdL 33 (huRm D n b a4 ro h) n A23 := hLA20.step hh (by rw [dy0, if_neg (by decide), CH_A23.1]) (fun k a1_ b1_ => by rw [CH_A23.1]) (CH_A23.2.1.trans p7) (by rw [CH_A23.2.2.1, p7, had1, wan1]) (by rw [CH_A23.2.2.2 39 h (by omega) (by omega), gr0, ← old.2.2]; exact (hLA20.2.2.2.2 h hh).2.2.2) (fun j x j1 j6 x10 hne => by rw [CH_A23.2.2.2 _ _ (by omega) (by omega)])
                  refine hpj_iinc (by rfl) rfl ch hk_4294967295 (by omega) (by omega) (fun _ => rfl) (fun z24 ez24 => ?_)
                  refine hpa_goto (by rfl) ?_
                  exact ih15 z24 (.int (huW D (huX (Int32.ofNat n) ro (Int32.ofNat h) (ro 70)) (ro (29 + h)))) A23 h (by omega) (by omega) hLA23 UA23 HA23
                ·
                  have dy0 : huDy D n ro b a4 h = true := by unfold huDy; rw [bt, decide_eq_true z60, decide_eq_true q22]; rfl
                  rw [dy0, if_pos rfl] at gr0
                  refine hpa_aload_n (by rfl) rfl ?_
                  refine hpa_get (v := .ref 40) (by rfl) (by rfl) (by rfl) rfl ?_
                  refine hpa_iload (by rfl) rfl ?_
                  refine hpa_aload_n (by rfl) rfl ?_
                  refine hpj_getK (by rfl) (hsT hT) (by rfl) rfl ?_
                  have hCA20 : hdK T D A20 := hC.uf hT UA20 (by decide +kernel)
                  have t6 : (A20.1 T 6) = Int32.ofInt D.2.1 := by obtain ⟨kw, V, ns, zz, k1, k2, kM, k3⟩ := hCA20; exact Int32.toInt_inj.mp (kM.2.2.1.2.1.trans (hs_ofInt hD2.1 hD2.2).symm)
                  rw [t6]
                  refine hpx_iast (by rfl) (by rfl) (fun A25 h0A25 h1A25 eA25 fA25 gA25 => ?_)
                  have UA25 := (UA20).ar eA25 fA25 gA25 (by decide +kernel)
                  have HA25 := (HA20).e (congrArg (fun q => q.2) gA25)
                  rw [cih] at fA25
                  refine hpa_aload_n (by rfl) rfl ?_
                  refine hpa_dupR (by rfl) ?_
                  refine hpj_getK (by rfl) (by rfl) (by rfl) rfl ?_
                  refine hpa_iconst (by rfl) rfl ?_
                  refine hpa_iadd (by rfl) ?_
                  refine hpj_putI (by rfl) (by rfl) (by rfl) (by rfl) (fun A26 eA26 fA26 => ?_)
                  have UA26 := (UA25).put eA26 fA26 (by decide +kernel)
                  have HA26 := (HA25).e (congrArg (fun q => q.2.2) fA26)
                  refine hpa_aload_n (by rfl) rfl ?_
                  refine hpa_iload (by rfl) rfl ?_
                  refine hpa_iload (by rfl) rfl ?_
                  refine hpa_call0 (by rfl) (by rfl) (by rfl) (by rfl) (by rfl) (by rfl) (uf_C (X := ug_x257) (j := 257) rfl rfl (ug_L.cons (uf_rk_ok (by decide +kernel)) (uf_int (uf_int uf_nil))) HA26 (hP23_33 (Int32.ofNat h) (huW D (huX (Int32.ofNat n) ro (Int32.ofNat h) (ro 70)) (ro (29 + h))) rfl (by omega))) ?_
                  rintro _ A27 ⟨⟨rfl, CH_A27⟩, wA27, HA27⟩
                  have UA27 := (UA26).trans (wA27.le (by decide +kernel : ug_wle ug_x257.2.2.2.1 uM26_33 = true))
                  have had0 : A20.2.1 36 h = ro (40 + h) := (hLA20.2.2.2.2 h hh).1.2.2.trans old.2.1
                  have wan0 : A20.2.1 34 h = ro h := (hLA20.2.2.2.2 h hh).1.1.trans (huRm_low h10 (by omega))
                  have had1 : A26.2.1 36 h = ro (40 + h) := by rw [fA26, fA25, hup2 (by omega)]; exact had0
                  have wan1 : A26.2.1 34 h = ro h := by rw [fA26, fA25, hup2 (by omega)]; exact wan0
                  have hLA27 : hdL 33 (huRm D n b a4 ro h) n A27 := hLA20.step hh (by rw [dy0, if_pos rfl, CH_A27.1, eA26, hup1, eA25]) (fun k a1_ b1_ => by rw [CH_A27.1, eA26, hup2 (by omega), eA25]) (CH_A27.2.1.trans p7) (by rw [CH_A27.2.2.1, p7, had1, wan1]) (by rw [CH_A27.2.2.2 39 h (by omega) (by omega), fA26, fA25, hup1, gr0]) (fun j x j1 j6 x10 hne => by rw [CH_A27.2.2.2 _ _ (by omega) (by omega), fA26, fA25, hup2 (by omega)])
                  refine hpj_iinc (by rfl) rfl ch hk_4294967295 (by omega) (by omega) (fun _ => rfl) (fun z28 ez28 => ?_)
                  refine hpa_goto (by rfl) ?_
                  exact ih15 z28 (.int (huW D (huX (Int32.ofNat n) ro (Int32.ofNat h) (ro 70)) (ro (29 + h)))) A27 h (by omega) (by omega) hLA27 UA27 HA27
            ·
              have gr0 : huGr D n ro b a4 h = ro (60 + h) - Int32.ofNat 1 := by unfold huGr; rw [if_pos q14]
              have dy0 : huDy D n ro b a4 h = false := by unfold huDy; rw [decide_eq_false (by omega : ¬ (ro (60 + h)).toInt = 0), Bool.false_and, Bool.and_false]
              refine hpa_aload_n (by rfl) rfl ?_
              refine hpa_get (v := .ref 40) (by rfl) (by rfl) (by rfl) rfl ?_
              refine hpa_iload (by rfl) rfl ?_
              refine hpa_dup2IR (by rfl) ?_
              refine hpx_iald (by rfl) (by rfl) (fun h0v29 h1v29 v29 ev29 => ?_)
              rw [cih] at ev29
              have lv29 := ev29.symm.trans ((hLA11.2.2.2.2 h hh).2.2.2.trans old.2.2)
              clear ev29
              subst lv29
              refine hpa_iconst (by rfl) rfl ?_
              refine hpa_isub (by rfl) ?_
              refine hpx_iast (by rfl) (by rfl) (fun A30 h0A30 h1A30 eA30 fA30 gA30 => ?_)
              have UA30 := (UA11).ar eA30 fA30 gA30 (by decide +kernel)
              have HA30 := (HA11).e (congrArg (fun q => q.2) gA30)
              rw [cih] at fA30
              refine hpa_goto (by rfl) ?_
              refine hpa_aload_n (by rfl) rfl ?_
              refine hpa_iload (by rfl) rfl ?_
              refine hpa_iload (by rfl) rfl ?_
              refine hpa_call0 (by rfl) (by rfl) (by rfl) (by rfl) (by rfl) (by rfl) (uf_C (X := ug_x257) (j := 257) rfl rfl (ug_L.cons (uf_rk_ok (by decide +kernel)) (uf_int (uf_int uf_nil))) HA30 (hP23_33 (Int32.ofNat h) (huW D (huX (Int32.ofNat n) ro (Int32.ofNat h) (ro 70)) (ro (29 + h))) rfl (by omega))) ?_
              rintro _ A31 ⟨⟨rfl, CH_A31⟩, wA31, HA31⟩
              have UA31 := (UA30).trans (wA31.le (by decide +kernel : ug_wle ug_x257.2.2.2.1 uM26_33 = true))
              have had0 : A11.2.1 36 h = ro (40 + h) := (hLA11.2.2.2.2 h hh).1.2.2.trans old.2.1
              have wan0 : A11.2.1 34 h = ro h := (hLA11.2.2.2.2 h hh).1.1.trans (huRm_low h10 (by omega))
              have had1 : A30.2.1 36 h = ro (40 + h) := by rw [fA30, hup2 (by omega)]; exact had0
              have wan1 : A30.2.1 34 h = ro h := by rw [fA30, hup2 (by omega)]; exact wan0
              have hLA31 : hdL 33 (huRm D n b a4 ro h) n A31 := hLA11.step hh (by rw [dy0, if_neg (by decide), CH_A31.1, eA30]) (fun k a1_ b1_ => by rw [CH_A31.1, eA30]) (CH_A31.2.1.trans p7) (by rw [CH_A31.2.2.1, p7, had1, wan1]) (by rw [CH_A31.2.2.2 39 h (by omega) (by omega), fA30, hup1, gr0]) (fun j x j1 j6 x10 hne => by rw [CH_A31.2.2.2 _ _ (by omega) (by omega), fA30, hup2 (by omega)])
              refine hpj_iinc (by rfl) rfl ch hk_4294967295 (by omega) (by omega) (fun _ => rfl) (fun z32 ez32 => ?_)
              refine hpa_goto (by rfl) ?_
              exact ih15 z32 (.int (huW D (huX (Int32.ofNat n) ro (Int32.ofNat h) (ro 70)) (ro (29 + h)))) A31 h (by omega) (by omega) hLA31 UA31 HA31
          ·
            rw [if_pos (by omega)] at hd0
            refine hpa_iload (by rfl) rfl ?_
            refine hpa_goto (by rfl) ?_
            refine hpa_s1 (by rfl) (Or.inr ⟨_, rfl, rfl⟩) rfl ?_
            have p7 : (huN D ro) = huHd D n ro h := hd0.symm
            refine hpa_aload_n (by rfl) rfl ?_
            refine hpa_get (v := .ref 40) (by rfl) (by rfl) (by rfl) rfl ?_
            refine hpa_iload (by rfl) rfl ?_
            refine hpx_iald (by rfl) (by rfl) (fun h0v33 h1v33 v33 ev33 => ?_)
            rw [cih] at ev33
            have lv33 := ev33.symm.trans ((hLA4.2.2.2.2 h hh).2.2.2.trans old.2.2)
            clear ev33
            subst lv33
            refine hpj_zle (by rfl) rfl (fun q34 => ?_) (fun q34 => ?_)
            ·
              have z60 : (ro (60 + h)).toInt = 0 := by omega
              have gr0 : huGr D n ro b a4 h = if huDy D n ro b a4 h then Int32.ofInt D.2.1 else ro (60 + h) := by unfold huGr; rw [if_neg (by omega)]
              refine hpa_iload_n (by rfl) rfl ?_
              refine hpj_zeq (by rfl) rfl (fun q35 => ?_) (fun q35 => ?_)
              ·
                have bf : b = false := by cases b with | false => rfl | true => rw [if_pos rfl] at hb; exact absurd hb (by omega)
                have dy0 : huDy D n ro b a4 h = false := by unfold huDy; rw [bf, Bool.false_and]
                rw [dy0, if_neg (by decide)] at gr0
                refine hpa_aload_n (by rfl) rfl ?_
                refine hpa_iload (by rfl) rfl ?_
                refine hpa_iload (by rfl) rfl ?_
                refine hpa_call0 (by rfl) (by rfl) (by rfl) (by rfl) (by rfl) (by rfl) (uf_C (X := ug_x257) (j := 257) rfl rfl (ug_L.cons (uf_rk_ok (by decide +kernel)) (uf_int (uf_int uf_nil))) HA4 (hP23_33 (Int32.ofNat h) (huN D ro) rfl (by omega))) ?_
                rintro _ A36 ⟨⟨rfl, CH_A36⟩, wA36, HA36⟩
                have UA36 := (UA4).trans (wA36.le (by decide +kernel : ug_wle ug_x257.2.2.2.1 uM26_33 = true))
                have had0 : A4.2.1 36 h = ro (40 + h) := (hLA4.2.2.2.2 h hh).1.2.2.trans old.2.1
                have wan0 : A4.2.1 34 h = ro h := (hLA4.2.2.2.2 h hh).1.1.trans (huRm_low h10 (by omega))
                have had1 := had0
                have wan1 := wan0
                have hLA36 : hdL 33 (huRm D n b a4 ro h) n A36 := hLA4.step hh (by rw [dy0, if_neg (by decide), CH_A36.1]) (fun k a1_ b1_ => by rw [CH_A36.1]) (CH_A36.2.1.trans p7) (by rw [CH_A36.2.2.1, p7, had1, wan1]) (by rw [CH_A36.2.2.2 39 h (by omega) (by omega), gr0, ← old.2.2]; exact (hLA4.2.2.2.2 h hh).2.2.2) (fun j x j1 j6 x10 hne => by rw [CH_A36.2.2.2 _ _ (by omega) (by omega)])
                refine hpj_iinc (by rfl) rfl ch hk_4294967295 (by omega) (by omega) (fun _ => rfl) (fun z37 ez37 => ?_)
                refine hpa_goto (by rfl) ?_
                exact ih15 z37 (.int (huN D ro)) A36 h (by omega) (by omega) hLA36 UA36 HA36
              ·
                have bt : b = true := by cases b with | true => rfl | false => rw [if_neg (by decide)] at hb; exact absurd hb (by omega)
                refine hpa_iload (by rfl) rfl ?_
                refine hpa_bipush (by rfl) rfl ?_
                refine hpa_aload_n (by rfl) rfl ?_
                refine hpj_getK (by rfl) (by rfl) (by rfl) rfl ?_
                rw [show (A4.1 33 7) = ro 70 from hLA4.2.2.1.1.trans (huRm_low h10 (by omega))]
                refine hpa_imul (by rfl) ?_
                refine hpa_iload (by rfl) rfl ?_
                refine hpa_iadd (by rfl) ?_
                refine hpa_call2 (by rfl) (by decide) (by rfl) (by rfl) (by rfl) (uf_C (X := ug_x240) (j := 240) rfl rfl (uf_int (uf_int uf_nil)) HA4 (hP27 a4 (((Int32.ofNat 16) * (ro 70)) + (Int32.ofNat h)))) ?_
                rintro _ _ ⟨⟨rfl, z39, rfl, Z_A38⟩, -, -⟩
                subst Z_A38
                refine hpa_aload_n (by rfl) rfl ?_
                have hCA4 : hdK T D A4 := hC.uf hT UA4 (by decide +kernel)
                refine hpa_call0 (by rfl) (by rfl) (by rfl) (by rfl) (by rfl) (by rfl) (uf_C (X := ug_x192) (j := 192) rfl rfl (ug_L.cons (uf_rk_ok (by decide +kernel)) uf_nil) HA4 (hP4 hT hCA4 SSA4.1 HA4)) ?_
                rintro _ A40 ⟨⟨z41, rfl, Z_A40, VV_A40, FR_A40⟩, wA40, HA40⟩
                have UA40 := (UA4).trans (wA40.le (by decide +kernel : ug_wle ug_x192.2.2.2.1 uM26_33 = true))
                have hLA40 := hLA4.uf hLL_33 wA40 (by decide +kernel)
                subst Z_A40
                refine hpj_cge (by rfl) rfl rfl (fun q42 => ?_) (fun q42 => ?_)
                ·
                  have dy0 : huDy D n ro b a4 h = false := by unfold huDy; rw [decide_eq_false (show ¬ (huLt a4 (Int32.ofNat 16 * ro 70 + Int32.ofNat h)).toInt < (huE D (huX (Int32.ofNat n) ro (Int32.ofNat h) (ro 70))).toInt from Int.not_lt.mpr q42), Bool.and_false, Bool.and_false]
                  rw [dy0, if_neg (by decide)] at gr0
                  refine hpa_aload_n (by rfl) rfl ?_
                  refine hpa_iload (by rfl) rfl ?_
                  refine hpa_iload (by rfl) rfl ?_
                  refine hpa_call0 (by rfl) (by rfl) (by rfl) (by rfl) (by rfl) (by rfl) (uf_C (X := ug_x257) (j := 257) rfl rfl (ug_L.cons (uf_rk_ok (by decide +kernel)) (uf_int (uf_int uf_nil))) HA40 (hP23_33 (Int32.ofNat h) (huN D ro) rfl (by omega))) ?_
                  rintro _ A43 ⟨⟨rfl, CH_A43⟩, wA43, HA43⟩
                  have UA43 := (UA40).trans (wA43.le (by decide +kernel : ug_wle ug_x257.2.2.2.1 uM26_33 = true))
                  have had0 : A40.2.1 36 h = ro (40 + h) := (hLA40.2.2.2.2 h hh).1.2.2.trans old.2.1
                  have wan0 : A40.2.1 34 h = ro h := (hLA40.2.2.2.2 h hh).1.1.trans (huRm_low h10 (by omega))
                  have had1 := had0
                  have wan1 := wan0
                  have hLA43 : hdL 33 (huRm D n b a4 ro h) n A43 := hLA40.step hh (by rw [dy0, if_neg (by decide), CH_A43.1]) (fun k a1_ b1_ => by rw [CH_A43.1]) (CH_A43.2.1.trans p7) (by rw [CH_A43.2.2.1, p7, had1, wan1]) (by rw [CH_A43.2.2.2 39 h (by omega) (by omega), gr0, ← old.2.2]; exact (hLA40.2.2.2.2 h hh).2.2.2) (fun j x j1 j6 x10 hne => by rw [CH_A43.2.2.2 _ _ (by omega) (by omega)])
                  refine hpj_iinc (by rfl) rfl ch hk_4294967295 (by omega) (by omega) (fun _ => rfl) (fun z44 ez44 => ?_)
                  refine hpa_goto (by rfl) ?_
                  exact ih15 z44 (.int (huN D ro)) A43 h (by omega) (by omega) hLA43 UA43 HA43
                ·
                  have dy0 : huDy D n ro b a4 h = true := by unfold huDy; rw [bt, decide_eq_true z60, decide_eq_true q42]; rfl
                  rw [dy0, if_pos rfl] at gr0
                  refine hpa_aload_n (by rfl) rfl ?_
                  refine hpa_get (v := .ref 40) (by rfl) (by rfl) (by rfl) rfl ?_
                  refine hpa_iload (by rfl) rfl ?_
                  refine hpa_aload_n (by rfl) rfl ?_
                  refine hpj_getK (by rfl) (hsT hT) (by rfl) rfl ?_
                  have hCA40 : hdK T D A40 := hC.uf hT UA40 (by decide +kernel)
                  have t6 : (A40.1 T 6) = Int32.ofInt D.2.1 := by obtain ⟨kw, V, ns, zz, k1, k2, kM, k3⟩ := hCA40; exact Int32.toInt_inj.mp (kM.2.2.1.2.1.trans (hs_ofInt hD2.1 hD2.2).symm)
                  rw [t6]
                  refine hpx_iast (by rfl) (by rfl) (fun A45 h0A45 h1A45 eA45 fA45 gA45 => ?_)
                  have UA45 := (UA40).ar eA45 fA45 gA45 (by decide +kernel)
                  have HA45 := (HA40).e (congrArg (fun q => q.2) gA45)
                  rw [cih] at fA45
                  refine hpa_aload_n (by rfl) rfl ?_
                  refine hpa_dupR (by rfl) ?_
                  refine hpj_getK (by rfl) (by rfl) (by rfl) rfl ?_
                  refine hpa_iconst (by rfl) rfl ?_
                  refine hpa_iadd (by rfl) ?_
                  refine hpj_putI (by rfl) (by rfl) (by rfl) (by rfl) (fun A46 eA46 fA46 => ?_)
                  have UA46 := (UA45).put eA46 fA46 (by decide +kernel)
                  have HA46 := (HA45).e (congrArg (fun q => q.2.2) fA46)
                  refine hpa_aload_n (by rfl) rfl ?_
                  refine hpa_iload (by rfl) rfl ?_
                  refine hpa_iload (by rfl) rfl ?_
                  refine hpa_call0 (by rfl) (by rfl) (by rfl) (by rfl) (by rfl) (by rfl) (uf_C (X := ug_x257) (j := 257) rfl rfl (ug_L.cons (uf_rk_ok (by decide +kernel)) (uf_int (uf_int uf_nil))) HA46 (hP23_33 (Int32.ofNat h) (huN D ro) rfl (by omega))) ?_
                  rintro _ A47 ⟨⟨rfl, CH_A47⟩, wA47, HA47⟩
                  have UA47 := (UA46).trans (wA47.le (by decide +kernel : ug_wle ug_x257.2.2.2.1 uM26_33 = true))
                  have had0 : A40.2.1 36 h = ro (40 + h) := (hLA40.2.2.2.2 h hh).1.2.2.trans old.2.1
                  have wan0 : A40.2.1 34 h = ro h := (hLA40.2.2.2.2 h hh).1.1.trans (huRm_low h10 (by omega))
                  have had1 : A46.2.1 36 h = ro (40 + h) := by rw [fA46, fA45, hup2 (by omega)]; exact had0
                  have wan1 : A46.2.1 34 h = ro h := by rw [fA46, fA45, hup2 (by omega)]; exact wan0
                  have hLA47 : hdL 33 (huRm D n b a4 ro h) n A47 := hLA40.step hh (by rw [dy0, if_pos rfl, CH_A47.1, eA46, hup1, eA45]) (fun k a1_ b1_ => by rw [CH_A47.1, eA46, hup2 (by omega), eA45]) (CH_A47.2.1.trans p7) (by rw [CH_A47.2.2.1, p7, had1, wan1]) (by rw [CH_A47.2.2.2 39 h (by omega) (by omega), fA46, fA45, hup1, gr0]) (fun j x j1 j6 x10 hne => by rw [CH_A47.2.2.2 _ _ (by omega) (by omega), fA46, fA45, hup2 (by omega)])
                  refine hpj_iinc (by rfl) rfl ch hk_4294967295 (by omega) (by omega) (fun _ => rfl) (fun z48 ez48 => ?_)
                  refine hpa_goto (by rfl) ?_
                  exact ih15 z48 (.int (huN D ro)) A47 h (by omega) (by omega) hLA47 UA47 HA47
            ·
              have gr0 : huGr D n ro b a4 h = ro (60 + h) - Int32.ofNat 1 := by unfold huGr; rw [if_pos q34]
              have dy0 : huDy D n ro b a4 h = false := by unfold huDy; rw [decide_eq_false (by omega : ¬ (ro (60 + h)).toInt = 0), Bool.false_and, Bool.and_false]
              refine hpa_aload_n (by rfl) rfl ?_
              refine hpa_get (v := .ref 40) (by rfl) (by rfl) (by rfl) rfl ?_
              refine hpa_iload (by rfl) rfl ?_
              refine hpa_dup2IR (by rfl) ?_
              refine hpx_iald (by rfl) (by rfl) (fun h0v49 h1v49 v49 ev49 => ?_)
              rw [cih] at ev49
              have lv49 := ev49.symm.trans ((hLA4.2.2.2.2 h hh).2.2.2.trans old.2.2)
              clear ev49
              subst lv49
              refine hpa_iconst (by rfl) rfl ?_
              refine hpa_isub (by rfl) ?_
              refine hpx_iast (by rfl) (by rfl) (fun A50 h0A50 h1A50 eA50 fA50 gA50 => ?_)
              have UA50 := (UA4).ar eA50 fA50 gA50 (by decide +kernel)
              have HA50 := (HA4).e (congrArg (fun q => q.2) gA50)
              rw [cih] at fA50
              refine hpa_goto (by rfl) ?_
              refine hpa_aload_n (by rfl) rfl ?_
              refine hpa_iload (by rfl) rfl ?_
              refine hpa_iload (by rfl) rfl ?_
              refine hpa_call0 (by rfl) (by rfl) (by rfl) (by rfl) (by rfl) (by rfl) (uf_C (X := ug_x257) (j := 257) rfl rfl (ug_L.cons (uf_rk_ok (by decide +kernel)) (uf_int (uf_int uf_nil))) HA50 (hP23_33 (Int32.ofNat h) (huN D ro) rfl (by omega))) ?_
              rintro _ A51 ⟨⟨rfl, CH_A51⟩, wA51, HA51⟩
              have UA51 := (UA50).trans (wA51.le (by decide +kernel : ug_wle ug_x257.2.2.2.1 uM26_33 = true))
              have had0 : A4.2.1 36 h = ro (40 + h) := (hLA4.2.2.2.2 h hh).1.2.2.trans old.2.1
              have wan0 : A4.2.1 34 h = ro h := (hLA4.2.2.2.2 h hh).1.1.trans (huRm_low h10 (by omega))
              have had1 : A50.2.1 36 h = ro (40 + h) := by rw [fA50, hup2 (by omega)]; exact had0
              have wan1 : A50.2.1 34 h = ro h := by rw [fA50, hup2 (by omega)]; exact wan0
              have hLA51 : hdL 33 (huRm D n b a4 ro h) n A51 := hLA4.step hh (by rw [dy0, if_neg (by decide), CH_A51.1, eA50]) (fun k a1_ b1_ => by rw [CH_A51.1, eA50]) (CH_A51.2.1.trans p7) (by rw [CH_A51.2.2.1, p7, had1, wan1]) (by rw [CH_A51.2.2.2 39 h (by omega) (by omega), fA50, hup1, gr0]) (fun j x j1 j6 x10 hne => by rw [CH_A51.2.2.2 _ _ (by omega) (by omega), fA50, hup2 (by omega)])
              refine hpj_iinc (by rfl) rfl ch hk_4294967295 (by omega) (by omega) (fun _ => rfl) (fun z52 ez52 => ?_)
              refine hpa_goto (by rfl) ?_
              exact ih15 z52 (.int (huN D ro)) A51 h (by omega) (by omega) hLA51 UA51 HA51
        ·
          rw [hHh] at HE_A5
          have hd0 : huHd D n ro h = Int32.ofNat 0 := by unfold huHd; rw [HE_A5]; rfl
          refine hpj_zeq (by rfl) rfl (fun q53 => ?_) (fun q53 => False.elim (by omega))
          have p7 : (Int32.ofNat 0) = huHd D n ro h := hd0.symm
          refine hpa_aload_n (by rfl) rfl ?_
          refine hpa_get (v := .ref 40) (by rfl) (by rfl) (by rfl) rfl ?_
          refine hpa_iload (by rfl) rfl ?_
          refine hpx_iald (by rfl) (by rfl) (fun h0v54 h1v54 v54 ev54 => ?_)
          rw [cih] at ev54
          have lv54 := ev54.symm.trans ((hLA4.2.2.2.2 h hh).2.2.2.trans old.2.2)
          clear ev54
          subst lv54
          refine hpj_zle (by rfl) rfl (fun q55 => ?_) (fun q55 => ?_)
          ·
            have z60 : (ro (60 + h)).toInt = 0 := by omega
            have gr0 : huGr D n ro b a4 h = if huDy D n ro b a4 h then Int32.ofInt D.2.1 else ro (60 + h) := by unfold huGr; rw [if_neg (by omega)]
            refine hpa_iload_n (by rfl) rfl ?_
            refine hpj_zeq (by rfl) rfl (fun q56 => ?_) (fun q56 => ?_)
            ·
              have bf : b = false := by cases b with | false => rfl | true => rw [if_pos rfl] at hb; exact absurd hb (by omega)
              have dy0 : huDy D n ro b a4 h = false := by unfold huDy; rw [bf, Bool.false_and]
              rw [dy0, if_neg (by decide)] at gr0
              refine hpa_aload_n (by rfl) rfl ?_
              refine hpa_iload (by rfl) rfl ?_
              refine hpa_iload (by rfl) rfl ?_
              refine hpa_call0 (by rfl) (by rfl) (by rfl) (by rfl) (by rfl) (by rfl) (uf_C (X := ug_x257) (j := 257) rfl rfl (ug_L.cons (uf_rk_ok (by decide +kernel)) (uf_int (uf_int uf_nil))) HA4 (hP23_33 (Int32.ofNat h) (Int32.ofNat 0) rfl (by omega))) ?_
              rintro _ A57 ⟨⟨rfl, CH_A57⟩, wA57, HA57⟩
              have UA57 := (UA4).trans (wA57.le (by decide +kernel : ug_wle ug_x257.2.2.2.1 uM26_33 = true))
              have had0 : A4.2.1 36 h = ro (40 + h) := (hLA4.2.2.2.2 h hh).1.2.2.trans old.2.1
              have wan0 : A4.2.1 34 h = ro h := (hLA4.2.2.2.2 h hh).1.1.trans (huRm_low h10 (by omega))
              have had1 := had0
              have wan1 := wan0
              have hLA57 : hdL 33 (huRm D n b a4 ro h) n A57 := hLA4.step hh (by rw [dy0, if_neg (by decide), CH_A57.1]) (fun k a1_ b1_ => by rw [CH_A57.1]) (CH_A57.2.1.trans p7) (by rw [CH_A57.2.2.1, p7, had1, wan1]) (by rw [CH_A57.2.2.2 39 h (by omega) (by omega), gr0, ← old.2.2]; exact (hLA4.2.2.2.2 h hh).2.2.2) (fun j x j1 j6 x10 hne => by rw [CH_A57.2.2.2 _ _ (by omega) (by omega)])
              refine hpj_iinc (by rfl) rfl ch hk_4294967295 (by omega) (by omega) (fun _ => rfl) (fun z58 ez58 => ?_)
              refine hpa_goto (by rfl) ?_
              exact ih15 z58 (.int (Int32.ofNat 0)) A57 h (by omega) (by omega) hLA57 UA57 HA57
            ·
              have bt : b = true := by cases b with | true => rfl | false => rw [if_neg (by decide)] at hb; exact absurd hb (by omega)
              refine hpa_iload (by rfl) rfl ?_
              refine hpa_bipush (by rfl) rfl ?_
              refine hpa_aload_n (by rfl) rfl ?_
              refine hpj_getK (by rfl) (by rfl) (by rfl) rfl ?_
              rw [show (A4.1 33 7) = ro 70 from hLA4.2.2.1.1.trans (huRm_low h10 (by omega))]
              refine hpa_imul (by rfl) ?_
              refine hpa_iload (by rfl) rfl ?_
              refine hpa_iadd (by rfl) ?_
              refine hpa_call2 (by rfl) (by decide) (by rfl) (by rfl) (by rfl) (uf_C (X := ug_x240) (j := 240) rfl rfl (uf_int (uf_int uf_nil)) HA4 (hP27 a4 (((Int32.ofNat 16) * (ro 70)) + (Int32.ofNat h)))) ?_
              rintro _ _ ⟨⟨rfl, z60, rfl, Z_A59⟩, -, -⟩
              subst Z_A59
              refine hpa_aload_n (by rfl) rfl ?_
              have hCA4 : hdK T D A4 := hC.uf hT UA4 (by decide +kernel)
              refine hpa_call0 (by rfl) (by rfl) (by rfl) (by rfl) (by rfl) (by rfl) (uf_C (X := ug_x192) (j := 192) rfl rfl (ug_L.cons (uf_rk_ok (by decide +kernel)) uf_nil) HA4 (hP4 hT hCA4 SSA4.1 HA4)) ?_
              rintro _ A61 ⟨⟨z62, rfl, Z_A61, VV_A61, FR_A61⟩, wA61, HA61⟩
              have UA61 := (UA4).trans (wA61.le (by decide +kernel : ug_wle ug_x192.2.2.2.1 uM26_33 = true))
              have hLA61 := hLA4.uf hLL_33 wA61 (by decide +kernel)
              subst Z_A61
              refine hpj_cge (by rfl) rfl rfl (fun q63 => ?_) (fun q63 => ?_)
              ·
                have dy0 : huDy D n ro b a4 h = false := by unfold huDy; rw [decide_eq_false (show ¬ (huLt a4 (Int32.ofNat 16 * ro 70 + Int32.ofNat h)).toInt < (huE D (huX (Int32.ofNat n) ro (Int32.ofNat h) (ro 70))).toInt from Int.not_lt.mpr q63), Bool.and_false, Bool.and_false]
                rw [dy0, if_neg (by decide)] at gr0
                refine hpa_aload_n (by rfl) rfl ?_
                refine hpa_iload (by rfl) rfl ?_
                refine hpa_iload (by rfl) rfl ?_
                refine hpa_call0 (by rfl) (by rfl) (by rfl) (by rfl) (by rfl) (by rfl) (uf_C (X := ug_x257) (j := 257) rfl rfl (ug_L.cons (uf_rk_ok (by decide +kernel)) (uf_int (uf_int uf_nil))) HA61 (hP23_33 (Int32.ofNat h) (Int32.ofNat 0) rfl (by omega))) ?_
                rintro _ A64 ⟨⟨rfl, CH_A64⟩, wA64, HA64⟩
                have UA64 := (UA61).trans (wA64.le (by decide +kernel : ug_wle ug_x257.2.2.2.1 uM26_33 = true))
                have had0 : A61.2.1 36 h = ro (40 + h) := (hLA61.2.2.2.2 h hh).1.2.2.trans old.2.1
                have wan0 : A61.2.1 34 h = ro h := (hLA61.2.2.2.2 h hh).1.1.trans (huRm_low h10 (by omega))
                have had1 := had0
                have wan1 := wan0
                have hLA64 : hdL 33 (huRm D n b a4 ro h) n A64 := hLA61.step hh (by rw [dy0, if_neg (by decide), CH_A64.1]) (fun k a1_ b1_ => by rw [CH_A64.1]) (CH_A64.2.1.trans p7) (by rw [CH_A64.2.2.1, p7, had1, wan1]) (by rw [CH_A64.2.2.2 39 h (by omega) (by omega), gr0, ← old.2.2]; exact (hLA61.2.2.2.2 h hh).2.2.2) (fun j x j1 j6 x10 hne => by rw [CH_A64.2.2.2 _ _ (by omega) (by omega)])
                refine hpj_iinc (by rfl) rfl ch hk_4294967295 (by omega) (by omega) (fun _ => rfl) (fun z65 ez65 => ?_)
                refine hpa_goto (by rfl) ?_
                exact ih15 z65 (.int (Int32.ofNat 0)) A64 h (by omega) (by omega) hLA64 UA64 HA64
              ·
                have dy0 : huDy D n ro b a4 h = true := by unfold huDy; rw [bt, decide_eq_true z60, decide_eq_true q63]; rfl
                rw [dy0, if_pos rfl] at gr0
                refine hpa_aload_n (by rfl) rfl ?_
                refine hpa_get (v := .ref 40) (by rfl) (by rfl) (by rfl) rfl ?_
                refine hpa_iload (by rfl) rfl ?_
                refine hpa_aload_n (by rfl) rfl ?_
                refine hpj_getK (by rfl) (hsT hT) (by rfl) rfl ?_
                have hCA61 : hdK T D A61 := hC.uf hT UA61 (by decide +kernel)
                have t6 : (A61.1 T 6) = Int32.ofInt D.2.1 := by obtain ⟨kw, V, ns, zz, k1, k2, kM, k3⟩ := hCA61; exact Int32.toInt_inj.mp (kM.2.2.1.2.1.trans (hs_ofInt hD2.1 hD2.2).symm)
                rw [t6]
                refine hpx_iast (by rfl) (by rfl) (fun A66 h0A66 h1A66 eA66 fA66 gA66 => ?_)
                have UA66 := (UA61).ar eA66 fA66 gA66 (by decide +kernel)
                have HA66 := (HA61).e (congrArg (fun q => q.2) gA66)
                rw [cih] at fA66
                refine hpa_aload_n (by rfl) rfl ?_
                refine hpa_dupR (by rfl) ?_
                refine hpj_getK (by rfl) (by rfl) (by rfl) rfl ?_
                refine hpa_iconst (by rfl) rfl ?_
                refine hpa_iadd (by rfl) ?_
                refine hpj_putI (by rfl) (by rfl) (by rfl) (by rfl) (fun A67 eA67 fA67 => ?_)
                have UA67 := (UA66).put eA67 fA67 (by decide +kernel)
                have HA67 := (HA66).e (congrArg (fun q => q.2.2) fA67)
                refine hpa_aload_n (by rfl) rfl ?_
                refine hpa_iload (by rfl) rfl ?_
                refine hpa_iload (by rfl) rfl ?_
                refine hpa_call0 (by rfl) (by rfl) (by rfl) (by rfl) (by rfl) (by rfl) (uf_C (X := ug_x257) (j := 257) rfl rfl (ug_L.cons (uf_rk_ok (by decide +kernel)) (uf_int (uf_int uf_nil))) HA67 (hP23_33 (Int32.ofNat h) (Int32.ofNat 0) rfl (by omega))) ?_
                rintro _ A68 ⟨⟨rfl, CH_A68⟩, wA68, HA68⟩
                have UA68 := (UA67).trans (wA68.le (by decide +kernel : ug_wle ug_x257.2.2.2.1 uM26_33 = true))
                have had0 : A61.2.1 36 h = ro (40 + h) := (hLA61.2.2.2.2 h hh).1.2.2.trans old.2.1
                have wan0 : A61.2.1 34 h = ro h := (hLA61.2.2.2.2 h hh).1.1.trans (huRm_low h10 (by omega))
                have had1 : A67.2.1 36 h = ro (40 + h) := by rw [fA67, fA66, hup2 (by omega)]; exact had0
                have wan1 : A67.2.1 34 h = ro h := by rw [fA67, fA66, hup2 (by omega)]; exact wan0
                have hLA68 : hdL 33 (huRm D n b a4 ro h) n A68 := hLA61.step hh (by rw [dy0, if_pos rfl, CH_A68.1, eA67, hup1, eA66]) (fun k a1_ b1_ => by rw [CH_A68.1, eA67, hup2 (by omega), eA66]) (CH_A68.2.1.trans p7) (by rw [CH_A68.2.2.1, p7, had1, wan1]) (by rw [CH_A68.2.2.2 39 h (by omega) (by omega), fA67, fA66, hup1, gr0]) (fun j x j1 j6 x10 hne => by rw [CH_A68.2.2.2 _ _ (by omega) (by omega), fA67, fA66, hup2 (by omega)])
                refine hpj_iinc (by rfl) rfl ch hk_4294967295 (by omega) (by omega) (fun _ => rfl) (fun z69 ez69 => ?_)
                refine hpa_goto (by rfl) ?_
                exact ih15 z69 (.int (Int32.ofNat 0)) A68 h (by omega) (by omega) hLA68 UA68 HA68
          ·
            have gr0 : huGr D n ro b a4 h = ro (60 + h) - Int32.ofNat 1 := by unfold huGr; rw [if_pos q55]
            have dy0 : huDy D n ro b a4 h = false := by unfold huDy; rw [decide_eq_false (by omega : ¬ (ro (60 + h)).toInt = 0), Bool.false_and, Bool.and_false]
            refine hpa_aload_n (by rfl) rfl ?_
            refine hpa_get (v := .ref 40) (by rfl) (by rfl) (by rfl) rfl ?_
            refine hpa_iload (by rfl) rfl ?_
            refine hpa_dup2IR (by rfl) ?_
            refine hpx_iald (by rfl) (by rfl) (fun h0v70 h1v70 v70 ev70 => ?_)
            rw [cih] at ev70
            have lv70 := ev70.symm.trans ((hLA4.2.2.2.2 h hh).2.2.2.trans old.2.2)
            clear ev70
            subst lv70
            refine hpa_iconst (by rfl) rfl ?_
            refine hpa_isub (by rfl) ?_
            refine hpx_iast (by rfl) (by rfl) (fun A71 h0A71 h1A71 eA71 fA71 gA71 => ?_)
            have UA71 := (UA4).ar eA71 fA71 gA71 (by decide +kernel)
            have HA71 := (HA4).e (congrArg (fun q => q.2) gA71)
            rw [cih] at fA71
            refine hpa_goto (by rfl) ?_
            refine hpa_aload_n (by rfl) rfl ?_
            refine hpa_iload (by rfl) rfl ?_
            refine hpa_iload (by rfl) rfl ?_
            refine hpa_call0 (by rfl) (by rfl) (by rfl) (by rfl) (by rfl) (by rfl) (uf_C (X := ug_x257) (j := 257) rfl rfl (ug_L.cons (uf_rk_ok (by decide +kernel)) (uf_int (uf_int uf_nil))) HA71 (hP23_33 (Int32.ofNat h) (Int32.ofNat 0) rfl (by omega))) ?_
            rintro _ A72 ⟨⟨rfl, CH_A72⟩, wA72, HA72⟩
            have UA72 := (UA71).trans (wA72.le (by decide +kernel : ug_wle ug_x257.2.2.2.1 uM26_33 = true))
            have had0 : A4.2.1 36 h = ro (40 + h) := (hLA4.2.2.2.2 h hh).1.2.2.trans old.2.1
            have wan0 : A4.2.1 34 h = ro h := (hLA4.2.2.2.2 h hh).1.1.trans (huRm_low h10 (by omega))
            have had1 : A71.2.1 36 h = ro (40 + h) := by rw [fA71, hup2 (by omega)]; exact had0
            have wan1 : A71.2.1 34 h = ro h := by rw [fA71, hup2 (by omega)]; exact wan0
            have hLA72 : hdL 33 (huRm D n b a4 ro h) n A72 := hLA4.step hh (by rw [dy0, if_neg (by decide), CH_A72.1, eA71]) (fun k a1_ b1_ => by rw [CH_A72.1, eA71]) (CH_A72.2.1.trans p7) (by rw [CH_A72.2.2.1, p7, had1, wan1]) (by rw [CH_A72.2.2.2 39 h (by omega) (by omega), fA71, hup1, gr0]) (fun j x j1 j6 x10 hne => by rw [CH_A72.2.2.2 _ _ (by omega) (by omega), fA71, hup2 (by omega)])
            refine hpj_iinc (by rfl) rfl ch hk_4294967295 (by omega) (by omega) (fun _ => rfl) (fun z73 ez73 => ?_)
            refine hpa_goto (by rfl) ?_
            exact ih15 z73 (.int (Int32.ofNat 0)) A72 h (by omega) (by omega) hLA72 UA72 HA72
  refine hpa_aload_n (by rfl) rfl ?_
  refine hpa_aload_n (by rfl) rfl ?_
  refine hpa_call0 (by rfl) (by rfl) (by rfl) (by rfl) (by rfl) (by rfl) (uf_C (X := ug_x183) (j := 183) rfl rfl (ug_L.cons (uf_rk_ok (by decide +kernel)) (ug_L.cons (by rcases hT with rfl | rfl <;> exact uf_rk_ok (by decide +kernel)) uf_nil)) hH0 (hP22_33 hT hC hL hO hD)) ?_
  rintro _ _ ⟨⟨rfl, z75, rfl, Z_A74, IN_A74⟩, -, -⟩
  subst Z_A74
  refine hpa_s1 (by rfl) (Or.inr ⟨_, rfl, rfl⟩) rfl ?_
  refine hpa_aload_n (by rfl) rfl ?_
  refine hpj_getK (by rfl) (by rfl) (by rfl) rfl ?_
  refine hpa_iconst (by rfl) rfl ?_
  refine hpj_isub (by rfl) hL.2.1 hk_1 (by omega) (by omega) (fun z76 ez76 => ?_)
  refine hpa_s1 (by rfl) (Or.inr ⟨_, rfl, rfl⟩) rfl ?_
  exact L15 _ z76 (.retAddr 0) A n (by omega) (by omega) (hL.mv (fun _ _ _ => rfl) (fun _ _ _ _ _ => rfl) (huRm_n h10)) U0 hH0
theorem hP26_33 {g d : Nat} {A : hs_A} {T : Nat} {D : hg_D} {ro : Nat → Int32} {n : Nat} {b : Bool} (a3 a4 : Int32) (hT : hTT T) (hC : hdK T D A) (hL : hdL 33 ro n A) (hO : huO ro n) (hD : ∀ t, t < 24 → 0 ≤ D.1 t ∧ D.1 t ≤ 255) (hD2 : 0 ≤ D.2.1 ∧ D.2.1 ≤ 10000) (hb : a3.toInt = if b then 1 else 0) (hTn : (A.1 T 4).toInt = (n : Int)) (hH0 : uf_H A) : hpC g d 26 hm_m26 [.ref 34, .ref (T + 1), .ref 324, .int a3, .int a4] A (fun r A' => r = none ∧ (hdL 33 (huR D n b a4 ro) n A')) := hpC.all (fun f d => hW26_33 a3 a4 hT hC hL hO hD hD2 hb hTn hH0 (fun r A' h => h))
/-! AN HOUR IN THE REFERENCE: the row when the houses below k are done -/
def huRa (D : hg_D) (n : Nat) (b : Bool) (s : Int32) (ro : Nat → Int32) (k : Nat) : Nat → Int32 := fun j =>
  if 30 ≤ j ∧ j < 30 + k then huHd D n ro (j - 30)
  else if 40 ≤ j ∧ j < 40 + k then ro j ||| (huHd D n ro (j - 40) &&& ro (j - 40))
  else if 60 ≤ j ∧ j < 60 + k then huGr D n ro b s (j - 60)
  else if j = 72 then ro 72 + Int32.ofNat (huCt (huDy D n ro b s) k)
  else ro j
/-- k hours -/
def huY (D : hg_D) (n : Nat) (b : Bool) (s : Int32) : Nat → (Nat → Int32) → (Nat → Int32)
  | 0, ro => ro
  | k + 1, ro => huR D n b s (huY D n b s k ro)
section HUR
variable {D : hg_D} {n k h : Nat} {b : Bool} {s : Int32} {ro : Nat → Int32}
theorem hu_a0 {a : Int32} : a + Int32.ofNat 0 = a := by
  apply Int32.toBitVec_inj.mp
  show a.toBitVec + 0#32 = a.toBitVec
  exact BitVec.add_zero _
theorem huRa_0 : ∀ j, j < 73 → huRa D n b s ro 0 j = ro j := fun j hj => by
  unfold huRa
  rw [if_neg (by omega), if_neg (by omega), if_neg (by omega)]
  split
  next q => rw [q]; exact hu_a0
  · rfl
theorem huRa_at (hk : k ≤ 9) {j : Nat} (hj : j < 30 ∨ j = 30 + k ∨ j = 40 + k ∨ j = 60 + k ∨ 50 ≤ j ∧ j < 60 ∨ j = 70 ∨ j = 71) : huRa D n b s ro k j = ro j := by
  unfold huRa
  rw [if_neg (by omega), if_neg (by omega), if_neg (by omega), if_neg (by omega)]
theorem huRa_72 (hk : k ≤ 10) : huRa D n b s ro k 72 = ro 72 + Int32.ofNat (huCt (huDy D n ro b s) k) := by
  unfold huRa
  rw [if_neg (by omega), if_neg (by omega), if_neg (by omega), if_pos rfl]
theorem huRa.step {a a' : Nat → Int32} (w : ∀ j, j < 73 → a j = huRa D n b s ro k j) (hk : k ≤ 9) (f30 : a' (30 + k) = huHd D n ro k) (f40 : a' (40 + k) = ro (40 + k) ||| (huHd D n ro k &&& ro k)) (f60 : a' (60 + k) = huGr D n ro b s k) (f72 : a' 72 = if huDy D n ro b s k then a 72 + Int32.ofNat 1 else a 72) (o : ∀ j, j < 73 → ¬ j = 30 + k → ¬ j = 40 + k → ¬ j = 60 + k → ¬ j = 72 → a' j = a j) : ∀ j, j < 73 → a' j = huRa D n b s ro (k + 1) j := fun j hj => by
  by_cases q1 : j = 30 + k
  · subst q1
    rw [f30]
    unfold huRa
    rw [if_pos (by omega), show 30 + k - 30 = k by omega]
  · by_cases q2 : j = 40 + k
    · subst q2
      rw [f40]
      unfold huRa
      rw [if_neg (by omega), if_pos (by omega), show 40 + k - 40 = k by omega]
    · by_cases q3 : j = 60 + k
      · subst q3
        rw [f60]
        unfold huRa
        rw [if_neg (by omega), if_neg (by omega), if_pos (by omega), show 60 + k - 60 = k by omega]
      · by_cases q4 : j = 72
        · subst q4
          rw [f72, w 72 (by omega), huRa_72 (by omega), huRa_72 (by omega)]
          have e : huCt (huDy D n ro b s) (k + 1) = huCt (huDy D n ro b s) k + (if huDy D n ro b s k then 1 else 0) := rfl
          rw [e]
          cases huDy D n ro b s k with
          | false => rw [if_neg (by decide), if_neg (by decide)]; rfl
          | true =>
            rw [if_pos rfl, if_pos rfl, Int32.ofNat_add]
            apply Int32.toBitVec_inj.mp
            show _ + BitVec.ofNat 32 _ + 1#32 = _ + (BitVec.ofNat 32 _ + 1#32)
            exact BitVec.add_assoc _ _ _
        · rw [o j hj q1 q2 q3 q4, w j hj]
          unfold huRa
          by_cases c1 : 30 ≤ j ∧ j < 30 + k
          · rw [if_pos c1, if_pos (by omega)]
          · rw [if_neg c1]
            by_cases c2 : 40 ≤ j ∧ j < 40 + k
            · rw [if_pos c2, if_neg (by omega : ¬ (30 ≤ j ∧ j < 30 + (k + 1))), if_pos (by omega)]
            · rw [if_neg c2]
              by_cases c3 : 60 ≤ j ∧ j < 60 + k
              · rw [if_pos c3, if_neg (by omega : ¬ (30 ≤ j ∧ j < 30 + (k + 1))), if_neg (by omega : ¬ (40 ≤ j ∧ j < 40 + (k + 1))), if_pos (by omega)]
              · rw [if_neg c3, if_neg q4, if_neg (by omega : ¬ (30 ≤ j ∧ j < 30 + (k + 1))), if_neg (by omega : ¬ (40 ≤ j ∧ j < 40 + (k + 1))), if_neg (by omega : ¬ (60 ≤ j ∧ j < 60 + (k + 1))), if_neg q4]
theorem huRa.over {a a' : Nat → Int32} (w : ∀ j, j < 73 → a j = huRa D n b s ro n j) (h9 : n ≤ 10) (f70 : a' 70 = ro 70 + Int32.ofNat 1) (f71 : a' 71 = Int32.ofNat 4294967295) (o : ∀ j, j < 73 → ¬ j = 70 → ¬ j = 71 → a' j = a j) : ∀ j, j < 73 → a' j = huR D n b s ro j := fun j hj => by
  by_cases q0 : j = 70
  · rw [q0, f70]
    exact (huR_70 h9).1.symm
  · by_cases q1 : j = 71
    · rw [q1, f71]
      exact (huR_70 h9).2.1.symm
    · rw [o j hj q0 q1, w j hj]
      unfold huRa huR
      by_cases c1 : 30 ≤ j ∧ j < 30 + n
      · rw [if_pos c1, if_pos c1]
      · rw [if_neg c1, if_neg c1]
        by_cases c2 : 40 ≤ j ∧ j < 40 + n
        · rw [if_pos c2, if_pos c2]
        · rw [if_neg c2, if_neg c2]
          by_cases c3 : 60 ≤ j ∧ j < 60 + n
          · rw [if_pos c3, if_pos c3]
          · rw [if_neg c3, if_neg c3, if_neg q0, if_neg q1]
theorem huO.R (hO : huO ro n) (h9 : n ≤ 10) (hb : (ro 70).toInt ≤ 2000000) (hD : ∀ t, t < 24 → 0 ≤ D.1 t ∧ D.1 t ≤ 255) (hD2 : 0 ≤ D.2.1 ∧ D.2.1 ≤ 10000) : huO (huR D n b s ro) n ∧ (huR D n b s ro 70).toInt = (ro 70).toInt + 1 := by
  have m := hO.mix (b := b) (s := s) (k := 0) h9 hD hD2
  obtain ⟨r0, r1, r2⟩ := huR_70 (D := D) (b := b) (s := s) (ro := ro) h9
  have o2 := hO.2.1
  have e := hn_add (z := ro 70 + Int32.ofNat 1) rfl (by rw [hk_1]; omega) (by rw [hk_1]; omega)
  rw [hk_1] at e
  refine ⟨⟨fun h hn => ?_, by rw [r0]; omega, by rw [r1]; exact Or.inl hk_4294967295⟩, by rw [r0]; exact e⟩
  rw [huRm_0 h9 h (by omega), huRm_0 h9 (40 + h) (by omega), huRm_0 h9 (30 + h) (by omega), huRm_0 h9 (60 + h) (by omega)]
  exact m.1 h hn
theorem huO.I (hO : huO ro n) (h9 : n ≤ 10) (hD : ∀ t, t < 24 → 0 ≤ D.1 t ∧ D.1 t ≤ 255) (hD2 : 0 ≤ D.2.1 ∧ D.2.1 ≤ 10000) : ∀ m : Nat, (ro 70).toInt + (m : Int) ≤ 2000000 → huO (huY D n b s m ro) n ∧ (huY D n b s m ro 70).toInt = (ro 70).toInt + (m : Int)
  | 0, _ => ⟨hO, by show (ro 70).toInt = _; omega⟩
  | m + 1, hb => by
    have q := huO.I hO h9 hD hD2 m (by omega)
    have r := q.1.R (b := b) (s := s) h9 (by omega) hD hD2
    refine ⟨r.1, ?_⟩
    show (huR D n b s (huY D n b s m ro) 70).toInt = _
    omega
end HUR
/-- the same row at all places that there are gives the same hour -/
theorem hu_c {h : Nat} (hh : h < 10) : (Int32.ofNat h).toNatClampNeg = h := by
  have e := hn_c (n := h) (z := Int32.ofNat h) rfl (by omega)
  have c := hn_cn (j := Int32.ofNat h) (by omega)
  omega
section HURC
variable {D : hg_D} {n : Nat} {b : Bool} {s : Int32} {r1 r2 : Nat → Int32}
theorem huX_cg {h : Nat} (hh : h < 10) (e : ∀ j, j < 73 → r1 j = r2 j) : huX (Int32.ofNat n) r1 (Int32.ofNat h) (r1 70) = huX (Int32.ofNat n) r2 (Int32.ofNat h) (r2 70) := by
  unfold huX
  rw [hu_c hh, e h (by omega), e (10 + h) (by omega), e (40 + h) (by omega), e 70 (by omega)]
theorem huN_cg (e : ∀ j, j < 73 → r1 j = r2 j) : huN D r1 = huN D r2 := by
  unfold huN
  rw [e 70 (by omega), e 71 (by omega)]
theorem huH_cg {h : Nat} (hh : h < 10) (e : ∀ j, j < 73 → r1 j = r2 j) : huH r1 h = huH r2 h := by
  unfold huH
  rw [e (50 + h) (by omega), e (60 + h) (by omega)]
theorem huHd_cg {h : Nat} (hh : h < 10) (e : ∀ j, j < 73 → r1 j = r2 j) : huHd D n r1 h = huHd D n r2 h := by
  unfold huHd
  rw [huH_cg hh e, huN_cg e, huX_cg hh e, e (29 + h) (by omega)]
theorem huDy_cg {h : Nat} (hh : h < 10) (e : ∀ j, j < 73 → r1 j = r2 j) : huDy D n r1 b s h = huDy D n r2 b s h := by
  unfold huDy
  rw [huX_cg hh e, e (60 + h) (by omega), e 70 (by omega)]
theorem huGr_cg {h : Nat} (hh : h < 10) (e : ∀ j, j < 73 → r1 j = r2 j) : huGr D n r1 b s h = huGr D n r2 b s h := by
  unfold huGr
  rw [e (60 + h) (by omega), huDy_cg hh e]
theorem huCt_cg {f g : Nat → Bool} : ∀ k : Nat, (∀ h, h < k → f h = g h) → huCt f k = huCt g k
  | 0, _ => rfl
  | k + 1, e => by
    show huCt f k + (if f k then 1 else 0) = huCt g k + (if g k then 1 else 0)
    rw [huCt_cg k (fun h hh => e h (by omega)), e k (by omega)]
theorem huR_cg (h9 : n ≤ 10) (e : ∀ j, j < 73 → r1 j = r2 j) : ∀ j, j < 73 → huR D n b s r1 j = huR D n b s r2 j := by
  have cc : huCt (huDy D n r1 b s) n = huCt (huDy D n r2 b s) n := huCt_cg n (fun h hh => huDy_cg (by omega) e)
  intro j hj
  unfold huR
  rw [e j hj, e 70 (by omega), e 72 (by omega), cc]
  by_cases c1 : 30 ≤ j ∧ j < 30 + n
  · rw [if_pos c1, if_pos c1, huHd_cg (by omega) e]
  · rw [if_neg c1, if_neg c1]
    by_cases c2 : 40 ≤ j ∧ j < 40 + n
    · rw [if_pos c2, if_pos c2, huHd_cg (by omega) e, e (j - 40) (by omega)]
    · rw [if_neg c2, if_neg c2]
      by_cases c3 : 60 ≤ j ∧ j < 60 + n
      · rw [if_pos c3, if_pos c3, huGr_cg (by omega) e]
      · rw [if_neg c3, if_neg c3]
end HURC
