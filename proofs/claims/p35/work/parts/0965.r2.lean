theorem hW159d {g d f : Nat} {A : hs_A} (a1 a2 : Int32) {P : Option Value → hs_A → Prop} (hP : ∀ (r : Option Value) (A' : hs_A), (r = none ∧ (hmW A A')) → P r A') : hpa (f, g) d none hm_t159 0 [.ref 368, .int a1, .int a2] [] A P := by
  have k1 := hk_1
  refine hpa_aload_n (by rfl) rfl ?_
  refine hpa_get (v := .ref 391) (by rfl) (by rfl) (by rfl) rfl ?_
  refine hpa_aload_n (by rfl) rfl ?_
  refine hpj_getK (by rfl) (by rfl) (by rfl) rfl ?_
  refine hpa_iload_n (by rfl) rfl ?_
  refine hpx_iast (by rfl) (by rfl) (fun A1 h0A1 h1A1 eA1 fA1 gA1 => ?_)
  have VA1 := (hmW.rfl (A := A)).a eA1 fA1 gA1 (by omega)
  refine hpa_aload_n (by rfl) rfl ?_
  refine hpa_get (v := .ref 392) (by rfl) (by rfl) (by rfl) rfl ?_
  refine hpa_aload_n (by rfl) rfl ?_
  refine hpj_getK (by rfl) (by rfl) (by rfl) (hkA eA1 rfl) ?_
  refine hpa_iload_n (by rfl) rfl ?_
  refine hpx_iast (by rfl) (by rfl) (fun A2 h0A2 h1A2 eA2 fA2 gA2 => ?_)
  have VA2 := (VA1).a eA2 fA2 gA2 (by omega)
  refine hpa_aload_n (by rfl) rfl ?_
  refine hpa_dupR (by rfl) ?_
  refine hpj_getK (by rfl) (by rfl) (by rfl) (hkA eA2 (hkA eA1 rfl)) ?_
  refine hpa_iconst (by rfl) rfl ?_
  refine hpj_iaddU (by rfl) (fun z3 => ?_)
  refine hpj_putI (by rfl) (by rfl) (by rfl) (by rfl) (fun A4 eA4 fA4 => ?_)
  have VA4 := (VA2).f (k := 37) eA4 fA4 (by omega)
  exact hpa_return (by rfl) rfl (hP _ _ ⟨rfl, VA4⟩)
theorem hP159d {g d : Nat} {A : hs_A} (a1 a2 : Int32) : hpC g d 159 hm_m159 [.ref 368, .int a1, .int a2] A (fun r A' => r = none ∧ (hmW A A')) := hpC.all (fun f d => hW159d a1 a2 (fun r A' h => h))
theorem hW159 {g d f : Nat} {A : hs_A} {z k : Nat} {v : Int} (a1 a2 : Int32) (hz : (A.1 367 37).toInt = (z : Int)) (h1 : a1.toInt = (k : Int)) (h2 : a2.toInt = v) {P : Option Value → hs_A → Prop} (hP : ∀ (r : Option Value) (A' : hs_A), (r = none ∧ (hmE1 A A' z k v)) → P r A') : hpa (f, g) d none hm_t159 0 [.ref 368, .int a1, .int a2] [] A P := by
  have k1 := hk_1
  have hzi : (A.1 367 37).toNatClampNeg = z := by have := hn_cn (j := A.1 367 37) (by omega); omega
  refine hpa_aload_n (by rfl) rfl ?_
  refine hpa_get (v := .ref 391) (by rfl) (by rfl) (by rfl) rfl ?_
  refine hpa_aload_n (by rfl) rfl ?_
  refine hpj_getK (by rfl) (by rfl) (by rfl) rfl ?_
  refine hpa_iload_n (by rfl) rfl ?_
  refine hpx_iast (by rfl) (by rfl) (fun A1 h0A1 h1A1 eA1 fA1 gA1 => ?_)
  rw [hzi] at fA1
  refine hpa_aload_n (by rfl) rfl ?_
  refine hpa_get (v := .ref 392) (by rfl) (by rfl) (by rfl) rfl ?_
  refine hpa_aload_n (by rfl) rfl ?_
  refine hpj_getK (by rfl) (by rfl) (by rfl) (hkA eA1 rfl) ?_
  refine hpa_iload_n (by rfl) rfl ?_
  refine hpx_iast (by rfl) (by rfl) (fun A2 h0A2 h1A2 eA2 fA2 gA2 => ?_)
  rw [hzi] at fA2
  refine hpa_aload_n (by rfl) rfl ?_
  refine hpa_dupR (by rfl) ?_
  refine hpj_getK (by rfl) (by rfl) (by rfl) (hkA eA2 (hkA eA1 rfl)) ?_
  refine hpa_iconst (by rfl) rfl ?_
  refine hpj_iadd (by rfl) rfl hk_1 (by omega) (by omega) (fun z3 ez3 => ?_)
  refine hpj_putI (by rfl) (by rfl) (by rfl) (by rfl) (fun A4 eA4 fA4 => ?_)
  exact hpa_return (by rfl) rfl (hP _ _ ⟨rfl, _, _, _, by rw [eA4, eA2, eA1], by omega, by rw [fA4, fA2, fA1], by rw [fA4, gA2, gA1], h1, h2⟩)
theorem hP159 {g d : Nat} {A : hs_A} {z k : Nat} {v : Int} (a1 a2 : Int32) (hz : (A.1 367 37).toInt = (z : Int)) (h1 : a1.toInt = (k : Int)) (h2 : a2.toInt = v) : hpC g d 159 hm_m159 [.ref 368, .int a1, .int a2] A (fun r A' => r = none ∧ (hmE1 A A' z k v)) := hpC.all (fun f d => hW159 a1 a2 hz h1 h2 (fun r A' h => h))
theorem hW160d {g d f : Nat} {A : hs_A} (a1 : Int32) {P : Option Value → hs_A → Prop} (hP : ∀ (r : Option Value) (A' : hs_A), (r = none ∧ (hmW A A')) → P r A') : hpa (f, g) d none hm_t160 0 [.ref 368, .int a1, .retAddr 0] [] A P := by
  have k0 := hk_0
  have k1 := hk_1
  have k10 := hk_10
  have k2 := hk_2
  have k3 := hk_3
  have k4 := hk_4
  have k5 := hk_5
  have k6 := hk_6
  have k8 := hk_8
  have k9 := hk_9
  have L0 : ∀ (f : Nat) (x0_2 : Value) (A0 : hs_A) (W0 : hmW A A0), hpa (f, g) d none hm_t160 0 [.ref 368, .int a1, x0_2] [] A0 P := by
    intro f
    induction f with
    | zero => intros; exact hpa.zero
    | succ f ih0 =>
      intro x0_2 A0 W0
      refine hpa_aload_nS (by rfl) rfl ?_
      refine hpj_getK (by rfl) (by rfl) (by rfl) rfl ?_
      refine hpj_zle (by rfl) rfl (fun q1 => ?_) (fun q1 => ?_)
      ·
        exact hpa_return (by rfl) rfl (hP _ _ ⟨rfl, W0⟩)
      ·
        refine hpa_aload_n (by rfl) rfl ?_
        refine hpa_get (v := .ref 393) (by rfl) (by rfl) (by rfl) rfl ?_
        refine hpa_aload_n (by rfl) rfl ?_
        refine hpj_getK (by rfl) (by rfl) (by rfl) rfl ?_
        refine hpa_iconst (by rfl) rfl ?_
        refine hpj_isubU (by rfl) (fun z2 => ?_)
        refine hpx_iald (by rfl) (by rfl) (fun h0v3 h1v3 v3 ev3 => ?_)
        refine hpa_s1 (by rfl) (Or.inl ⟨_, rfl, rfl⟩) rfl ?_
        refine hpa_iload_n (by rfl) rfl ?_
        refine hpa_bipush (by rfl) rfl ?_
        refine hpj_ceq (by rfl) rfl hk_6 (fun q4 => ?_) (fun q4 => ?_)
        ·
          exact hpa_return (by rfl) rfl (hP _ _ ⟨rfl, W0⟩)
        ·
          refine hpa_iload_n (by rfl) rfl ?_
          refine hpj_zeq (by rfl) rfl (fun q5 => ?_) (fun q5 => ?_)
          ·
            refine hpa_aload_n (by rfl) rfl ?_
            refine hpa_dupR (by rfl) ?_
            refine hpj_getK (by rfl) (by rfl) (by rfl) rfl ?_
            refine hpa_iconst (by rfl) rfl ?_
            refine hpj_isubU (by rfl) (fun z6 => ?_)
            refine hpj_putI (by rfl) (by rfl) (by rfl) (by rfl) (fun A7 eA7 fA7 => ?_)
            have VA7 := (W0).f (k := 41) eA7 fA7 (by omega)
            refine hpa_aload_n (by rfl) rfl ?_
            refine hpa_iload_n (by rfl) rfl ?_
            refine hpa_bipush (by rfl) rfl ?_
            refine hpj_cne (by rfl) rfl hk_8 (fun q8 => ?_) (fun q8 => ?_)
            ·
              refine hpa_iload_n (by rfl) rfl ?_
              refine hpa_bipush (by rfl) rfl ?_
              refine hpj_cne (by rfl) rfl hk_9 (fun q9 => ?_) (fun q9 => ?_)
              ·
                refine hpa_iload_n (by rfl) rfl ?_
                refine hpa_bipush (by rfl) rfl ?_
                refine hpj_cne (by rfl) rfl hk_10 (fun q10 => ?_) (fun q10 => ?_)
                ·
                  refine hpa_iconst (by rfl) rfl ?_
                  refine hpa_iconst (by rfl) rfl ?_
                  refine hpa_call0 (by rfl) (by rfl) (by rfl) (by rfl) (by rfl) (by rfl) (hP159d (Int32.ofNat 5) (Int32.ofNat 0)) ?_
                  rintro _ A11 ⟨rfl, W_A11⟩
                  refine hpa_goto (by rfl) ?_
                  exact ih0 (.int v3) A11 (VA7.trans W_A11)
                ·
                  refine hpa_iconst (by rfl) rfl ?_
                  refine hpa_goto (by rfl) ?_
                  refine hpa_iconst (by rfl) rfl ?_
                  refine hpa_call0 (by rfl) (by rfl) (by rfl) (by rfl) (by rfl) (by rfl) (hP159d (Int32.ofNat 4) (Int32.ofNat 0)) ?_
                  rintro _ A12 ⟨rfl, W_A12⟩
                  refine hpa_goto (by rfl) ?_
                  exact ih0 (.int v3) A12 (VA7.trans W_A12)
              ·
                refine hpa_iconst (by rfl) rfl ?_
                refine hpa_goto (by rfl) ?_
                refine hpa_iconst (by rfl) rfl ?_
                refine hpa_call0 (by rfl) (by rfl) (by rfl) (by rfl) (by rfl) (by rfl) (hP159d (Int32.ofNat 3) (Int32.ofNat 0)) ?_
                rintro _ A13 ⟨rfl, W_A13⟩
                refine hpa_goto (by rfl) ?_
                exact ih0 (.int v3) A13 (VA7.trans W_A13)
            ·
              refine hpa_iconst (by rfl) rfl ?_
              refine hpa_goto (by rfl) ?_
              refine hpa_iconst (by rfl) rfl ?_
              refine hpa_call0 (by rfl) (by rfl) (by rfl) (by rfl) (by rfl) (by rfl) (hP159d (Int32.ofNat 2) (Int32.ofNat 0)) ?_
              rintro _ A14 ⟨rfl, W_A14⟩
              refine hpa_goto (by rfl) ?_
              exact ih0 (.int v3) A14 (VA7.trans W_A14)
          ·
            refine hpa_iload_n (by rfl) rfl ?_
            refine hpa_bipush (by rfl) rfl ?_
            refine hpj_ceq (by rfl) rfl hk_8 (fun q15 => ?_) (fun q15 => ?_)
            ·
              exact hpa_return (by rfl) rfl (hP _ _ ⟨rfl, W0⟩)
            ·
              refine hpa_iload_n (by rfl) rfl ?_
              refine hpa_bipush (by rfl) rfl ?_
              refine hpj_cne (by rfl) rfl hk_9 (fun q16 => ?_) (fun q16 => ?_)
              ·
                refine hpa_aload_n (by rfl) rfl ?_
                refine hpa_dupR (by rfl) ?_
                refine hpj_getK (by rfl) (by rfl) (by rfl) rfl ?_
                refine hpa_iconst (by rfl) rfl ?_
                refine hpj_isubU (by rfl) (fun z17 => ?_)
                refine hpj_putI (by rfl) (by rfl) (by rfl) (by rfl) (fun A18 eA18 fA18 => ?_)
                have VA18 := (W0).f (k := 41) eA18 fA18 (by omega)
                refine hpa_aload_n (by rfl) rfl ?_
                refine hpa_iload_n (by rfl) rfl ?_
                refine hpa_bipush (by rfl) rfl ?_
                refine hpj_cne (by rfl) rfl hk_8 (fun q19 => ?_) (fun q19 => ?_)
                ·
                  refine hpa_iload_n (by rfl) rfl ?_
                  refine hpa_bipush (by rfl) rfl ?_
                  refine hpj_cne (by rfl) rfl hk_9 (fun q20 => ?_) (fun q20 => ?_)
                  ·
                    refine hpa_iload_n (by rfl) rfl ?_
                    refine hpa_bipush (by rfl) rfl ?_
                    refine hpj_cne (by rfl) rfl hk_10 (fun q21 => ?_) (fun q21 => ?_)
                    ·
                      refine hpa_iconst (by rfl) rfl ?_
                      refine hpa_iconst (by rfl) rfl ?_
                      refine hpa_call0 (by rfl) (by rfl) (by rfl) (by rfl) (by rfl) (by rfl) (hP159d (Int32.ofNat 5) (Int32.ofNat 0)) ?_
                      rintro _ A22 ⟨rfl, W_A22⟩
                      refine hpa_goto (by rfl) ?_
                      exact ih0 (.int v3) A22 (VA18.trans W_A22)
                    ·
                      refine hpa_iconst (by rfl) rfl ?_
                      refine hpa_goto (by rfl) ?_
                      refine hpa_iconst (by rfl) rfl ?_
                      refine hpa_call0 (by rfl) (by rfl) (by rfl) (by rfl) (by rfl) (by rfl) (hP159d (Int32.ofNat 4) (Int32.ofNat 0)) ?_
                      rintro _ A23 ⟨rfl, W_A23⟩
                      refine hpa_goto (by rfl) ?_
                      exact ih0 (.int v3) A23 (VA18.trans W_A23)
                  ·
                    refine hpa_iconst (by rfl) rfl ?_
                    refine hpa_goto (by rfl) ?_
                    refine hpa_iconst (by rfl) rfl ?_
                    refine hpa_call0 (by rfl) (by rfl) (by rfl) (by rfl) (by rfl) (by rfl) (hP159d (Int32.ofNat 3) (Int32.ofNat 0)) ?_
                    rintro _ A24 ⟨rfl, W_A24⟩
                    refine hpa_goto (by rfl) ?_
                    exact ih0 (.int v3) A24 (VA18.trans W_A24)
                ·
                  refine hpa_iconst (by rfl) rfl ?_
                  refine hpa_goto (by rfl) ?_
                  refine hpa_iconst (by rfl) rfl ?_
                  refine hpa_call0 (by rfl) (by rfl) (by rfl) (by rfl) (by rfl) (by rfl) (hP159d (Int32.ofNat 2) (Int32.ofNat 0)) ?_
                  rintro _ A25 ⟨rfl, W_A25⟩
                  refine hpa_goto (by rfl) ?_
                  exact ih0 (.int v3) A25 (VA18.trans W_A25)
              ·
                exact hpa_return (by rfl) rfl (hP _ _ ⟨rfl, W0⟩)
  exact L0 _ (.retAddr 0) A hmW.rfl
theorem hP160d {g d : Nat} {A : hs_A} (a1 : Int32) : hpC g d 160 hm_m160 [.ref 368, .int a1] A (fun r A' => r = none ∧ (hmW A A')) := hpC.all (fun f d => hW160d a1 (fun r A' h => h))
theorem hi32r (x : Int32) : -2147483648 ≤ x.toInt ∧ x.toInt ≤ 2147483647 := by
  have h1 := Int32.le_toInt x
  have h2 := Int32.toInt_lt x
  omega
theorem hmcons {w : List Nat} {n : Int} (h : n = (w.length : Int)) (hn : 0 < n) : ∃ x r, w = x :: r := by
  cases w with
  | nil => exact absurd hn (by rw [h]; exact Int.lt_irrefl 0)
  | cons x r => exact ⟨x, r, rfl⟩
theorem hmnil {w : List Nat} {n : Int} (h : n = (w.length : Int)) (hn : n ≤ 0) : w = [] := by
  cases w with
  | nil => rfl
  | cons x r =>
    have : ((x :: r).length : Int) = (r.length : Int) + 1 := rfl
    exact absurd hn (by omega)
theorem hW160 {g d f : Nat} {A : hs_A} {z0 : Nat} {o o1 : hg_C} {w w1 : List Nat} {st : Bool} (a1 : Int32) (hX : hmX A z0 o w) (hfl : hg_fl st o w = (o1, w1)) (hs : (a1.toInt = 1 ∧ st = true) ∨ (a1.toInt = 0 ∧ st = false)) {P : Option Value → hs_A → Prop} (hP : ∀ (r : Option Value) (A' : hs_A), (r = none ∧ (hmW A A' ∧ hmX A' z0 o1 w1 ∧ hmFr z0 A A')) → P r A') : hpa (f, g) d none hm_t160 0 [.ref 368, .int a1, .retAddr 0] [] A P := by
  have k0 := hk_0
  have k1 := hk_1
  have k10 := hk_10
  have k2 := hk_2
  have k3 := hk_3
  have k4 := hk_4
  have k5 := hk_5
  have k6 := hk_6
  have k8 := hk_8
  have k9 := hk_9
  have L0 : ∀ (f : Nat) (x0_2 : Value) (A0 : hs_A) (o2 : hg_C) (w2 : List Nat) (W0 : hmW A A0) (X0 : hmX A0 z0 o2 w2) (F0 : hmFr z0 A A0) (E0 : hg_fl st o2 w2 = (o1, w1)), hpa (f, g) d none hm_t160 0 [.ref 368, .int a1, x0_2] [] A0 P := by
    intro f
    induction f with
    | zero => intros; exact hpa.zero
    | succ f ih0 =>
      intro x0_2 A0 o2 w2 W0 X0 F0 E0
      rcases hs with ⟨hs1, rfl⟩ | ⟨hs1, rfl⟩
      ·
        refine hpa_aload_nS (by rfl) rfl ?_
        refine hpj_getK (by rfl) (by rfl) (by rfl) rfl ?_
        refine hpj_zle (by rfl) rfl (fun q1 => ?_) (fun q1 => ?_)
        ·
          have hw2 := hmnil X0.2.2.1 (by omega)
          subst hw2
          obtain ⟨rfl, rfl⟩ := Prod.mk.inj (show (o2, ([] : List Nat)) = (o1, w1) from E0)
          exact hpa_return (by rfl) rfl (hP _ _ ⟨rfl, W0, X0, F0⟩)
        ·
          obtain ⟨x2, r2, rfl⟩ := hmcons X0.2.2.1 (by omega)
          have hl2 : (x2 :: r2).length = r2.length + 1 := rfl
          have hw2 := X0.2.2.1
          have hb41 := hi32r (A0.1 367 41)
          refine hpa_aload_n (by rfl) rfl ?_
          refine hpa_get (v := .ref 393) (by rfl) (by rfl) (by rfl) rfl ?_
          refine hpa_aload_n (by rfl) rfl ?_
          refine hpj_getK (by rfl) (by rfl) (by rfl) rfl ?_
          refine hpa_iconst (by rfl) rfl ?_
          refine hpj_isub (by rfl) rfl hk_1 (by omega) (by omega) (fun z2 ez2 => ?_)
          refine hpx_iald (by rfl) (by rfl) (fun h0v3 h1v3 v3 ev3 => ?_)
          have hx17 := X0.2.2.2.1
          rw [show r2.length = (z2).toNatClampNeg by have := hn_cn (j := z2) (by omega); omega, ev3] at hx17
          obtain ⟨hk17, hx17⟩ := hx17
          have hx5 : x2 = 31 ∨ x2 = 26 ∨ x2 = 27 ∨ x2 = 28 ∨ x2 = 29 := by omega
          rcases hx5 with rfl | rfl | rfl | rfl | rfl
          ·
            have hv17 : v3.toInt = 6 := by unfold hmK at hk17; omega
            refine hpa_s1 (by rfl) (Or.inl ⟨_, rfl, rfl⟩) rfl ?_
            refine hpa_iload_n (by rfl) rfl ?_
            refine hpa_bipush (by rfl) rfl ?_
            refine hpj_ceq (by rfl) rfl hk_6 (fun q4 => ?_) (fun q4 => False.elim (by omega))
            obtain ⟨rfl, rfl⟩ := Prod.mk.inj ((hg_fl_stop (o := o2) (x := 31) (w := r2) (st := true) (Or.inl rfl)).symm.trans E0)
            exact hpa_return (by rfl) rfl (hP _ _ ⟨rfl, W0, X0, F0⟩)
          ·
            have hv17 : v3.toInt = 8 := by unfold hmK at hk17; omega
            refine hpa_s1 (by rfl) (Or.inl ⟨_, rfl, rfl⟩) rfl ?_
            refine hpa_iload_n (by rfl) rfl ?_
            refine hpa_bipush (by rfl) rfl ?_
            refine hpj_ceq (by rfl) rfl hk_6 (fun q5 => False.elim (by omega)) (fun q5 => ?_)
            refine hpa_iload_n (by rfl) rfl ?_
            refine hpj_zeq (by rfl) rfl (fun q6 => False.elim (by omega)) (fun q6 => ?_)
            refine hpa_iload_n (by rfl) rfl ?_
            refine hpa_bipush (by rfl) rfl ?_
            refine hpj_ceq (by rfl) rfl hk_8 (fun q7 => ?_) (fun q7 => False.elim (by omega))
            obtain ⟨rfl, rfl⟩ := Prod.mk.inj ((hg_fl_stop (o := o2) (x := 26) (w := r2) (st := true) (Or.inr ⟨rfl, by omega⟩)).symm.trans E0)
            exact hpa_return (by rfl) rfl (hP _ _ ⟨rfl, W0, X0, F0⟩)
          ·
            have hv17 : v3.toInt = 9 := by unfold hmK at hk17; omega
            refine hpa_s1 (by rfl) (Or.inl ⟨_, rfl, rfl⟩) rfl ?_
            refine hpa_iload_n (by rfl) rfl ?_
            refine hpa_bipush (by rfl) rfl ?_
            refine hpj_ceq (by rfl) rfl hk_6 (fun q8 => False.elim (by omega)) (fun q8 => ?_)
            refine hpa_iload_n (by rfl) rfl ?_
            refine hpj_zeq (by rfl) rfl (fun q9 => False.elim (by omega)) (fun q9 => ?_)
            refine hpa_iload_n (by rfl) rfl ?_
            refine hpa_bipush (by rfl) rfl ?_
            refine hpj_ceq (by rfl) rfl hk_8 (fun q10 => False.elim (by omega)) (fun q10 => ?_)
            refine hpa_iload_n (by rfl) rfl ?_
            refine hpa_bipush (by rfl) rfl ?_
            refine hpj_cne (by rfl) rfl hk_9 (fun q11 => False.elim (by omega)) (fun q11 => ?_)
            obtain ⟨rfl, rfl⟩ := Prod.mk.inj ((hg_fl_stop (o := o2) (x := 27) (w := r2) (st := true) (Or.inr ⟨rfl, by omega⟩)).symm.trans E0)
            exact hpa_return (by rfl) rfl (hP _ _ ⟨rfl, W0, X0, F0⟩)
          ·
            have hv17 : v3.toInt = 10 := by unfold hmK at hk17; omega
            refine hpa_s1 (by rfl) (Or.inl ⟨_, rfl, rfl⟩) rfl ?_
            refine hpa_iload_n (by rfl) rfl ?_
            refine hpa_bipush (by rfl) rfl ?_
            refine hpj_ceq (by rfl) rfl hk_6 (fun q12 => False.elim (by omega)) (fun q12 => ?_)
            refine hpa_iload_n (by rfl) rfl ?_
            refine hpj_zeq (by rfl) rfl (fun q13 => False.elim (by omega)) (fun q13 => ?_)
            refine hpa_iload_n (by rfl) rfl ?_
            refine hpa_bipush (by rfl) rfl ?_
            refine hpj_ceq (by rfl) rfl hk_8 (fun q14 => False.elim (by omega)) (fun q14 => ?_)
            refine hpa_iload_n (by rfl) rfl ?_
            refine hpa_bipush (by rfl) rfl ?_
            refine hpj_cne (by rfl) rfl hk_9 (fun q15 => ?_) (fun q15 => False.elim (by omega))
            refine hpa_aload_n (by rfl) rfl ?_
            refine hpa_dupR (by rfl) ?_
            refine hpj_getK (by rfl) (by rfl) (by rfl) rfl ?_
            refine hpa_iconst (by rfl) rfl ?_
            refine hpj_isub (by rfl) rfl hk_1 (by omega) (by omega) (fun z16 ez16 => ?_)
            refine hpj_putI (by rfl) (by rfl) (by rfl) (by rfl) (fun A17 eA17 fA17 => ?_)
            have VA17 := (W0).f (k := 41) eA17 fA17 (by omega)
            have XA17 := X0.pop eA17 fA17 (by omega)
            have FRA17 := F0.up eA17 fA17 (by omega)
            refine hpa_aload_n (by rfl) rfl ?_
            refine hpa_iload_n (by rfl) rfl ?_
            refine hpa_bipush (by rfl) rfl ?_
            refine hpj_cne (by rfl) rfl hk_8 (fun q18 => ?_) (fun q18 => False.elim (by omega))
            refine hpa_iload_n (by rfl) rfl ?_
            refine hpa_bipush (by rfl) rfl ?_
            refine hpj_cne (by rfl) rfl hk_9 (fun q19 => ?_) (fun q19 => False.elim (by omega))
            refine hpa_iload_n (by rfl) rfl ?_
            refine hpa_bipush (by rfl) rfl ?_
            refine hpj_cne (by rfl) rfl hk_10 (fun q20 => False.elim (by omega)) (fun q20 => ?_)
            refine hpa_iconst (by rfl) rfl ?_
            refine hpa_goto (by rfl) ?_
            refine hpa_iconst (by rfl) rfl ?_
            refine hpa_call0 (by rfl) (by rfl) (by rfl) (by rfl) (by rfl) (by rfl) (hP159 (k := 4) (v := 0) (Int32.ofNat 4) (Int32.ofNat 0) XA17.1 hk_4 hk_0) ?_
            rintro _ A21 ⟨rfl, E_A21⟩
            have WA21x := VA17.trans E_A21.W
            have XA21x := XA17.emit E_A21
            have FRA21x := FRA17.trans (E_A21.fr (by omega))
            have EA21x := (hg_fl_pop (o := o2) (x := 28) (w := r2) (st := true) (by decide)).symm.trans E0
            refine hpa_goto (by rfl) ?_
            exact ih0 (.int v3) A21 (o2 ++ [(28 - 24, 0)]) r2 WA21x XA21x FRA21x EA21x
          ·
            have hv17 : v3.toInt = 15 := by unfold hmK at hk17; omega
            refine hpa_s1 (by rfl) (Or.inl ⟨_, rfl, rfl⟩) rfl ?_
            refine hpa_iload_n (by rfl) rfl ?_
            refine hpa_bipush (by rfl) rfl ?_
            refine hpj_ceq (by rfl) rfl hk_6 (fun q22 => False.elim (by omega)) (fun q22 => ?_)
            refine hpa_iload_n (by rfl) rfl ?_
            refine hpj_zeq (by rfl) rfl (fun q23 => False.elim (by omega)) (fun q23 => ?_)
            refine hpa_iload_n (by rfl) rfl ?_
            refine hpa_bipush (by rfl) rfl ?_
            refine hpj_ceq (by rfl) rfl hk_8 (fun q24 => False.elim (by omega)) (fun q24 => ?_)
            refine hpa_iload_n (by rfl) rfl ?_
            refine hpa_bipush (by rfl) rfl ?_
            refine hpj_cne (by rfl) rfl hk_9 (fun q25 => ?_) (fun q25 => False.elim (by omega))
            refine hpa_aload_n (by rfl) rfl ?_
            refine hpa_dupR (by rfl) ?_
            refine hpj_getK (by rfl) (by rfl) (by rfl) rfl ?_
            refine hpa_iconst (by rfl) rfl ?_
            refine hpj_isub (by rfl) rfl hk_1 (by omega) (by omega) (fun z26 ez26 => ?_)
            refine hpj_putI (by rfl) (by rfl) (by rfl) (by rfl) (fun A27 eA27 fA27 => ?_)
            have VA27 := (W0).f (k := 41) eA27 fA27 (by omega)
            have XA27 := X0.pop eA27 fA27 (by omega)
            have FRA27 := F0.up eA27 fA27 (by omega)
            refine hpa_aload_n (by rfl) rfl ?_
            refine hpa_iload_n (by rfl) rfl ?_
            refine hpa_bipush (by rfl) rfl ?_
            refine hpj_cne (by rfl) rfl hk_8 (fun q28 => ?_) (fun q28 => False.elim (by omega))
            refine hpa_iload_n (by rfl) rfl ?_
            refine hpa_bipush (by rfl) rfl ?_
            refine hpj_cne (by rfl) rfl hk_9 (fun q29 => ?_) (fun q29 => False.elim (by omega))
            refine hpa_iload_n (by rfl) rfl ?_
            refine hpa_bipush (by rfl) rfl ?_
            refine hpj_cne (by rfl) rfl hk_10 (fun q30 => ?_) (fun q30 => False.elim (by omega))
            refine hpa_iconst (by rfl) rfl ?_
            refine hpa_iconst (by rfl) rfl ?_
            refine hpa_call0 (by rfl) (by rfl) (by rfl) (by rfl) (by rfl) (by rfl) (hP159 (k := 5) (v := 0) (Int32.ofNat 5) (Int32.ofNat 0) XA27.1 hk_5 hk_0) ?_
            rintro _ A31 ⟨rfl, E_A31⟩
            have WA31x := VA27.trans E_A31.W
            have XA31x := XA27.emit E_A31
            have FRA31x := FRA27.trans (E_A31.fr (by omega))
            have EA31x := (hg_fl_pop (o := o2) (x := 29) (w := r2) (st := true) (by decide)).symm.trans E0
            refine hpa_goto (by rfl) ?_
            exact ih0 (.int v3) A31 (o2 ++ [(29 - 24, 0)]) r2 WA31x XA31x FRA31x EA31x
      ·
        refine hpa_aload_nS (by rfl) rfl ?_
        refine hpj_getK (by rfl) (by rfl) (by rfl) rfl ?_
        refine hpj_zle (by rfl) rfl (fun q32 => ?_) (fun q32 => ?_)
        ·
          have hw2 := hmnil X0.2.2.1 (by omega)
          subst hw2
          obtain ⟨rfl, rfl⟩ := Prod.mk.inj (show (o2, ([] : List Nat)) = (o1, w1) from E0)
          exact hpa_return (by rfl) rfl (hP _ _ ⟨rfl, W0, X0, F0⟩)
        ·
          obtain ⟨x2, r2, rfl⟩ := hmcons X0.2.2.1 (by omega)
          have hl2 : (x2 :: r2).length = r2.length + 1 := rfl
          have hw2 := X0.2.2.1
          have hb41 := hi32r (A0.1 367 41)
          refine hpa_aload_n (by rfl) rfl ?_
          refine hpa_get (v := .ref 393) (by rfl) (by rfl) (by rfl) rfl ?_
          refine hpa_aload_n (by rfl) rfl ?_
          refine hpj_getK (by rfl) (by rfl) (by rfl) rfl ?_
          refine hpa_iconst (by rfl) rfl ?_
          refine hpj_isub (by rfl) rfl hk_1 (by omega) (by omega) (fun z33 ez33 => ?_)
          refine hpx_iald (by rfl) (by rfl) (fun h0v34 h1v34 v34 ev34 => ?_)
          have hx17 := X0.2.2.2.1
          rw [show r2.length = (z33).toNatClampNeg by have := hn_cn (j := z33) (by omega); omega, ev34] at hx17
          obtain ⟨hk17, hx17⟩ := hx17
          have hx5 : x2 = 31 ∨ x2 = 26 ∨ x2 = 27 ∨ x2 = 28 ∨ x2 = 29 := by omega
          rcases hx5 with rfl | rfl | rfl | rfl | rfl
          ·
            have hv17 : v34.toInt = 6 := by unfold hmK at hk17; omega
            refine hpa_s1 (by rfl) (Or.inl ⟨_, rfl, rfl⟩) rfl ?_
            refine hpa_iload_n (by rfl) rfl ?_
            refine hpa_bipush (by rfl) rfl ?_
            refine hpj_ceq (by rfl) rfl hk_6 (fun q35 => ?_) (fun q35 => False.elim (by omega))
            obtain ⟨rfl, rfl⟩ := Prod.mk.inj ((hg_fl_stop (o := o2) (x := 31) (w := r2) (st := false) (Or.inl rfl)).symm.trans E0)
            exact hpa_return (by rfl) rfl (hP _ _ ⟨rfl, W0, X0, F0⟩)
          ·
            have hv17 : v34.toInt = 8 := by unfold hmK at hk17; omega
            refine hpa_s1 (by rfl) (Or.inl ⟨_, rfl, rfl⟩) rfl ?_
            refine hpa_iload_n (by rfl) rfl ?_
            refine hpa_bipush (by rfl) rfl ?_
            refine hpj_ceq (by rfl) rfl hk_6 (fun q36 => False.elim (by omega)) (fun q36 => ?_)
            refine hpa_iload_n (by rfl) rfl ?_
            refine hpj_zeq (by rfl) rfl (fun q37 => ?_) (fun q37 => False.elim (by omega))
            refine hpa_aload_n (by rfl) rfl ?_
            refine hpa_dupR (by rfl) ?_
            refine hpj_getK (by rfl) (by rfl) (by rfl) rfl ?_
            refine hpa_iconst (by rfl) rfl ?_
            refine hpj_isub (by rfl) rfl hk_1 (by omega) (by omega) (fun z38 ez38 => ?_)
            refine hpj_putI (by rfl) (by rfl) (by rfl) (by rfl) (fun A39 eA39 fA39 => ?_)
            have VA39 := (W0).f (k := 41) eA39 fA39 (by omega)
            have XA39 := X0.pop eA39 fA39 (by omega)
            have FRA39 := F0.up eA39 fA39 (by omega)
            refine hpa_aload_n (by rfl) rfl ?_
            refine hpa_iload_n (by rfl) rfl ?_
            refine hpa_bipush (by rfl) rfl ?_
            refine hpj_cne (by rfl) rfl hk_8 (fun q40 => False.elim (by omega)) (fun q40 => ?_)
            refine hpa_iconst (by rfl) rfl ?_
            refine hpa_goto (by rfl) ?_
            refine hpa_iconst (by rfl) rfl ?_
            refine hpa_call0 (by rfl) (by rfl) (by rfl) (by rfl) (by rfl) (by rfl) (hP159 (k := 2) (v := 0) (Int32.ofNat 2) (Int32.ofNat 0) XA39.1 hk_2 hk_0) ?_
            rintro _ A41 ⟨rfl, E_A41⟩
            have WA41x := VA39.trans E_A41.W
            have XA41x := XA39.emit E_A41
            have FRA41x := FRA39.trans (E_A41.fr (by omega))
            have EA41x := (hg_fl_pop (o := o2) (x := 26) (w := r2) (st := false) (by decide)).symm.trans E0
            refine hpa_goto (by rfl) ?_
            exact ih0 (.int v34) A41 (o2 ++ [(26 - 24, 0)]) r2 WA41x XA41x FRA41x EA41x
          ·
            have hv17 : v34.toInt = 9 := by unfold hmK at hk17; omega
            refine hpa_s1 (by rfl) (Or.inl ⟨_, rfl, rfl⟩) rfl ?_
            refine hpa_iload_n (by rfl) rfl ?_
            refine hpa_bipush (by rfl) rfl ?_
            refine hpj_ceq (by rfl) rfl hk_6 (fun q42 => False.elim (by omega)) (fun q42 => ?_)
            refine hpa_iload_n (by rfl) rfl ?_
            refine hpj_zeq (by rfl) rfl (fun q43 => ?_) (fun q43 => False.elim (by omega))
            refine hpa_aload_n (by rfl) rfl ?_
            refine hpa_dupR (by rfl) ?_
            refine hpj_getK (by rfl) (by rfl) (by rfl) rfl ?_
            refine hpa_iconst (by rfl) rfl ?_
            refine hpj_isub (by rfl) rfl hk_1 (by omega) (by omega) (fun z44 ez44 => ?_)
            refine hpj_putI (by rfl) (by rfl) (by rfl) (by rfl) (fun A45 eA45 fA45 => ?_)
            have VA45 := (W0).f (k := 41) eA45 fA45 (by omega)
            have XA45 := X0.pop eA45 fA45 (by omega)
            have FRA45 := F0.up eA45 fA45 (by omega)
            refine hpa_aload_n (by rfl) rfl ?_
            refine hpa_iload_n (by rfl) rfl ?_
            refine hpa_bipush (by rfl) rfl ?_
            refine hpj_cne (by rfl) rfl hk_8 (fun q46 => ?_) (fun q46 => False.elim (by omega))
            refine hpa_iload_n (by rfl) rfl ?_
            refine hpa_bipush (by rfl) rfl ?_
            refine hpj_cne (by rfl) rfl hk_9 (fun q47 => False.elim (by omega)) (fun q47 => ?_)
            refine hpa_iconst (by rfl) rfl ?_
            refine hpa_goto (by rfl) ?_
            refine hpa_iconst (by rfl) rfl ?_
            refine hpa_call0 (by rfl) (by rfl) (by rfl) (by rfl) (by rfl) (by rfl) (hP159 (k := 3) (v := 0) (Int32.ofNat 3) (Int32.ofNat 0) XA45.1 hk_3 hk_0) ?_
            rintro _ A48 ⟨rfl, E_A48⟩
            have WA48x := VA45.trans E_A48.W
            have XA48x := XA45.emit E_A48
            have FRA48x := FRA45.trans (E_A48.fr (by omega))
            have EA48x := (hg_fl_pop (o := o2) (x := 27) (w := r2) (st := false) (by decide)).symm.trans E0
            refine hpa_goto (by rfl) ?_
            exact ih0 (.int v34) A48 (o2 ++ [(27 - 24, 0)]) r2 WA48x XA48x FRA48x EA48x
          ·
            have hv17 : v34.toInt = 10 := by unfold hmK at hk17; omega
            refine hpa_s1 (by rfl) (Or.inl ⟨_, rfl, rfl⟩) rfl ?_
            refine hpa_iload_n (by rfl) rfl ?_
            refine hpa_bipush (by rfl) rfl ?_
            refine hpj_ceq (by rfl) rfl hk_6 (fun q49 => False.elim (by omega)) (fun q49 => ?_)
            refine hpa_iload_n (by rfl) rfl ?_
            refine hpj_zeq (by rfl) rfl (fun q50 => ?_) (fun q50 => False.elim (by omega))
            refine hpa_aload_n (by rfl) rfl ?_
            refine hpa_dupR (by rfl) ?_
            refine hpj_getK (by rfl) (by rfl) (by rfl) rfl ?_
            refine hpa_iconst (by rfl) rfl ?_
            refine hpj_isub (by rfl) rfl hk_1 (by omega) (by omega) (fun z51 ez51 => ?_)
            refine hpj_putI (by rfl) (by rfl) (by rfl) (by rfl) (fun A52 eA52 fA52 => ?_)
            have VA52 := (W0).f (k := 41) eA52 fA52 (by omega)
            have XA52 := X0.pop eA52 fA52 (by omega)
            have FRA52 := F0.up eA52 fA52 (by omega)
            refine hpa_aload_n (by rfl) rfl ?_
            refine hpa_iload_n (by rfl) rfl ?_
            refine hpa_bipush (by rfl) rfl ?_
            refine hpj_cne (by rfl) rfl hk_8 (fun q53 => ?_) (fun q53 => False.elim (by omega))
            refine hpa_iload_n (by rfl) rfl ?_
            refine hpa_bipush (by rfl) rfl ?_
            refine hpj_cne (by rfl) rfl hk_9 (fun q54 => ?_) (fun q54 => False.elim (by omega))
            refine hpa_iload_n (by rfl) rfl ?_
            refine hpa_bipush (by rfl) rfl ?_
            refine hpj_cne (by rfl) rfl hk_10 (fun q55 => False.elim (by omega)) (fun q55 => ?_)
            refine hpa_iconst (by rfl) rfl ?_
            refine hpa_goto (by rfl) ?_
            refine hpa_iconst (by rfl) rfl ?_
            refine hpa_call0 (by rfl) (by rfl) (by rfl) (by rfl) (by rfl) (by rfl) (hP159 (k := 4) (v := 0) (Int32.ofNat 4) (Int32.ofNat 0) XA52.1 hk_4 hk_0) ?_
            rintro _ A56 ⟨rfl, E_A56⟩
            have WA56x := VA52.trans E_A56.W
            have XA56x := XA52.emit E_A56
            have FRA56x := FRA52.trans (E_A56.fr (by omega))
            have EA56x := (hg_fl_pop (o := o2) (x := 28) (w := r2) (st := false) (by decide)).symm.trans E0
            refine hpa_goto (by rfl) ?_
            exact ih0 (.int v34) A56 (o2 ++ [(28 - 24, 0)]) r2 WA56x XA56x FRA56x EA56x
          ·
            have hv17 : v34.toInt = 15 := by unfold hmK at hk17; omega
            refine hpa_s1 (by rfl) (Or.inl ⟨_, rfl, rfl⟩) rfl ?_
            refine hpa_iload_n (by rfl) rfl ?_
            refine hpa_bipush (by rfl) rfl ?_
            refine hpj_ceq (by rfl) rfl hk_6 (fun q57 => False.elim (by omega)) (fun q57 => ?_)
            refine hpa_iload_n (by rfl) rfl ?_
            refine hpj_zeq (by rfl) rfl (fun q58 => ?_) (fun q58 => False.elim (by omega))
            refine hpa_aload_n (by rfl) rfl ?_
            refine hpa_dupR (by rfl) ?_
            refine hpj_getK (by rfl) (by rfl) (by rfl) rfl ?_
            refine hpa_iconst (by rfl) rfl ?_
            refine hpj_isub (by rfl) rfl hk_1 (by omega) (by omega) (fun z59 ez59 => ?_)
            refine hpj_putI (by rfl) (by rfl) (by rfl) (by rfl) (fun A60 eA60 fA60 => ?_)
            have VA60 := (W0).f (k := 41) eA60 fA60 (by omega)
            have XA60 := X0.pop eA60 fA60 (by omega)
            have FRA60 := F0.up eA60 fA60 (by omega)
            refine hpa_aload_n (by rfl) rfl ?_
            refine hpa_iload_n (by rfl) rfl ?_
            refine hpa_bipush (by rfl) rfl ?_
            refine hpj_cne (by rfl) rfl hk_8 (fun q61 => ?_) (fun q61 => False.elim (by omega))
            refine hpa_iload_n (by rfl) rfl ?_
            refine hpa_bipush (by rfl) rfl ?_
            refine hpj_cne (by rfl) rfl hk_9 (fun q62 => ?_) (fun q62 => False.elim (by omega))
            refine hpa_iload_n (by rfl) rfl ?_
            refine hpa_bipush (by rfl) rfl ?_
            refine hpj_cne (by rfl) rfl hk_10 (fun q63 => ?_) (fun q63 => False.elim (by omega))
            refine hpa_iconst (by rfl) rfl ?_
            refine hpa_iconst (by rfl) rfl ?_
            refine hpa_call0 (by rfl) (by rfl) (by rfl) (by rfl) (by rfl) (by rfl) (hP159 (k := 5) (v := 0) (Int32.ofNat 5) (Int32.ofNat 0) XA60.1 hk_5 hk_0) ?_
            rintro _ A64 ⟨rfl, E_A64⟩
            have WA64x := VA60.trans E_A64.W
            have XA64x := XA60.emit E_A64
            have FRA64x := FRA60.trans (E_A64.fr (by omega))
            have EA64x := (hg_fl_pop (o := o2) (x := 29) (w := r2) (st := false) (by decide)).symm.trans E0
            refine hpa_goto (by rfl) ?_
            exact ih0 (.int v34) A64 (o2 ++ [(29 - 24, 0)]) r2 WA64x XA64x FRA64x EA64x
  exact L0 _ (.retAddr 0) A o w hmW.rfl hX hmFr.rfl hfl
theorem hP160 {g d : Nat} {A : hs_A} {z0 : Nat} {o o1 : hg_C} {w w1 : List Nat} {st : Bool} (a1 : Int32) (hX : hmX A z0 o w) (hfl : hg_fl st o w = (o1, w1)) (hs : (a1.toInt = 1 ∧ st = true) ∨ (a1.toInt = 0 ∧ st = false)) : hpC g d 160 hm_m160 [.ref 368, .int a1] A (fun r A' => r = none ∧ (hmW A A' ∧ hmX A' z0 o1 w1 ∧ hmFr z0 A A')) := hpC.all (fun f d => hW160 a1 hX hfl hs (fun r A' h => h))
theorem hW162 {g d f : Nat} {A : hs_A} {K V S : Nat → Int} {E : Nat → Nat → Bool} {t : Nat} {s : hq_S} {ns : List Nat} {sn sd od : Nat} {o : Option (Nat × Nat)} {ifs ctx : Nat} {rr : List Nat × Nat × Nat × Option (Nat × Nat)} {dd : hg_D} {kk : hg_W} {z0 : Nat} {oc : hg_C} {ww : List Nat} (hB : hmB K V S E A t s) (hR : hmR S A t ns sn o sd od) (hu : hq_dl K V E t s = hq_unit K t ifs ctx od rr) (h31 : ¬ K t = 31) (hG : hg_q K V E t = (dd, kk, oc, ww)) (hue : ∀ e, hg_dl K V t s e = hg_un K V t e) (hX : hmX A z0 oc ww) {P : Option Value → hs_A → Prop} (hP : ∀ (r : Option Value) (A' : hs_A), (r = none ∧ ((hmB K V S E A' (t + 1) (15, ifs, ctx, od, rr) ∧ hmR S A' (t + 1) ns sn o sd od ∧ ∃ oc' : hg_C, hg_q K V E (t + 1) = (dd, kk, oc', ww) ∧ hmX A' z0 oc' ww ∧ hmFr z0 A A') ∨ (hmF K V S E A'))) → P r A') : hpa (f, g) d none hm_t162 0 [.ref 368] [] A P := by
  have k0 := hk_0
  have k1 := hk_1
  have k2 := hk_2
  have k31 := hk_31
  have k39 := hk_39
  obtain ⟨h400, hpre, hix, hkk, hss, hvv⟩ := hB.at
  have hnx := hB.2.1
  have hqq := hB.2.2.1
  have hf0 := hB.2.2.2
  have j2 := hB.i2 hk_2
  have hv19 : (31 ≤ (A.2.1 370 t).toInt ∧ (A.2.1 370 t).toInt ≤ 39) ↔ (11 ≤ K t ∧ K t ≤ 19) := by unfold hmK at hkk; omega
  refine hpa_aload_n (by rfl) rfl ?_
  refine hpa_iconst (by rfl) rfl ?_
  refine hpa_call0 (by rfl) (by rfl) (by rfl) (by rfl) (by rfl) (by rfl) (hP144 (Int32.ofNat 2) hB) ?_
  rintro _ _ ⟨rfl, z2, rfl, (⟨fz_A1, e_A1⟩ | ⟨fz_A1, ne_A1⟩)⟩
  ·
    refine hpj_zeq (by rfl) rfl (fun q3 => False.elim (by omega)) (fun q3 => ?_)
    refine hpa_aload_n (by rfl) rfl ?_
    refine hpa_iconst (by rfl) rfl ?_
    refine hpa_aload_n (by rfl) rfl ?_
    refine hpa_get (v := .ref 373) (by rfl) (by rfl) (by rfl) rfl ?_
    refine hpa_aload_n (by rfl) rfl ?_
    refine hpj_getK (by rfl) (by rfl) (by rfl) rfl ?_
    refine hpx_iald (by rfl) (by rfl) (fun h0v4 h1v4 v4 ev4 => ?_)
    rw [hix] at ev4
    have tv4 := congrArg Int32.toInt ev4
    have hKt : K t = 21 := (hB.i2 hk_2).mp e_A1
    have hval : v4.toInt = V t := by rw [← tv4]; exact hvv hKt
    refine hpa_call0 (by rfl) (by rfl) (by rfl) (by rfl) (by rfl) (by rfl) (hP159 (k := 0) (v := V t) (Int32.ofNat 0) v4 hX.1 hk_0 hval) ?_
    rintro _ A5 ⟨rfl, E_A5⟩
    have BWA5 := hB.W E_A5.W
    have RWA5 := hR.W E_A5.W
    have f0WA5 := BWA5.2.2.2
    have nxWA5 := BWA5.2.1
    have rdWA5 := RWA5.2.2.1
    have XE := hX.emit E_A5
    have FE := E_A5.fr (z0 := z0) (by omega)
    refine hpa_aload_n (by rfl) rfl ?_
    refine hpa_call0 (by rfl) (by rfl) (by rfl) (by rfl) (by rfl) (by rfl) (hP147 BWA5 RWA5 (hu.trans (hqu_v (by omega)))) ?_
    rintro _ A6 ⟨rfl, (⟨B_A6, R_A6, Q_A6, G_A6⟩ | F_A6)⟩
    ·
      have f0_A6 := B_A6.2.2.2
      have nx_A6 := B_A6.2.1
      have rd_A6 := R_A6.2.2.1
      have XA6 := XE.Q Q_A6
      have FRA6 := FE.Q Q_A6
      refine hpa_goto (by rfl) ?_
      exact hpa_return (by rfl) rfl (hP _ _ ⟨rfl, Or.inl ⟨B_A6, R_A6, _, by rw [G_A6, hG, hue]; exact hg_un21 hKt, XA6, FRA6⟩⟩)
    ·
      have fp_A6 := F_A6.pos
      refine hpa_goto (by rfl) ?_
      exact hpa_return (by rfl) rfl (hP _ _ ⟨rfl, Or.inr F_A6⟩)
  ·
    refine hpj_zeq (by rfl) rfl (fun q7 => ?_) (fun q7 => False.elim (by omega))
    refine hpa_aload_n (by rfl) rfl ?_
    refine hpj_getK (by rfl) (by rfl) (by rfl) rfl ?_
    refine hpj_zne (by rfl) rfl (fun q8 => False.elim (by omega)) (fun q8 => ?_)
    refine hpa_aload_n (by rfl) rfl ?_
    refine hpa_get (v := .ref 371) (by rfl) (by rfl) (by rfl) rfl ?_
    refine hpa_aload_n (by rfl) rfl ?_
    refine hpj_getK (by rfl) (by rfl) (by rfl) rfl ?_
    refine hpx_iald (by rfl) (by rfl) (fun h0v9 h1v9 v9 ev9 => ?_)
    rw [hix] at ev9
    have tv9 := congrArg Int32.toInt ev9
    refine hpa_bipush (by rfl) rfl ?_
    refine hpj_clt (by rfl) rfl hk_31 (fun q10 => ?_) (fun q10 => ?_)
    ·
      refine hpa_aload_n (by rfl) rfl ?_
      refine hpa_iconst (by rfl) rfl ?_
      refine hpa_call0 (by rfl) (by rfl) (by rfl) (by rfl) (by rfl) (by rfl) (hP145 (Int32.ofNat 1) hB ⟨s, hqq, hu.trans (hqu_n (by omega) h31)⟩ (by decide) hk_1) ?_
      rintro _ A11 ⟨rfl, F_A11⟩
      have fp_A11 := F_A11.pos
      exact hpa_return (by rfl) rfl (hP _ _ ⟨rfl, Or.inr F_A11⟩)
    ·
      refine hpa_aload_n (by rfl) rfl ?_
      refine hpa_get (v := .ref 371) (by rfl) (by rfl) (by rfl) rfl ?_
      refine hpa_aload_n (by rfl) rfl ?_
      refine hpj_getK (by rfl) (by rfl) (by rfl) rfl ?_
      refine hpx_iald (by rfl) (by rfl) (fun h0v12 h1v12 v12 ev12 => ?_)
      rw [hix] at ev12
      have tv12 := congrArg Int32.toInt ev12
      refine hpa_bipush (by rfl) rfl ?_
      refine hpj_cgt (by rfl) rfl hk_39 (fun q13 => ?_) (fun q13 => ?_)
      ·
        refine hpa_aload_n (by rfl) rfl ?_
        refine hpa_iconst (by rfl) rfl ?_
        refine hpa_call0 (by rfl) (by rfl) (by rfl) (by rfl) (by rfl) (by rfl) (hP145 (Int32.ofNat 1) hB ⟨s, hqq, hu.trans (hqu_n (by omega) h31)⟩ (by decide) hk_1) ?_
        rintro _ A14 ⟨rfl, F_A14⟩
        have fp_A14 := F_A14.pos
        exact hpa_return (by rfl) rfl (hP _ _ ⟨rfl, Or.inr F_A14⟩)
      ·
        refine hpa_aload_n (by rfl) rfl ?_
        refine hpa_iconst (by rfl) rfl ?_
        refine hpa_aload_n (by rfl) rfl ?_
        refine hpa_get (v := .ref 371) (by rfl) (by rfl) (by rfl) rfl ?_
        refine hpa_aload_n (by rfl) rfl ?_
        refine hpj_getK (by rfl) (by rfl) (by rfl) rfl ?_
        refine hpx_iald (by rfl) (by rfl) (fun h0v15 h1v15 v15 ev15 => ?_)
        rw [hix] at ev15
        have tv15 := congrArg Int32.toInt ev15
        refine hpa_bipush (by rfl) rfl ?_
        refine hpj_isub (by rfl) rfl hk_31 (by omega) (by omega) (fun z16 ez16 => ?_)
        refine hpa_call0 (by rfl) (by rfl) (by rfl) (by rfl) (by rfl) (by rfl) (hP159 (k := 1) (v := K t - 11) (Int32.ofNat 1) z16 hX.1 hk_1 (by unfold hmK at hkk; omega)) ?_
        rintro _ A17 ⟨rfl, E_A17⟩
        have BWA17 := hB.W E_A17.W
        have RWA17 := hR.W E_A17.W
        have f0WA17 := BWA17.2.2.2
        have nxWA17 := BWA17.2.1
        have rdWA17 := RWA17.2.2.1
        have XE := hX.emit E_A17
        have FE := E_A17.fr (z0 := z0) (by omega)
        refine hpa_aload_n (by rfl) rfl ?_
        refine hpa_call0 (by rfl) (by rfl) (by rfl) (by rfl) (by rfl) (by rfl) (hP147 BWA17 RWA17 (hu.trans (hqu_v (by omega)))) ?_
        rintro _ A18 ⟨rfl, (⟨B_A18, R_A18, Q_A18, G_A18⟩ | F_A18)⟩
        ·
          have f0_A18 := B_A18.2.2.2
          have nx_A18 := B_A18.2.1
          have rd_A18 := R_A18.2.2.1
          have XA18 := XE.Q Q_A18
          have FRA18 := FE.Q Q_A18
          refine hpa_goto (by rfl) ?_
          exact hpa_return (by rfl) rfl (hP _ _ ⟨rfl, Or.inl ⟨B_A18, R_A18, _, by rw [G_A18, hG, hue]; exact hg_unv (by omega), XA18, FRA18⟩⟩)
        ·
          have fp_A18 := F_A18.pos
          refine hpa_goto (by rfl) ?_
          exact hpa_return (by rfl) rfl (hP _ _ ⟨rfl, Or.inr F_A18⟩)
theorem hP162 {g d : Nat} {A : hs_A} {K V S : Nat → Int} {E : Nat → Nat → Bool} {t : Nat} {s : hq_S} {ns : List Nat} {sn sd od : Nat} {o : Option (Nat × Nat)} {ifs ctx : Nat} {rr : List Nat × Nat × Nat × Option (Nat × Nat)} {dd : hg_D} {kk : hg_W} {z0 : Nat} {oc : hg_C} {ww : List Nat} (hB : hmB K V S E A t s) (hR : hmR S A t ns sn o sd od) (hu : hq_dl K V E t s = hq_unit K t ifs ctx od rr) (h31 : ¬ K t = 31) (hG : hg_q K V E t = (dd, kk, oc, ww)) (hue : ∀ e, hg_dl K V t s e = hg_un K V t e) (hX : hmX A z0 oc ww) : hpC g d 162 hm_m162 [.ref 368] A (fun r A' => r = none ∧ ((hmB K V S E A' (t + 1) (15, ifs, ctx, od, rr) ∧ hmR S A' (t + 1) ns sn o sd od ∧ ∃ oc' : hg_C, hg_q K V E (t + 1) = (dd, kk, oc', ww) ∧ hmX A' z0 oc' ww ∧ hmFr z0 A A') ∨ (hmF K V S E A'))) := hpC.all (fun f d => hW162 hB hR hu h31 hG hue hX (fun r A' h => h))
theorem hW162d {g d f : Nat} {A : hs_A} {K V S : Nat → Int} {E : Nat → Nat → Bool} (hF : hmF K V S E A) {P : Option Value → hs_A → Prop} (hP : ∀ (r : Option Value) (A' : hs_A), (r = none ∧ (hmF K V S E A')) → P r A') : hpa (f, g) d none hm_t162 0 [.ref 368] [] A P := by
  have k1 := hk_1
  have k2 := hk_2
  have hfp := hF.pos
  refine hpa_aload_n (by rfl) rfl ?_
  refine hpa_iconst (by rfl) rfl ?_
  refine hpa_call0 (by rfl) (by rfl) (by rfl) (by rfl) (by rfl) (by rfl) (hP144d (Int32.ofNat 2) hF) ?_
  rintro _ _ ⟨rfl, z2, rfl, fz_A1⟩
  refine hpj_zeq (by rfl) rfl (fun q3 => ?_) (fun q3 => False.elim (by omega))
  refine hpa_aload_n (by rfl) rfl ?_
  refine hpj_getK (by rfl) (by rfl) (by rfl) rfl ?_
  refine hpj_zne (by rfl) rfl (fun q4 => ?_) (fun q4 => False.elim (by omega))
  refine hpa_aload_n (by rfl) rfl ?_
  refine hpa_iconst (by rfl) rfl ?_
  refine hpa_call0 (by rfl) (by rfl) (by rfl) (by rfl) (by rfl) (by rfl) (hP145d (Int32.ofNat 1) hF) ?_
  rintro _ _ ⟨rfl, rfl⟩
  exact hpa_return (by rfl) rfl (hP _ _ ⟨rfl, hF⟩)
theorem hP162d {g d : Nat} {A : hs_A} {K V S : Nat → Int} {E : Nat → Nat → Bool} (hF : hmF K V S E A) : hpC g d 162 hm_m162 [.ref 368] A (fun r A' => r = none ∧ (hmF K V S E A')) := hpC.all (fun f d => hW162d hF (fun r A' h => h))
theorem hW161 {g d f : Nat} {A : hs_A} {K V S : Nat → Int} {E : Nat → Nat → Bool} {t : Nat} {s : hq_S} {ns : List Nat} {sn sd : Nat} {o : Option (Nat × Nat)} {ifs ctx : Nat} {rr : List Nat × Nat × Nat × Option (Nat × Nat)} {dd : hg_D} {kk : hg_W} {z0 : Nat} (hB : hmB K V S E A t s) (hR : hmR S A t ns sn o sd 0) (hu : hq_dl K V E t s = hq_unit K t ifs ctx 0 rr) (hG : hg_q K V E t = (dd, kk, [], [])) (hue : ∀ e, hg_dl K V t s e = hg_un K V t e) (hz : (A.1 367 37).toInt = (z0 : Int)) {P : Option Value → hs_A → Prop} (hP : ∀ (r : Option Value) (A' : hs_A), (r = none ∧ ((∃ (t' : Nat) (oc' oc2 : hg_C) (w' : List Nat), t < t' ∧ hmB K V S E A' t' (15, ifs, ctx, 0, rr) ∧ hmR S A' t' ns sn o sd 0 ∧ ¬ (26 ≤ K t' ∧ K t' ≤ 29) ∧ hg_q K V E t' = (dd, kk, oc', w') ∧ hg_fl false oc' w' = (oc2, []) ∧ hmX A' z0 oc2 [] ∧ hmFr z0 A A') ∨ (hmF K V S E A'))) → P r A') : hpa (f, g) d none hm_t161 0 [.ref 368, .retAddr 0, .retAddr 0] [] A P := by
  have k0 := hk_0
  have k1 := hk_1
  have k10 := hk_10
  have k15 := hk_15
  have k2 := hk_2
  have k6 := hk_6
  have k7 := hk_7
  have k8 := hk_8
  have k9 := hk_9
  obtain ⟨h400, hpre, hix, hkk, hss, hvv⟩ := hB.at
  have hnx := hB.2.1
  have hqq := hB.2.2.1
  have hf0 := hB.2.2.2
  have hop := hR.2.2.1
  have LL : ∀ f : Nat, (∀ (x12_1 : Int32) (x12_2 : Int32) (A12 : hs_A) (lb : x12_1.toInt = 0) (lm : x12_2.toInt = 1) (D12 : (∃ (t1 : Nat) (s1 : hq_S) (od : Nat) (oc : hg_C) (ww : List Nat), t ≤ t1 ∧ hmB K V S E A12 t1 s1 ∧ hmR S A12 t1 ns sn o sd od ∧ hq_dl K V E t1 s1 = hq_unit K t1 ifs ctx od rr ∧ od ≤ 6 ∧ (∀ e, hg_dl K V t1 s1 e = hg_un K V t1 e) ∧ hg_q K V E t1 = (dd, kk, oc, ww) ∧ hmX A12 z0 oc ww ∧ hmFr z0 A A12 ∧ hg_ct ww = od) ∨ hmF K V S E A12), hpa (f, g) d none hm_t161 12 [.ref 368, .int x12_1, .int x12_2] [] A12 P) ∧ (∀ (x23_1 : Int32) (x23_2 : Int32) (A23 : hs_A) (lb : x23_1.toInt = 0) (D23 : (∃ (t1 : Nat) (s1 : hq_S) (od : Nat) (oc : hg_C) (ww : List Nat), t ≤ t1 ∧ hmB K V S E A23 t1 s1 ∧ hmR S A23 t1 ns sn o sd od ∧ hq_dl K V E t1 s1 = hq_unit K t1 ifs ctx od rr ∧ od ≤ 6 ∧ (∀ e, hg_dl K V t1 s1 e = hg_un K V t1 e) ∧ hg_q K V E t1 = (dd, kk, oc, ww) ∧ hmX A23 z0 oc ww ∧ hmFr z0 A A23 ∧ hg_ct ww = od) ∨ hmF K V S E A23), hpa (f, g) d none hm_t161 23 [.ref 368, .int x23_1, .int x23_2] [] A23 P) ∧ (∀ (x96_1 : Int32) (x96_2 : Int32) (A96 : hs_A) (lb : x96_1.toInt = 0) (D96 : (∃ (t1 : Nat) (od : Nat) (oc : hg_C) (ww : List Nat), t < t1 ∧ hmB K V S E A96 t1 (15, ifs, ctx, od, rr) ∧ hmR S A96 t1 ns sn o sd od ∧ od ≤ 6 ∧ hg_q K V E t1 = (dd, kk, oc, ww) ∧ hmX A96 z0 oc ww ∧ hmFr z0 A A96 ∧ hg_ct ww = od) ∨ hmF K V S E A96), hpa (f, g) d none hm_t161 96 [.ref 368, .int x96_1, .int x96_2] [] A96 P) := by
    intro f
    induction f with
    | zero => exact ⟨(by intros; exact hpa.zero), (by intros; exact hpa.zero), (by intros; exact hpa.zero)⟩
    | succ f ih =>
      obtain ⟨ih12, ih23, ih96⟩ := ih
      refine ⟨?_, ?_, ?_⟩
      ·
        intro x12_1 x12_2 A12 lb lm D12
        rcases D12 with ⟨t1, s1, od, oc, ww, lt1, B1, R1, hu1, h6, ue1, G1, X1, FR1, CT1⟩ | F1
        ·
          have f01 := B1.2.2.2
          have nx1 := B1.2.1
          have rd1 := R1.2.2.1
          have h41 := B1.at.1
          have j6 := B1.i6 hk_6
          refine hpa_iload_nS (by rfl) rfl ?_
          refine hpj_zeq (by rfl) rfl (fun q1 => False.elim (by omega)) (fun q1 => ?_)
          refine hpa_aload_n (by rfl) rfl ?_
          refine hpj_getK (by rfl) (by rfl) (by rfl) rfl ?_
          refine hpj_zne (by rfl) rfl (fun q2 => False.elim (by omega)) (fun q2 => ?_)
          exact ih23 x12_1 x12_2 A12 (by omega) (Or.inl ⟨_, _, _, _, _, by omega, B1, R1, hu1, by omega, ue1, G1, X1, FR1, CT1⟩)
        ·
          have fp1 := F1.pos
          refine hpa_iload_nS (by rfl) rfl ?_
          refine hpj_zeq (by rfl) rfl (fun q3 => False.elim (by omega)) (fun q3 => ?_)
          refine hpa_aload_n (by rfl) rfl ?_
          refine hpj_getK (by rfl) (by rfl) (by rfl) rfl ?_
          refine hpj_zne (by rfl) rfl (fun q4 => ?_) (fun q4 => False.elim (by omega))
          exact hpa_return (by rfl) rfl (hP _ _ ⟨rfl, Or.inr F1⟩)
      ·
        intro x23_1 x23_2 A23 lb D23
        rcases D23 with ⟨t1, s1, od, oc, ww, lt1, B1, R1, hu1, h6, ue1, G1, X1, FR1, CT1⟩ | F1
        ·
          have f01 := B1.2.2.2
          have nx1 := B1.2.1
          have rd1 := R1.2.2.1
          have h41 := B1.at.1
          have j6 := B1.i6 hk_6
          refine hpa_aload_nS (by rfl) rfl ?_
          refine hpa_bipush (by rfl) rfl ?_
          refine hpa_call0 (by rfl) (by rfl) (by rfl) (by rfl) (by rfl) (by rfl) (hP144 (Int32.ofNat 6) B1) ?_
          rintro _ _ ⟨rfl, z6, rfl, (⟨fz_A5, e_A5⟩ | ⟨fz_A5, ne_A5⟩)⟩
          ·
            refine hpj_zeq (by rfl) rfl (fun q7 => False.elim (by omega)) (fun q7 => ?_)
            refine hpa_aload_n (by rfl) rfl ?_
            refine hpj_getK (by rfl) (by rfl) (by rfl) rfl ?_
            refine hpa_bipush (by rfl) rfl ?_
            refine hpj_cne (by rfl) rfl hk_6 (fun q8 => ?_) (fun q8 => ?_)
            ·
              refine hpa_aload_n (by rfl) rfl ?_
              refine hpa_dupR (by rfl) ?_
              refine hpj_getK (by rfl) (by rfl) (by rfl) rfl ?_
              refine hpa_iconst (by rfl) rfl ?_
              refine hpj_iadd (by rfl) rfl hk_1 (by omega) (by omega) (fun z9 ez9 => ?_)
              refine hpj_putI (by rfl) (by rfl) (by rfl) (by rfl) (fun A10 eA10 fA10 => ?_)
              have BA10 := B1.up (k := 12) eA10 fA10 (by omega) (by omega)
              have RA10 := R1.opn (od' := od + 1) eA10 fA10 (by omega)
              have f0A10 := BA10.2.2.2
              have nxA10 := BA10.2.1
              have rdA10 := RA10.2.2.1
              have XA10 := X1.up (q := 12) eA10 fA10 (by omega)
              have FRA10 := FR1.up (q := 12) eA10 fA10 (by omega)
              refine hpa_aload_n (by rfl) rfl ?_
              refine hpa_call0 (by rfl) (by rfl) (by rfl) (by rfl) (by rfl) (by rfl) (hP147 BA10 RA10 (hu1.trans (hqu_o (by omega) (by omega)))) ?_
              rintro _ A11 ⟨rfl, (⟨B_A11, R_A11, Q_A11, G_A11⟩ | F_A11)⟩
              ·
                have f0_A11 := B_A11.2.2.2
                have nx_A11 := B_A11.2.1
                have rd_A11 := R_A11.2.2.1
                have XA11 := XA10.Q Q_A11
                have FRA11 := FRA10.Q Q_A11
                have GO : hg_q K V E (t1 + 1) = (dd, kk, oc, 31 :: ww) := by rw [G_A11, G1, ue1]; exact hg_un31 (by omega)
                refine hpa_aload_n (by rfl) rfl ?_
                refine hpa_get (v := .ref 393) (by rfl) (by rfl) (by rfl) rfl ?_
                refine hpa_aload_n (by rfl) rfl ?_
                refine hpj_getK (by rfl) (by rfl) (by rfl) rfl ?_
                refine hpa_bipush (by rfl) rfl ?_
                refine hpx_iast (by rfl) (by rfl) (fun A12 h0A12 h1A12 eA12 fA12 gA12 => ?_)
                have BA12 := B_A11.ar eA12 fA12 gA12 (by omega)
                have RA12 := R_A11.ar eA12 fA12 gA12 (by omega)
                have f0A12 := BA12.2.2.2
                have nxA12 := BA12.2.1
                have rdA12 := RA12.2.2.1
                have FRA12 := FRA11.wt eA12 fA12
                refine hpa_aload_n (by rfl) rfl ?_
                refine hpa_dupR (by rfl) ?_
                refine hpj_getK (by rfl) (by rfl) (by rfl) (hkA eA12 rfl) ?_
                refine hpa_iconst (by rfl) rfl ?_
                refine hpj_iadd (by rfl) rfl hk_1 (by omega) (by omega) (fun z13 ez13 => ?_)
                refine hpj_putI (by rfl) (by rfl) (by rfl) (by rfl) (fun A14 eA14 fA14 => ?_)
                have BA14 := BA12.up (k := 41) eA14 fA14 (by omega) (by omega)
                have RA14 := RA12.up (k := 41) eA14 fA14 (by omega)
                have f0A14 := BA14.2.2.2
                have nxA14 := BA14.2.1
                have rdA14 := RA14.2.2.1
                have hwl := XA11.2.2.1
                have XA14 := XA11.push (x := 31) (by have := hn_cn (j := (A11.1 367 41)) (by omega); omega) eA12 fA12 eA14 fA14 (by omega) (by rw [hk_6]; unfold hmK; omega) (by omega)
                have FRA14 := FRA12.up eA14 fA14 (by omega)
                have CT31 : hg_ct (31 :: ww) = od + 1 := by show hg_ct ww + 1 = _; rw [CT1]
                refine hpa_goto (by rfl) ?_
                exact ih23 x23_1 x23_2 A14 (by omega) (Or.inl ⟨_, _, _, _, _, by omega, BA14, RA14, rfl, by omega, (fun _ => rfl), GO, XA14, FRA14, CT31⟩)
              ·
                have fp_A11 := F_A11.pos
                refine hpa_aload_n (by rfl) rfl ?_
                refine hpa_get (v := .ref 393) (by rfl) (by rfl) (by rfl) rfl ?_
                refine hpa_aload_n (by rfl) rfl ?_
                refine hpj_getK (by rfl) (by rfl) (by rfl) rfl ?_
                refine hpa_bipush (by rfl) rfl ?_
                refine hpx_iast (by rfl) (by rfl) (fun A15 h0A15 h1A15 eA15 fA15 gA15 => ?_)
                have FA15 := F_A11.ar eA15 gA15
                have fpA15 := FA15.pos
                refine hpa_aload_n (by rfl) rfl ?_
                refine hpa_dupR (by rfl) ?_
                refine hpj_getK (by rfl) (by rfl) (by rfl) (hkA eA15 rfl) ?_
                refine hpa_iconst (by rfl) rfl ?_
                refine hpj_iaddU (by rfl) (fun z16 => ?_)
                refine hpj_putI (by rfl) (by rfl) (by rfl) (by rfl) (fun A17 eA17 fA17 => ?_)
                have FA17 := FA15.up (k := 41) eA17 fA17 (by omega)
                have fpA17 := FA17.pos
                refine hpa_goto (by rfl) ?_
                exact ih23 x23_1 x23_2 A17 (by omega) (Or.inr FA17)
            ·
              refine hpa_aload_n (by rfl) rfl ?_
              refine hpa_iconst (by rfl) rfl ?_
              refine hpa_call0 (by rfl) (by rfl) (by rfl) (by rfl) (by rfl) (by rfl) (hP145 (Int32.ofNat 2) B1 ⟨_, B1.2.2.1, hu1.trans (hqu_6 (by omega) (by omega))⟩ (by decide) hk_2) ?_
              rintro _ A18 ⟨rfl, F_A18⟩
              have fp_A18 := F_A18.pos
              refine hpa_aload_n (by rfl) rfl ?_
              refine hpa_dupR (by rfl) ?_
              refine hpj_getK (by rfl) (by rfl) (by rfl) rfl ?_
              refine hpa_iconst (by rfl) rfl ?_
              refine hpj_iaddU (by rfl) (fun z19 => ?_)
              refine hpj_putI (by rfl) (by rfl) (by rfl) (by rfl) (fun A20 eA20 fA20 => ?_)
              have FA20 := F_A18.up (k := 12) eA20 fA20 (by omega)
              have fpA20 := FA20.pos
              refine hpa_aload_n (by rfl) rfl ?_
              refine hpa_call0 (by rfl) (by rfl) (by rfl) (by rfl) (by rfl) (by rfl) (hP147d FA20) ?_
              rintro _ A21 ⟨rfl, F_A21⟩
              have fp_A21 := F_A21.pos
              refine hpa_aload_n (by rfl) rfl ?_
              refine hpa_get (v := .ref 393) (by rfl) (by rfl) (by rfl) rfl ?_
              refine hpa_aload_n (by rfl) rfl ?_
              refine hpj_getK (by rfl) (by rfl) (by rfl) rfl ?_
              refine hpa_bipush (by rfl) rfl ?_
              refine hpx_iast (by rfl) (by rfl) (fun A22 h0A22 h1A22 eA22 fA22 gA22 => ?_)
              have FA22 := F_A21.ar eA22 gA22
              have fpA22 := FA22.pos
              refine hpa_aload_n (by rfl) rfl ?_
              refine hpa_dupR (by rfl) ?_
              refine hpj_getK (by rfl) (by rfl) (by rfl) (hkA eA22 rfl) ?_
              refine hpa_iconst (by rfl) rfl ?_
              refine hpj_iaddU (by rfl) (fun z23 => ?_)
              refine hpj_putI (by rfl) (by rfl) (by rfl) (by rfl) (fun A24 eA24 fA24 => ?_)
              have FA24 := FA22.up (k := 41) eA24 fA24 (by omega)
              have fpA24 := FA24.pos
              refine hpa_goto (by rfl) ?_
              exact ih23 x23_1 x23_2 A24 (by omega) (Or.inr FA24)
          ·
            refine hpj_zeq (by rfl) rfl (fun q25 => ?_) (fun q25 => False.elim (by omega))
            refine hpa_aload_n (by rfl) rfl ?_
            refine hpa_call0 (by rfl) (by rfl) (by rfl) (by rfl) (by rfl) (by rfl) (hP162 B1 R1 hu1 (by omega) G1 ue1 X1) ?_
            rintro _ A26 ⟨rfl, (⟨B_A26, R_A26, UX_A26⟩ | F_A26)⟩
            ·
              have f0_A26 := B_A26.2.2.2
              have nx_A26 := B_A26.2.1
              have rd_A26 := R_A26.2.2.1
              obtain ⟨oc5, GU, XU, FU⟩ := UX_A26
              have FRU := FR1.trans FU
              refine hpa_aload_n (by rfl) rfl ?_
              refine hpj_getK (by rfl) (by rfl) (by rfl) rfl ?_
              refine hpj_zle (by rfl) rfl (fun q27 => ?_) (fun q27 => False.elim (by omega))
              exact ih96 x23_1 x23_2 A26 (by omega) (Or.inl ⟨_, _, _, _, by omega, B_A26, R_A26, by omega, GU, XU, FRU, CT1⟩)
            ·
              have fp_A26 := F_A26.pos
              refine hpa_aload_n (by rfl) rfl ?_
              refine hpj_getK (by rfl) (by rfl) (by rfl) rfl ?_
              refine hpj_zle (by rfl) rfl (fun q28 => False.elim (by omega)) (fun q28 => ?_)
              exact hpa_return (by rfl) rfl (hP _ _ ⟨rfl, Or.inr F_A26⟩)
        ·
          have fp1 := F1.pos
          refine hpa_aload_nS (by rfl) rfl ?_
          refine hpa_bipush (by rfl) rfl ?_
          refine hpa_call0 (by rfl) (by rfl) (by rfl) (by rfl) (by rfl) (by rfl) (hP144d (Int32.ofNat 6) F1) ?_
          rintro _ _ ⟨rfl, z30, rfl, fz_A29⟩
          refine hpj_zeq (by rfl) rfl (fun q31 => ?_) (fun q31 => False.elim (by omega))
          refine hpa_aload_n (by rfl) rfl ?_
          refine hpa_call0 (by rfl) (by rfl) (by rfl) (by rfl) (by rfl) (by rfl) (hP162d F1) ?_
          rintro _ A32 ⟨rfl, F_A32⟩
          have fp_A32 := F_A32.pos
          refine hpa_aload_n (by rfl) rfl ?_
          refine hpj_getK (by rfl) (by rfl) (by rfl) rfl ?_
          refine hpj_zle (by rfl) rfl (fun q33 => False.elim (by omega)) (fun q33 => ?_)
          exact hpa_return (by rfl) rfl (hP _ _ ⟨rfl, Or.inr F_A32⟩)
      ·
        intro x96_1 x96_2 A96 lb D96
        rcases D96 with ⟨t1, od, oc, ww, lt1, B1, R1, h6, G1, X1, FR1, CT1⟩ | F1
        ·
          have f01 := B1.2.2.2
          have nx1 := B1.2.1
          have rd1 := R1.2.2.1
          have h41 := B1.at.1
          have j7 := B1.i7 hk_7
          have j8 := B1.i8 hk_8
          have j9 := B1.i9 hk_9
          have j10 := B1.i10 hk_10
          have j15 := B1.i15 hk_15
          refine hpa_aload_nS (by rfl) rfl ?_
          refine hpa_bipush (by rfl) rfl ?_
          refine hpa_call0 (by rfl) (by rfl) (by rfl) (by rfl) (by rfl) (by rfl) (hP144 (Int32.ofNat 7) B1) ?_
          rintro _ _ ⟨rfl, z35, rfl, (⟨fz_A34, e_A34⟩ | ⟨fz_A34, ne_A34⟩)⟩
          ·
            refine hpj_zeq (by rfl) rfl (fun q36 => False.elim (by omega)) (fun q36 => ?_)
            refine hpa_aload_n (by rfl) rfl ?_
            refine hpj_getK (by rfl) (by rfl) (by rfl) rfl ?_
            refine hpa_iload_n (by rfl) rfl ?_
            refine hpj_cle (by rfl) rfl rfl (fun q37 => ?_) (fun q37 => ?_)
            ·
              refine hpa_aload_n (by rfl) rfl ?_
              refine hpa_bipush (by rfl) rfl ?_
              refine hpa_call0 (by rfl) (by rfl) (by rfl) (by rfl) (by rfl) (by rfl) (hP144 (Int32.ofNat 8) B1) ?_
              rintro _ _ ⟨rfl, z39, rfl, (⟨fz_A38, e_A38⟩ | ⟨fz_A38, ne_A38⟩)⟩
              ·
                refine hpj_zne (by rfl) rfl (fun q40 => ?_) (fun q40 => False.elim (by omega))
                refine hpa_iconst (by rfl) rfl ?_
                refine hpa_goto (by rfl) ?_
                refine hpa_s1 (by rfl) (Or.inl ⟨_, rfl, rfl⟩) rfl ?_
                refine hpa_iload_n (by rfl) rfl ?_
                refine hpj_zne (by rfl) hk_1 (fun q41 => ?_) (fun q41 => False.elim (by omega))
                refine hpa_aload_n (by rfl) rfl ?_
                refine hpa_aload_n (by rfl) rfl ?_
                refine hpa_bipush (by rfl) rfl ?_
                refine hpa_call0 (by rfl) (by rfl) (by rfl) (by rfl) (by rfl) (by rfl) (hP144 (Int32.ofNat 10) B1) ?_
                rintro _ _ ⟨rfl, z43, rfl, (⟨fz_A42, e_A42⟩ | ⟨fz_A42, ne_A42⟩)⟩
                ·
                  refine hpj_zne (by rfl) rfl (fun q44 => ?_) (fun q44 => False.elim (by omega))
                  refine hpa_iconst (by rfl) rfl ?_
                  refine hpa_goto (by rfl) ?_
                  obtain ⟨o3, w3, E3⟩ : ∃ o3 w3, hg_fl true oc ww = (o3, w3) := ⟨_, _, rfl⟩
                  refine hpa_call0 (by rfl) (by rfl) (by rfl) (by rfl) (by rfl) (by rfl) (hP160 (st := true) (Int32.ofNat 1) X1 E3 (Or.inl ⟨hk_1, rfl⟩)) ?_
                  rintro _ A45 ⟨rfl, W_A45, X_A45, FR_A45⟩
                  have BWA45 := B1.W W_A45
                  have RWA45 := R1.W W_A45
                  have f0WA45 := BWA45.2.2.2
                  have nxWA45 := BWA45.2.1
                  have rdWA45 := RWA45.2.2.1
                  have FRxA45 := FR1.trans FR_A45
                  refine hpa_aload_n (by rfl) rfl ?_
                  refine hpa_get (v := .ref 393) (by rfl) (by rfl) (by rfl) rfl ?_
                  refine hpa_aload_n (by rfl) rfl ?_
                  refine hpj_getK (by rfl) (by rfl) (by rfl) rfl ?_
                  refine hpa_aload_n (by rfl) rfl ?_
                  refine hpa_get (v := .ref 371) (by rfl) (by rfl) (by rfl) rfl ?_
                  refine hpa_aload_n (by rfl) rfl ?_
                  refine hpj_getK (by rfl) (by rfl) (by rfl) rfl ?_
                  refine hpx_iald (by rfl) (by rfl) (fun h0v46 h1v46 v46 ev46 => ?_)
                  rw [BWA45.at.2.2.1] at ev46
                  refine hpx_iast (by rfl) (by rfl) (fun A47 h0A47 h1A47 eA47 fA47 gA47 => ?_)
                  have BA47 := BWA45.ar eA47 fA47 gA47 (by omega)
                  have RA47 := RWA45.ar eA47 fA47 gA47 (by omega)
                  have f0A47 := BA47.2.2.2
                  have nxA47 := BA47.2.1
                  have rdA47 := RA47.2.2.1
                  have FRA47 := FRxA45.wt eA47 fA47
                  refine hpa_aload_n (by rfl) rfl ?_
                  refine hpa_dupR (by rfl) ?_
                  refine hpj_getK (by rfl) (by rfl) (by rfl) (hkA eA47 rfl) ?_
                  refine hpa_iconst (by rfl) rfl ?_
                  refine hpj_iadd (by rfl) rfl hk_1 (by omega) (by omega) (fun z48 ez48 => ?_)
                  refine hpj_putI (by rfl) (by rfl) (by rfl) (by rfl) (fun A49 eA49 fA49 => ?_)
                  have BA49 := BA47.up (k := 41) eA49 fA49 (by omega) (by omega)
                  have RA49 := RA47.up (k := 41) eA49 fA49 (by omega)
                  have f0A49 := BA49.2.2.2
                  have nxA49 := BA49.2.1
                  have rdA49 := RA49.2.2.1
                  have hwl := X_A45.2.2.1
                  have XA49 := X_A45.push (x := (K t1).toNat) (by have := hn_cn (j := (A45.1 367 41)) (by omega); omega) eA47 fA47 eA49 fA49 (by omega) (by rw [← ev46, show (((K t1).toNat : Nat) : Int) = K t1 by omega]; exact BWA45.at.2.2.2.1) (by omega)
                  have FRA49 := FRA47.up eA49 fA49 (by omega)
                  refine hpa_aload_n (by rfl) rfl ?_
                  refine hpa_call0 (by rfl) (by rfl) (by rfl) (by rfl) (by rfl) (by rfl) (hP147 BA49 RA49 (hqd15_op (by omega))) ?_
                  rintro _ A50 ⟨rfl, (⟨B_A50, R_A50, Q_A50, G_A50⟩ | F_A50)⟩
                  ·
                    have f0_A50 := B_A50.2.2.2
                    have nx_A50 := B_A50.2.1
                    have rd_A50 := R_A50.2.2.1
                    have XA50 := XA49.Q Q_A50
                    have FRA50 := FRA49.Q Q_A50
                    have hXo : K t1 = (((K t1).toNat : Nat) : Int) := by omega
                    have GO : hg_q K V E (t1 + 1) = (dd, kk, o3, (K t1).toNat :: w3) := by rw [G_A50, G1]; exact hg_dop hXo (by omega) (by omega) (by rw [decide_eq_true (by omega)]; exact E3)
                    have CTO : hg_ct ((K t1).toNat :: w3) = od := by rw [hg_ct_op (by omega), hg_ct_st E3]; exact CT1
                    refine hpa_goto (by rfl) ?_
                    exact ih12 x96_1 (Int32.ofNat 1) A50 (by omega) (by omega) (Or.inl ⟨_, _, _, _, _, by omega, B_A50, R_A50, rfl, by omega, (fun _ => rfl), GO, XA50, FRA50, CTO⟩)
                  ·
                    have fp_A50 := F_A50.pos
                    refine hpa_goto (by rfl) ?_
                    exact ih12 x96_1 (Int32.ofNat 1) A50 (by omega) (by omega) (Or.inr F_A50)
                ·
                  refine hpj_zne (by rfl) rfl (fun q51 => False.elim (by omega)) (fun q51 => ?_)
                  refine hpa_aload_n (by rfl) rfl ?_
                  refine hpa_bipush (by rfl) rfl ?_
                  refine hpa_call0 (by rfl) (by rfl) (by rfl) (by rfl) (by rfl) (by rfl) (hP144 (Int32.ofNat 15) B1) ?_
                  rintro _ _ ⟨rfl, z53, rfl, (⟨fz_A52, e_A52⟩ | ⟨fz_A52, ne_A52⟩)⟩
                  ·
                    refine hpj_zeq (by rfl) rfl (fun q54 => False.elim (by omega)) (fun q54 => ?_)
                    refine hpa_iconst (by rfl) rfl ?_
                    refine hpa_goto (by rfl) ?_
                    obtain ⟨o3, w3, E3⟩ : ∃ o3 w3, hg_fl true oc ww = (o3, w3) := ⟨_, _, rfl⟩
                    refine hpa_call0 (by rfl) (by rfl) (by rfl) (by rfl) (by rfl) (by rfl) (hP160 (st := true) (Int32.ofNat 1) X1 E3 (Or.inl ⟨hk_1, rfl⟩)) ?_
                    rintro _ A55 ⟨rfl, W_A55, X_A55, FR_A55⟩
                    have BWA55 := B1.W W_A55
                    have RWA55 := R1.W W_A55
                    have f0WA55 := BWA55.2.2.2
                    have nxWA55 := BWA55.2.1
                    have rdWA55 := RWA55.2.2.1
                    have FRxA55 := FR1.trans FR_A55
                    refine hpa_aload_n (by rfl) rfl ?_
                    refine hpa_get (v := .ref 393) (by rfl) (by rfl) (by rfl) rfl ?_
                    refine hpa_aload_n (by rfl) rfl ?_
                    refine hpj_getK (by rfl) (by rfl) (by rfl) rfl ?_
                    refine hpa_aload_n (by rfl) rfl ?_
                    refine hpa_get (v := .ref 371) (by rfl) (by rfl) (by rfl) rfl ?_
                    refine hpa_aload_n (by rfl) rfl ?_
                    refine hpj_getK (by rfl) (by rfl) (by rfl) rfl ?_
                    refine hpx_iald (by rfl) (by rfl) (fun h0v56 h1v56 v56 ev56 => ?_)
                    rw [BWA55.at.2.2.1] at ev56
                    refine hpx_iast (by rfl) (by rfl) (fun A57 h0A57 h1A57 eA57 fA57 gA57 => ?_)
                    have BA57 := BWA55.ar eA57 fA57 gA57 (by omega)
                    have RA57 := RWA55.ar eA57 fA57 gA57 (by omega)
                    have f0A57 := BA57.2.2.2
                    have nxA57 := BA57.2.1
                    have rdA57 := RA57.2.2.1
                    have FRA57 := FRxA55.wt eA57 fA57
                    refine hpa_aload_n (by rfl) rfl ?_
                    refine hpa_dupR (by rfl) ?_
                    refine hpj_getK (by rfl) (by rfl) (by rfl) (hkA eA57 rfl) ?_
                    refine hpa_iconst (by rfl) rfl ?_
                    refine hpj_iadd (by rfl) rfl hk_1 (by omega) (by omega) (fun z58 ez58 => ?_)
                    refine hpj_putI (by rfl) (by rfl) (by rfl) (by rfl) (fun A59 eA59 fA59 => ?_)
                    have BA59 := BA57.up (k := 41) eA59 fA59 (by omega) (by omega)
                    have RA59 := RA57.up (k := 41) eA59 fA59 (by omega)
                    have f0A59 := BA59.2.2.2
                    have nxA59 := BA59.2.1
                    have rdA59 := RA59.2.2.1
                    have hwl := X_A55.2.2.1
                    have XA59 := X_A55.push (x := (K t1).toNat) (by have := hn_cn (j := (A55.1 367 41)) (by omega); omega) eA57 fA57 eA59 fA59 (by omega) (by rw [← ev56, show (((K t1).toNat : Nat) : Int) = K t1 by omega]; exact BWA55.at.2.2.2.1) (by omega)
                    have FRA59 := FRA57.up eA59 fA59 (by omega)
                    refine hpa_aload_n (by rfl) rfl ?_
                    refine hpa_call0 (by rfl) (by rfl) (by rfl) (by rfl) (by rfl) (by rfl) (hP147 BA59 RA59 (hqd15_op (by omega))) ?_
                    rintro _ A60 ⟨rfl, (⟨B_A60, R_A60, Q_A60, G_A60⟩ | F_A60)⟩
                    ·
                      have f0_A60 := B_A60.2.2.2
                      have nx_A60 := B_A60.2.1
                      have rd_A60 := R_A60.2.2.1
                      have XA60 := XA59.Q Q_A60
                      have FRA60 := FRA59.Q Q_A60
                      have hXo : K t1 = (((K t1).toNat : Nat) : Int) := by omega
                      have GO : hg_q K V E (t1 + 1) = (dd, kk, o3, (K t1).toNat :: w3) := by rw [G_A60, G1]; exact hg_dop hXo (by omega) (by omega) (by rw [decide_eq_true (by omega)]; exact E3)
                      have CTO : hg_ct ((K t1).toNat :: w3) = od := by rw [hg_ct_op (by omega), hg_ct_st E3]; exact CT1
                      refine hpa_goto (by rfl) ?_
                      exact ih12 x96_1 (Int32.ofNat 1) A60 (by omega) (by omega) (Or.inl ⟨_, _, _, _, _, by omega, B_A60, R_A60, rfl, by omega, (fun _ => rfl), GO, XA60, FRA60, CTO⟩)
                    ·
                      have fp_A60 := F_A60.pos
                      refine hpa_goto (by rfl) ?_
                      exact ih12 x96_1 (Int32.ofNat 1) A60 (by omega) (by omega) (Or.inr F_A60)
                  ·
                    refine hpj_zeq (by rfl) rfl (fun q61 => ?_) (fun q61 => False.elim (by omega))
                    refine hpa_iconst (by rfl) rfl ?_
                    obtain ⟨o3, w3, E3⟩ : ∃ o3 w3, hg_fl false oc ww = (o3, w3) := ⟨_, _, rfl⟩
                    refine hpa_call0 (by rfl) (by rfl) (by rfl) (by rfl) (by rfl) (by rfl) (hP160 (st := false) (Int32.ofNat 0) X1 E3 (Or.inr ⟨hk_0, rfl⟩)) ?_
                    rintro _ A62 ⟨rfl, W_A62, X_A62, FR_A62⟩
                    have BWA62 := B1.W W_A62
                    have RWA62 := R1.W W_A62
                    have f0WA62 := BWA62.2.2.2
                    have nxWA62 := BWA62.2.1
                    have rdWA62 := RWA62.2.2.1
                    have FRxA62 := FR1.trans FR_A62
                    refine hpa_aload_n (by rfl) rfl ?_
                    refine hpa_get (v := .ref 393) (by rfl) (by rfl) (by rfl) rfl ?_
                    refine hpa_aload_n (by rfl) rfl ?_
                    refine hpj_getK (by rfl) (by rfl) (by rfl) rfl ?_
                    refine hpa_aload_n (by rfl) rfl ?_
                    refine hpa_get (v := .ref 371) (by rfl) (by rfl) (by rfl) rfl ?_
                    refine hpa_aload_n (by rfl) rfl ?_
                    refine hpj_getK (by rfl) (by rfl) (by rfl) rfl ?_
                    refine hpx_iald (by rfl) (by rfl) (fun h0v63 h1v63 v63 ev63 => ?_)
                    rw [BWA62.at.2.2.1] at ev63
                    refine hpx_iast (by rfl) (by rfl) (fun A64 h0A64 h1A64 eA64 fA64 gA64 => ?_)
                    have BA64 := BWA62.ar eA64 fA64 gA64 (by omega)
                    have RA64 := RWA62.ar eA64 fA64 gA64 (by omega)
                    have f0A64 := BA64.2.2.2
                    have nxA64 := BA64.2.1
                    have rdA64 := RA64.2.2.1
                    have FRA64 := FRxA62.wt eA64 fA64
                    refine hpa_aload_n (by rfl) rfl ?_
                    refine hpa_dupR (by rfl) ?_
                    refine hpj_getK (by rfl) (by rfl) (by rfl) (hkA eA64 rfl) ?_
                    refine hpa_iconst (by rfl) rfl ?_
                    refine hpj_iadd (by rfl) rfl hk_1 (by omega) (by omega) (fun z65 ez65 => ?_)
                    refine hpj_putI (by rfl) (by rfl) (by rfl) (by rfl) (fun A66 eA66 fA66 => ?_)
                    have BA66 := BA64.up (k := 41) eA66 fA66 (by omega) (by omega)
                    have RA66 := RA64.up (k := 41) eA66 fA66 (by omega)
                    have f0A66 := BA66.2.2.2
                    have nxA66 := BA66.2.1
                    have rdA66 := RA66.2.2.1
                    have hwl := X_A62.2.2.1
                    have XA66 := X_A62.push (x := (K t1).toNat) (by have := hn_cn (j := (A62.1 367 41)) (by omega); omega) eA64 fA64 eA66 fA66 (by omega) (by rw [← ev63, show (((K t1).toNat : Nat) : Int) = K t1 by omega]; exact BWA62.at.2.2.2.1) (by omega)
                    have FRA66 := FRA64.up eA66 fA66 (by omega)
                    refine hpa_aload_n (by rfl) rfl ?_
                    refine hpa_call0 (by rfl) (by rfl) (by rfl) (by rfl) (by rfl) (by rfl) (hP147 BA66 RA66 (hqd15_op (by omega))) ?_
                    rintro _ A67 ⟨rfl, (⟨B_A67, R_A67, Q_A67, G_A67⟩ | F_A67)⟩
                    ·
                      have f0_A67 := B_A67.2.2.2
                      have nx_A67 := B_A67.2.1
                      have rd_A67 := R_A67.2.2.1
                      have XA67 := XA66.Q Q_A67
                      have FRA67 := FRA66.Q Q_A67
                      have hXo : K t1 = (((K t1).toNat : Nat) : Int) := by omega
                      have GO : hg_q K V E (t1 + 1) = (dd, kk, o3, (K t1).toNat :: w3) := by rw [G_A67, G1]; exact hg_dop hXo (by omega) (by omega) (by rw [decide_eq_false (by omega)]; exact E3)
                      have CTO : hg_ct ((K t1).toNat :: w3) = od := by rw [hg_ct_op (by omega), hg_ct_st E3]; exact CT1
                      refine hpa_goto (by rfl) ?_
                      exact ih12 x96_1 (Int32.ofNat 1) A67 (by omega) (by omega) (Or.inl ⟨_, _, _, _, _, by omega, B_A67, R_A67, rfl, by omega, (fun _ => rfl), GO, XA67, FRA67, CTO⟩)
                    ·
                      have fp_A67 := F_A67.pos
                      refine hpa_goto (by rfl) ?_
                      exact ih12 x96_1 (Int32.ofNat 1) A67 (by omega) (by omega) (Or.inr F_A67)
              ·
                refine hpj_zne (by rfl) rfl (fun q68 => False.elim (by omega)) (fun q68 => ?_)
                refine hpa_aload_n (by rfl) rfl ?_
                refine hpa_bipush (by rfl) rfl ?_
                refine hpa_call0 (by rfl) (by rfl) (by rfl) (by rfl) (by rfl) (by rfl) (hP144 (Int32.ofNat 9) B1) ?_
                rintro _ _ ⟨rfl, z70, rfl, (⟨fz_A69, e_A69⟩ | ⟨fz_A69, ne_A69⟩)⟩
                ·
                  refine hpj_zne (by rfl) rfl (fun q71 => ?_) (fun q71 => False.elim (by omega))
                  refine hpa_iconst (by rfl) rfl ?_
                  refine hpa_goto (by rfl) ?_
                  refine hpa_s1 (by rfl) (Or.inl ⟨_, rfl, rfl⟩) rfl ?_
                  refine hpa_iload_n (by rfl) rfl ?_
                  refine hpj_zne (by rfl) hk_1 (fun q72 => ?_) (fun q72 => False.elim (by omega))
                  refine hpa_aload_n (by rfl) rfl ?_
                  refine hpa_aload_n (by rfl) rfl ?_
                  refine hpa_bipush (by rfl) rfl ?_
                  refine hpa_call0 (by rfl) (by rfl) (by rfl) (by rfl) (by rfl) (by rfl) (hP144 (Int32.ofNat 10) B1) ?_
                  rintro _ _ ⟨rfl, z74, rfl, (⟨fz_A73, e_A73⟩ | ⟨fz_A73, ne_A73⟩)⟩
                  ·
                    refine hpj_zne (by rfl) rfl (fun q75 => ?_) (fun q75 => False.elim (by omega))
                    refine hpa_iconst (by rfl) rfl ?_
                    refine hpa_goto (by rfl) ?_
                    obtain ⟨o3, w3, E3⟩ : ∃ o3 w3, hg_fl true oc ww = (o3, w3) := ⟨_, _, rfl⟩
                    refine hpa_call0 (by rfl) (by rfl) (by rfl) (by rfl) (by rfl) (by rfl) (hP160 (st := true) (Int32.ofNat 1) X1 E3 (Or.inl ⟨hk_1, rfl⟩)) ?_
                    rintro _ A76 ⟨rfl, W_A76, X_A76, FR_A76⟩
                    have BWA76 := B1.W W_A76
                    have RWA76 := R1.W W_A76
                    have f0WA76 := BWA76.2.2.2
                    have nxWA76 := BWA76.2.1
                    have rdWA76 := RWA76.2.2.1
                    have FRxA76 := FR1.trans FR_A76
                    refine hpa_aload_n (by rfl) rfl ?_
                    refine hpa_get (v := .ref 393) (by rfl) (by rfl) (by rfl) rfl ?_
                    refine hpa_aload_n (by rfl) rfl ?_
                    refine hpj_getK (by rfl) (by rfl) (by rfl) rfl ?_
                    refine hpa_aload_n (by rfl) rfl ?_
                    refine hpa_get (v := .ref 371) (by rfl) (by rfl) (by rfl) rfl ?_
                    refine hpa_aload_n (by rfl) rfl ?_
                    refine hpj_getK (by rfl) (by rfl) (by rfl) rfl ?_
                    refine hpx_iald (by rfl) (by rfl) (fun h0v77 h1v77 v77 ev77 => ?_)
                    rw [BWA76.at.2.2.1] at ev77
                    refine hpx_iast (by rfl) (by rfl) (fun A78 h0A78 h1A78 eA78 fA78 gA78 => ?_)
                    have BA78 := BWA76.ar eA78 fA78 gA78 (by omega)
                    have RA78 := RWA76.ar eA78 fA78 gA78 (by omega)
                    have f0A78 := BA78.2.2.2
                    have nxA78 := BA78.2.1
                    have rdA78 := RA78.2.2.1
                    have FRA78 := FRxA76.wt eA78 fA78
                    refine hpa_aload_n (by rfl) rfl ?_
                    refine hpa_dupR (by rfl) ?_
                    refine hpj_getK (by rfl) (by rfl) (by rfl) (hkA eA78 rfl) ?_
                    refine hpa_iconst (by rfl) rfl ?_
                    refine hpj_iadd (by rfl) rfl hk_1 (by omega) (by omega) (fun z79 ez79 => ?_)
                    refine hpj_putI (by rfl) (by rfl) (by rfl) (by rfl) (fun A80 eA80 fA80 => ?_)
                    have BA80 := BA78.up (k := 41) eA80 fA80 (by omega) (by omega)
                    have RA80 := RA78.up (k := 41) eA80 fA80 (by omega)
                    have f0A80 := BA80.2.2.2
                    have nxA80 := BA80.2.1
                    have rdA80 := RA80.2.2.1
                    have hwl := X_A76.2.2.1
                    have XA80 := X_A76.push (x := (K t1).toNat) (by have := hn_cn (j := (A76.1 367 41)) (by omega); omega) eA78 fA78 eA80 fA80 (by omega) (by rw [← ev77, show (((K t1).toNat : Nat) : Int) = K t1 by omega]; exact BWA76.at.2.2.2.1) (by omega)
                    have FRA80 := FRA78.up eA80 fA80 (by omega)
                    refine hpa_aload_n (by rfl) rfl ?_
                    refine hpa_call0 (by rfl) (by rfl) (by rfl) (by rfl) (by rfl) (by rfl) (hP147 BA80 RA80 (hqd15_op (by omega))) ?_
                    rintro _ A81 ⟨rfl, (⟨B_A81, R_A81, Q_A81, G_A81⟩ | F_A81)⟩
                    ·
                      have f0_A81 := B_A81.2.2.2
                      have nx_A81 := B_A81.2.1
                      have rd_A81 := R_A81.2.2.1
                      have XA81 := XA80.Q Q_A81
                      have FRA81 := FRA80.Q Q_A81
                      have hXo : K t1 = (((K t1).toNat : Nat) : Int) := by omega
                      have GO : hg_q K V E (t1 + 1) = (dd, kk, o3, (K t1).toNat :: w3) := by rw [G_A81, G1]; exact hg_dop hXo (by omega) (by omega) (by rw [decide_eq_true (by omega)]; exact E3)
                      have CTO : hg_ct ((K t1).toNat :: w3) = od := by rw [hg_ct_op (by omega), hg_ct_st E3]; exact CT1
                      refine hpa_goto (by rfl) ?_
                      exact ih12 x96_1 (Int32.ofNat 1) A81 (by omega) (by omega) (Or.inl ⟨_, _, _, _, _, by omega, B_A81, R_A81, rfl, by omega, (fun _ => rfl), GO, XA81, FRA81, CTO⟩)
                    ·
                      have fp_A81 := F_A81.pos
                      refine hpa_goto (by rfl) ?_
                      exact ih12 x96_1 (Int32.ofNat 1) A81 (by omega) (by omega) (Or.inr F_A81)
                  ·
                    refine hpj_zne (by rfl) rfl (fun q82 => False.elim (by omega)) (fun q82 => ?_)
                    refine hpa_aload_n (by rfl) rfl ?_
                    refine hpa_bipush (by rfl) rfl ?_
                    refine hpa_call0 (by rfl) (by rfl) (by rfl) (by rfl) (by rfl) (by rfl) (hP144 (Int32.ofNat 15) B1) ?_
                    rintro _ _ ⟨rfl, z84, rfl, (⟨fz_A83, e_A83⟩ | ⟨fz_A83, ne_A83⟩)⟩
                    ·
                      refine hpj_zeq (by rfl) rfl (fun q85 => False.elim (by omega)) (fun q85 => ?_)
                      refine hpa_iconst (by rfl) rfl ?_
                      refine hpa_goto (by rfl) ?_
                      obtain ⟨o3, w3, E3⟩ : ∃ o3 w3, hg_fl true oc ww = (o3, w3) := ⟨_, _, rfl⟩
                      refine hpa_call0 (by rfl) (by rfl) (by rfl) (by rfl) (by rfl) (by rfl) (hP160 (st := true) (Int32.ofNat 1) X1 E3 (Or.inl ⟨hk_1, rfl⟩)) ?_
                      rintro _ A86 ⟨rfl, W_A86, X_A86, FR_A86⟩
                      have BWA86 := B1.W W_A86
                      have RWA86 := R1.W W_A86
                      have f0WA86 := BWA86.2.2.2
                      have nxWA86 := BWA86.2.1
                      have rdWA86 := RWA86.2.2.1
                      have FRxA86 := FR1.trans FR_A86
                      refine hpa_aload_n (by rfl) rfl ?_
                      refine hpa_get (v := .ref 393) (by rfl) (by rfl) (by rfl) rfl ?_
                      refine hpa_aload_n (by rfl) rfl ?_
                      refine hpj_getK (by rfl) (by rfl) (by rfl) rfl ?_
                      refine hpa_aload_n (by rfl) rfl ?_
                      refine hpa_get (v := .ref 371) (by rfl) (by rfl) (by rfl) rfl ?_
                      refine hpa_aload_n (by rfl) rfl ?_
                      refine hpj_getK (by rfl) (by rfl) (by rfl) rfl ?_
                      refine hpx_iald (by rfl) (by rfl) (fun h0v87 h1v87 v87 ev87 => ?_)
                      rw [BWA86.at.2.2.1] at ev87
                      refine hpx_iast (by rfl) (by rfl) (fun A88 h0A88 h1A88 eA88 fA88 gA88 => ?_)
                      have BA88 := BWA86.ar eA88 fA88 gA88 (by omega)
                      have RA88 := RWA86.ar eA88 fA88 gA88 (by omega)
                      have f0A88 := BA88.2.2.2
                      have nxA88 := BA88.2.1
                      have rdA88 := RA88.2.2.1
                      have FRA88 := FRxA86.wt eA88 fA88
                      refine hpa_aload_n (by rfl) rfl ?_
                      refine hpa_dupR (by rfl) ?_
                      refine hpj_getK (by rfl) (by rfl) (by rfl) (hkA eA88 rfl) ?_
                      refine hpa_iconst (by rfl) rfl ?_
                      refine hpj_iadd (by rfl) rfl hk_1 (by omega) (by omega) (fun z89 ez89 => ?_)
                      refine hpj_putI (by rfl) (by rfl) (by rfl) (by rfl) (fun A90 eA90 fA90 => ?_)
                      have BA90 := BA88.up (k := 41) eA90 fA90 (by omega) (by omega)
                      have RA90 := RA88.up (k := 41) eA90 fA90 (by omega)
                      have f0A90 := BA90.2.2.2
                      have nxA90 := BA90.2.1
                      have rdA90 := RA90.2.2.1
                      have hwl := X_A86.2.2.1
                      have XA90 := X_A86.push (x := (K t1).toNat) (by have := hn_cn (j := (A86.1 367 41)) (by omega); omega) eA88 fA88 eA90 fA90 (by omega) (by rw [← ev87, show (((K t1).toNat : Nat) : Int) = K t1 by omega]; exact BWA86.at.2.2.2.1) (by omega)
                      have FRA90 := FRA88.up eA90 fA90 (by omega)
                      refine hpa_aload_n (by rfl) rfl ?_
                      refine hpa_call0 (by rfl) (by rfl) (by rfl) (by rfl) (by rfl) (by rfl) (hP147 BA90 RA90 (hqd15_op (by omega))) ?_
                      rintro _ A91 ⟨rfl, (⟨B_A91, R_A91, Q_A91, G_A91⟩ | F_A91)⟩
                      ·
                        have f0_A91 := B_A91.2.2.2
                        have nx_A91 := B_A91.2.1
                        have rd_A91 := R_A91.2.2.1
                        have XA91 := XA90.Q Q_A91
                        have FRA91 := FRA90.Q Q_A91
                        have hXo : K t1 = (((K t1).toNat : Nat) : Int) := by omega
                        have GO : hg_q K V E (t1 + 1) = (dd, kk, o3, (K t1).toNat :: w3) := by rw [G_A91, G1]; exact hg_dop hXo (by omega) (by omega) (by rw [decide_eq_true (by omega)]; exact E3)
                        have CTO : hg_ct ((K t1).toNat :: w3) = od := by rw [hg_ct_op (by omega), hg_ct_st E3]; exact CT1
                        refine hpa_goto (by rfl) ?_
                        exact ih12 x96_1 (Int32.ofNat 1) A91 (by omega) (by omega) (Or.inl ⟨_, _, _, _, _, by omega, B_A91, R_A91, rfl, by omega, (fun _ => rfl), GO, XA91, FRA91, CTO⟩)
                      ·
                        have fp_A91 := F_A91.pos
                        refine hpa_goto (by rfl) ?_
                        exact ih12 x96_1 (Int32.ofNat 1) A91 (by omega) (by omega) (Or.inr F_A91)
                    ·
                      refine hpj_zeq (by rfl) rfl (fun q92 => ?_) (fun q92 => False.elim (by omega))
                      refine hpa_iconst (by rfl) rfl ?_
                      obtain ⟨o3, w3, E3⟩ : ∃ o3 w3, hg_fl false oc ww = (o3, w3) := ⟨_, _, rfl⟩
                      refine hpa_call0 (by rfl) (by rfl) (by rfl) (by rfl) (by rfl) (by rfl) (hP160 (st := false) (Int32.ofNat 0) X1 E3 (Or.inr ⟨hk_0, rfl⟩)) ?_
                      rintro _ A93 ⟨rfl, W_A93, X_A93, FR_A93⟩
                      have BWA93 := B1.W W_A93
                      have RWA93 := R1.W W_A93
                      have f0WA93 := BWA93.2.2.2
                      have nxWA93 := BWA93.2.1
                      have rdWA93 := RWA93.2.2.1
                      have FRxA93 := FR1.trans FR_A93
                      refine hpa_aload_n (by rfl) rfl ?_
                      refine hpa_get (v := .ref 393) (by rfl) (by rfl) (by rfl) rfl ?_
                      refine hpa_aload_n (by rfl) rfl ?_
                      refine hpj_getK (by rfl) (by rfl) (by rfl) rfl ?_
                      refine hpa_aload_n (by rfl) rfl ?_
                      refine hpa_get (v := .ref 371) (by rfl) (by rfl) (by rfl) rfl ?_
                      refine hpa_aload_n (by rfl) rfl ?_
                      refine hpj_getK (by rfl) (by rfl) (by rfl) rfl ?_
                      refine hpx_iald (by rfl) (by rfl) (fun h0v94 h1v94 v94 ev94 => ?_)
                      rw [BWA93.at.2.2.1] at ev94
                      refine hpx_iast (by rfl) (by rfl) (fun A95 h0A95 h1A95 eA95 fA95 gA95 => ?_)
                      have BA95 := BWA93.ar eA95 fA95 gA95 (by omega)
                      have RA95 := RWA93.ar eA95 fA95 gA95 (by omega)
                      have f0A95 := BA95.2.2.2
                      have nxA95 := BA95.2.1
                      have rdA95 := RA95.2.2.1
                      have FRA95 := FRxA93.wt eA95 fA95
                      refine hpa_aload_n (by rfl) rfl ?_
                      refine hpa_dupR (by rfl) ?_
                      refine hpj_getK (by rfl) (by rfl) (by rfl) (hkA eA95 rfl) ?_
                      refine hpa_iconst (by rfl) rfl ?_
                      refine hpj_iadd (by rfl) rfl hk_1 (by omega) (by omega) (fun z96 ez96 => ?_)
                      refine hpj_putI (by rfl) (by rfl) (by rfl) (by rfl) (fun A97 eA97 fA97 => ?_)
                      have BA97 := BA95.up (k := 41) eA97 fA97 (by omega) (by omega)
                      have RA97 := RA95.up (k := 41) eA97 fA97 (by omega)
                      have f0A97 := BA97.2.2.2
                      have nxA97 := BA97.2.1
                      have rdA97 := RA97.2.2.1
                      have hwl := X_A93.2.2.1
                      have XA97 := X_A93.push (x := (K t1).toNat) (by have := hn_cn (j := (A93.1 367 41)) (by omega); omega) eA95 fA95 eA97 fA97 (by omega) (by rw [← ev94, show (((K t1).toNat : Nat) : Int) = K t1 by omega]; exact BWA93.at.2.2.2.1) (by omega)
                      have FRA97 := FRA95.up eA97 fA97 (by omega)
                      refine hpa_aload_n (by rfl) rfl ?_
                      refine hpa_call0 (by rfl) (by rfl) (by rfl) (by rfl) (by rfl) (by rfl) (hP147 BA97 RA97 (hqd15_op (by omega))) ?_
                      rintro _ A98 ⟨rfl, (⟨B_A98, R_A98, Q_A98, G_A98⟩ | F_A98)⟩
                      ·
                        have f0_A98 := B_A98.2.2.2
                        have nx_A98 := B_A98.2.1
                        have rd_A98 := R_A98.2.2.1
                        have XA98 := XA97.Q Q_A98
                        have FRA98 := FRA97.Q Q_A98
                        have hXo : K t1 = (((K t1).toNat : Nat) : Int) := by omega
                        have GO : hg_q K V E (t1 + 1) = (dd, kk, o3, (K t1).toNat :: w3) := by rw [G_A98, G1]; exact hg_dop hXo (by omega) (by omega) (by rw [decide_eq_false (by omega)]; exact E3)
                        have CTO : hg_ct ((K t1).toNat :: w3) = od := by rw [hg_ct_op (by omega), hg_ct_st E3]; exact CT1
                        refine hpa_goto (by rfl) ?_
                        exact ih12 x96_1 (Int32.ofNat 1) A98 (by omega) (by omega) (Or.inl ⟨_, _, _, _, _, by omega, B_A98, R_A98, rfl, by omega, (fun _ => rfl), GO, XA98, FRA98, CTO⟩)
                      ·
                        have fp_A98 := F_A98.pos
                        refine hpa_goto (by rfl) ?_
                        exact ih12 x96_1 (Int32.ofNat 1) A98 (by omega) (by omega) (Or.inr F_A98)
                ·
                  refine hpj_zne (by rfl) rfl (fun q99 => False.elim (by omega)) (fun q99 => ?_)
                  refine hpa_aload_n (by rfl) rfl ?_
                  refine hpa_bipush (by rfl) rfl ?_
                  refine hpa_call0 (by rfl) (by rfl) (by rfl) (by rfl) (by rfl) (by rfl) (hP144 (Int32.ofNat 10) B1) ?_
                  rintro _ _ ⟨rfl, z101, rfl, (⟨fz_A100, e_A100⟩ | ⟨fz_A100, ne_A100⟩)⟩
                  ·
                    refine hpj_zne (by rfl) rfl (fun q102 => ?_) (fun q102 => False.elim (by omega))
                    refine hpa_iconst (by rfl) rfl ?_
                    refine hpa_goto (by rfl) ?_
                    refine hpa_s1 (by rfl) (Or.inl ⟨_, rfl, rfl⟩) rfl ?_
                    refine hpa_iload_n (by rfl) rfl ?_
                    refine hpj_zne (by rfl) hk_1 (fun q103 => ?_) (fun q103 => False.elim (by omega))
                    refine hpa_aload_n (by rfl) rfl ?_
                    refine hpa_aload_n (by rfl) rfl ?_
                    refine hpa_bipush (by rfl) rfl ?_
                    refine hpa_call0 (by rfl) (by rfl) (by rfl) (by rfl) (by rfl) (by rfl) (hP144 (Int32.ofNat 10) B1) ?_
                    rintro _ _ ⟨rfl, z105, rfl, (⟨fz_A104, e_A104⟩ | ⟨fz_A104, ne_A104⟩)⟩
                    ·
                      refine hpj_zne (by rfl) rfl (fun q106 => ?_) (fun q106 => False.elim (by omega))
                      refine hpa_iconst (by rfl) rfl ?_
                      refine hpa_goto (by rfl) ?_
                      obtain ⟨o3, w3, E3⟩ : ∃ o3 w3, hg_fl true oc ww = (o3, w3) := ⟨_, _, rfl⟩
                      refine hpa_call0 (by rfl) (by rfl) (by rfl) (by rfl) (by rfl) (by rfl) (hP160 (st := true) (Int32.ofNat 1) X1 E3 (Or.inl ⟨hk_1, rfl⟩)) ?_
                      rintro _ A107 ⟨rfl, W_A107, X_A107, FR_A107⟩
                      have BWA107 := B1.W W_A107
                      have RWA107 := R1.W W_A107
                      have f0WA107 := BWA107.2.2.2
                      have nxWA107 := BWA107.2.1
                      have rdWA107 := RWA107.2.2.1
                      have FRxA107 := FR1.trans FR_A107
                      refine hpa_aload_n (by rfl) rfl ?_
                      refine hpa_get (v := .ref 393) (by rfl) (by rfl) (by rfl) rfl ?_
                      refine hpa_aload_n (by rfl) rfl ?_
                      refine hpj_getK (by rfl) (by rfl) (by rfl) rfl ?_
                      refine hpa_aload_n (by rfl) rfl ?_
                      refine hpa_get (v := .ref 371) (by rfl) (by rfl) (by rfl) rfl ?_
                      refine hpa_aload_n (by rfl) rfl ?_
                      refine hpj_getK (by rfl) (by rfl) (by rfl) rfl ?_
                      refine hpx_iald (by rfl) (by rfl) (fun h0v108 h1v108 v108 ev108 => ?_)
                      rw [BWA107.at.2.2.1] at ev108
                      refine hpx_iast (by rfl) (by rfl) (fun A109 h0A109 h1A109 eA109 fA109 gA109 => ?_)
                      have BA109 := BWA107.ar eA109 fA109 gA109 (by omega)
                      have RA109 := RWA107.ar eA109 fA109 gA109 (by omega)
                      have f0A109 := BA109.2.2.2
                      have nxA109 := BA109.2.1
                      have rdA109 := RA109.2.2.1
                      have FRA109 := FRxA107.wt eA109 fA109
                      refine hpa_aload_n (by rfl) rfl ?_
                      refine hpa_dupR (by rfl) ?_
                      refine hpj_getK (by rfl) (by rfl) (by rfl) (hkA eA109 rfl) ?_
                      refine hpa_iconst (by rfl) rfl ?_
                      refine hpj_iadd (by rfl) rfl hk_1 (by omega) (by omega) (fun z110 ez110 => ?_)
                      refine hpj_putI (by rfl) (by rfl) (by rfl) (by rfl) (fun A111 eA111 fA111 => ?_)
                      have BA111 := BA109.up (k := 41) eA111 fA111 (by omega) (by omega)
                      have RA111 := RA109.up (k := 41) eA111 fA111 (by omega)
                      have f0A111 := BA111.2.2.2
                      have nxA111 := BA111.2.1
                      have rdA111 := RA111.2.2.1
                      have hwl := X_A107.2.2.1
                      have XA111 := X_A107.push (x := (K t1).toNat) (by have := hn_cn (j := (A107.1 367 41)) (by omega); omega) eA109 fA109 eA111 fA111 (by omega) (by rw [← ev108, show (((K t1).toNat : Nat) : Int) = K t1 by omega]; exact BWA107.at.2.2.2.1) (by omega)
                      have FRA111 := FRA109.up eA111 fA111 (by omega)
                      refine hpa_aload_n (by rfl) rfl ?_
                      refine hpa_call0 (by rfl) (by rfl) (by rfl) (by rfl) (by rfl) (by rfl) (hP147 BA111 RA111 (hqd15_op (by omega))) ?_
                      rintro _ A112 ⟨rfl, (⟨B_A112, R_A112, Q_A112, G_A112⟩ | F_A112)⟩
                      ·
                        have f0_A112 := B_A112.2.2.2
                        have nx_A112 := B_A112.2.1
                        have rd_A112 := R_A112.2.2.1
                        have XA112 := XA111.Q Q_A112
                        have FRA112 := FRA111.Q Q_A112
                        have hXo : K t1 = (((K t1).toNat : Nat) : Int) := by omega
                        have GO : hg_q K V E (t1 + 1) = (dd, kk, o3, (K t1).toNat :: w3) := by rw [G_A112, G1]; exact hg_dop hXo (by omega) (by omega) (by rw [decide_eq_true (by omega)]; exact E3)
                        have CTO : hg_ct ((K t1).toNat :: w3) = od := by rw [hg_ct_op (by omega), hg_ct_st E3]; exact CT1
                        refine hpa_goto (by rfl) ?_
                        exact ih12 x96_1 (Int32.ofNat 1) A112 (by omega) (by omega) (Or.inl ⟨_, _, _, _, _, by omega, B_A112, R_A112, rfl, by omega, (fun _ => rfl), GO, XA112, FRA112, CTO⟩)
                      ·
                        have fp_A112 := F_A112.pos
                        refine hpa_goto (by rfl) ?_
                        exact ih12 x96_1 (Int32.ofNat 1) A112 (by omega) (by omega) (Or.inr F_A112)
                    ·
                      refine hpj_zne (by rfl) rfl (fun q113 => False.elim (by omega)) (fun q113 => ?_)
                      refine hpa_aload_n (by rfl) rfl ?_
                      refine hpa_bipush (by rfl) rfl ?_
                      refine hpa_call0 (by rfl) (by rfl) (by rfl) (by rfl) (by rfl) (by rfl) (hP144 (Int32.ofNat 15) B1) ?_
                      rintro _ _ ⟨rfl, z115, rfl, (⟨fz_A114, e_A114⟩ | ⟨fz_A114, ne_A114⟩)⟩
                      ·
                        refine hpj_zeq (by rfl) rfl (fun q116 => False.elim (by omega)) (fun q116 => ?_)
                        refine hpa_iconst (by rfl) rfl ?_
                        refine hpa_goto (by rfl) ?_
                        obtain ⟨o3, w3, E3⟩ : ∃ o3 w3, hg_fl true oc ww = (o3, w3) := ⟨_, _, rfl⟩
                        refine hpa_call0 (by rfl) (by rfl) (by rfl) (by rfl) (by rfl) (by rfl) (hP160 (st := true) (Int32.ofNat 1) X1 E3 (Or.inl ⟨hk_1, rfl⟩)) ?_
                        rintro _ A117 ⟨rfl, W_A117, X_A117, FR_A117⟩
                        have BWA117 := B1.W W_A117
                        have RWA117 := R1.W W_A117
                        have f0WA117 := BWA117.2.2.2
                        have nxWA117 := BWA117.2.1
                        have rdWA117 := RWA117.2.2.1
                        have FRxA117 := FR1.trans FR_A117
                        refine hpa_aload_n (by rfl) rfl ?_
                        refine hpa_get (v := .ref 393) (by rfl) (by rfl) (by rfl) rfl ?_
                        refine hpa_aload_n (by rfl) rfl ?_
                        refine hpj_getK (by rfl) (by rfl) (by rfl) rfl ?_
                        refine hpa_aload_n (by rfl) rfl ?_
                        refine hpa_get (v := .ref 371) (by rfl) (by rfl) (by rfl) rfl ?_
                        refine hpa_aload_n (by rfl) rfl ?_
                        refine hpj_getK (by rfl) (by rfl) (by rfl) rfl ?_
                        refine hpx_iald (by rfl) (by rfl) (fun h0v118 h1v118 v118 ev118 => ?_)
                        rw [BWA117.at.2.2.1] at ev118
                        refine hpx_iast (by rfl) (by rfl) (fun A119 h0A119 h1A119 eA119 fA119 gA119 => ?_)
                        have BA119 := BWA117.ar eA119 fA119 gA119 (by omega)
                        have RA119 := RWA117.ar eA119 fA119 gA119 (by omega)
                        have f0A119 := BA119.2.2.2
                        have nxA119 := BA119.2.1
                        have rdA119 := RA119.2.2.1
                        have FRA119 := FRxA117.wt eA119 fA119
                        refine hpa_aload_n (by rfl) rfl ?_
                        refine hpa_dupR (by rfl) ?_
                        refine hpj_getK (by rfl) (by rfl) (by rfl) (hkA eA119 rfl) ?_
                        refine hpa_iconst (by rfl) rfl ?_
                        refine hpj_iadd (by rfl) rfl hk_1 (by omega) (by omega) (fun z120 ez120 => ?_)
                        refine hpj_putI (by rfl) (by rfl) (by rfl) (by rfl) (fun A121 eA121 fA121 => ?_)
                        have BA121 := BA119.up (k := 41) eA121 fA121 (by omega) (by omega)
                        have RA121 := RA119.up (k := 41) eA121 fA121 (by omega)
                        have f0A121 := BA121.2.2.2
                        have nxA121 := BA121.2.1
                        have rdA121 := RA121.2.2.1
                        have hwl := X_A117.2.2.1
                        have XA121 := X_A117.push (x := (K t1).toNat) (by have := hn_cn (j := (A117.1 367 41)) (by omega); omega) eA119 fA119 eA121 fA121 (by omega) (by rw [← ev118, show (((K t1).toNat : Nat) : Int) = K t1 by omega]; exact BWA117.at.2.2.2.1) (by omega)
                        have FRA121 := FRA119.up eA121 fA121 (by omega)
                        refine hpa_aload_n (by rfl) rfl ?_
                        refine hpa_call0 (by rfl) (by rfl) (by rfl) (by rfl) (by rfl) (by rfl) (hP147 BA121 RA121 (hqd15_op (by omega))) ?_
                        rintro _ A122 ⟨rfl, (⟨B_A122, R_A122, Q_A122, G_A122⟩ | F_A122)⟩
                        ·
                          have f0_A122 := B_A122.2.2.2
                          have nx_A122 := B_A122.2.1
                          have rd_A122 := R_A122.2.2.1
                          have XA122 := XA121.Q Q_A122
                          have FRA122 := FRA121.Q Q_A122
                          have hXo : K t1 = (((K t1).toNat : Nat) : Int) := by omega
                          have GO : hg_q K V E (t1 + 1) = (dd, kk, o3, (K t1).toNat :: w3) := by rw [G_A122, G1]; exact hg_dop hXo (by omega) (by omega) (by rw [decide_eq_true (by omega)]; exact E3)
                          have CTO : hg_ct ((K t1).toNat :: w3) = od := by rw [hg_ct_op (by omega), hg_ct_st E3]; exact CT1
                          refine hpa_goto (by rfl) ?_
                          exact ih12 x96_1 (Int32.ofNat 1) A122 (by omega) (by omega) (Or.inl ⟨_, _, _, _, _, by omega, B_A122, R_A122, rfl, by omega, (fun _ => rfl), GO, XA122, FRA122, CTO⟩)
                        ·
                          have fp_A122 := F_A122.pos
                          refine hpa_goto (by rfl) ?_
                          exact ih12 x96_1 (Int32.ofNat 1) A122 (by omega) (by omega) (Or.inr F_A122)
                      ·
                        refine hpj_zeq (by rfl) rfl (fun q123 => ?_) (fun q123 => False.elim (by omega))
                        refine hpa_iconst (by rfl) rfl ?_
                        obtain ⟨o3, w3, E3⟩ : ∃ o3 w3, hg_fl false oc ww = (o3, w3) := ⟨_, _, rfl⟩
                        refine hpa_call0 (by rfl) (by rfl) (by rfl) (by rfl) (by rfl) (by rfl) (hP160 (st := false) (Int32.ofNat 0) X1 E3 (Or.inr ⟨hk_0, rfl⟩)) ?_
                        rintro _ A124 ⟨rfl, W_A124, X_A124, FR_A124⟩
                        have BWA124 := B1.W W_A124
                        have RWA124 := R1.W W_A124
                        have f0WA124 := BWA124.2.2.2
                        have nxWA124 := BWA124.2.1
                        have rdWA124 := RWA124.2.2.1
                        have FRxA124 := FR1.trans FR_A124
                        refine hpa_aload_n (by rfl) rfl ?_
                        refine hpa_get (v := .ref 393) (by rfl) (by rfl) (by rfl) rfl ?_
                        refine hpa_aload_n (by rfl) rfl ?_
                        refine hpj_getK (by rfl) (by rfl) (by rfl) rfl ?_
                        refine hpa_aload_n (by rfl) rfl ?_
                        refine hpa_get (v := .ref 371) (by rfl) (by rfl) (by rfl) rfl ?_
                        refine hpa_aload_n (by rfl) rfl ?_
                        refine hpj_getK (by rfl) (by rfl) (by rfl) rfl ?_
                        refine hpx_iald (by rfl) (by rfl) (fun h0v125 h1v125 v125 ev125 => ?_)
                        rw [BWA124.at.2.2.1] at ev125
                        refine hpx_iast (by rfl) (by rfl) (fun A126 h0A126 h1A126 eA126 fA126 gA126 => ?_)
                        have BA126 := BWA124.ar eA126 fA126 gA126 (by omega)
                        have RA126 := RWA124.ar eA126 fA126 gA126 (by omega)
                        have f0A126 := BA126.2.2.2
                        have nxA126 := BA126.2.1
                        have rdA126 := RA126.2.2.1
                        have FRA126 := FRxA124.wt eA126 fA126
                        refine hpa_aload_n (by rfl) rfl ?_
                        refine hpa_dupR (by rfl) ?_
                        refine hpj_getK (by rfl) (by rfl) (by rfl) (hkA eA126 rfl) ?_
                        refine hpa_iconst (by rfl) rfl ?_
                        refine hpj_iadd (by rfl) rfl hk_1 (by omega) (by omega) (fun z127 ez127 => ?_)
                        refine hpj_putI (by rfl) (by rfl) (by rfl) (by rfl) (fun A128 eA128 fA128 => ?_)
                        have BA128 := BA126.up (k := 41) eA128 fA128 (by omega) (by omega)
                        have RA128 := RA126.up (k := 41) eA128 fA128 (by omega)
                        have f0A128 := BA128.2.2.2
                        have nxA128 := BA128.2.1
                        have rdA128 := RA128.2.2.1
                        have hwl := X_A124.2.2.1
                        have XA128 := X_A124.push (x := (K t1).toNat) (by have := hn_cn (j := (A124.1 367 41)) (by omega); omega) eA126 fA126 eA128 fA128 (by omega) (by rw [← ev125, show (((K t1).toNat : Nat) : Int) = K t1 by omega]; exact BWA124.at.2.2.2.1) (by omega)
                        have FRA128 := FRA126.up eA128 fA128 (by omega)
                        refine hpa_aload_n (by rfl) rfl ?_
                        refine hpa_call0 (by rfl) (by rfl) (by rfl) (by rfl) (by rfl) (by rfl) (hP147 BA128 RA128 (hqd15_op (by omega))) ?_
                        rintro _ A129 ⟨rfl, (⟨B_A129, R_A129, Q_A129, G_A129⟩ | F_A129)⟩
                        ·
                          have f0_A129 := B_A129.2.2.2
                          have nx_A129 := B_A129.2.1
                          have rd_A129 := R_A129.2.2.1
                          have XA129 := XA128.Q Q_A129
                          have FRA129 := FRA128.Q Q_A129
                          have hXo : K t1 = (((K t1).toNat : Nat) : Int) := by omega
                          have GO : hg_q K V E (t1 + 1) = (dd, kk, o3, (K t1).toNat :: w3) := by rw [G_A129, G1]; exact hg_dop hXo (by omega) (by omega) (by rw [decide_eq_false (by omega)]; exact E3)
                          have CTO : hg_ct ((K t1).toNat :: w3) = od := by rw [hg_ct_op (by omega), hg_ct_st E3]; exact CT1
                          refine hpa_goto (by rfl) ?_
                          exact ih12 x96_1 (Int32.ofNat 1) A129 (by omega) (by omega) (Or.inl ⟨_, _, _, _, _, by omega, B_A129, R_A129, rfl, by omega, (fun _ => rfl), GO, XA129, FRA129, CTO⟩)
                        ·
                          have fp_A129 := F_A129.pos
                          refine hpa_goto (by rfl) ?_
                          exact ih12 x96_1 (Int32.ofNat 1) A129 (by omega) (by omega) (Or.inr F_A129)
                  ·
                    refine hpj_zne (by rfl) rfl (fun q130 => False.elim (by omega)) (fun q130 => ?_)
                    refine hpa_aload_n (by rfl) rfl ?_
                    refine hpa_bipush (by rfl) rfl ?_
                    refine hpa_call0 (by rfl) (by rfl) (by rfl) (by rfl) (by rfl) (by rfl) (hP144 (Int32.ofNat 15) B1) ?_
                    rintro _ _ ⟨rfl, z132, rfl, (⟨fz_A131, e_A131⟩ | ⟨fz_A131, ne_A131⟩)⟩
                    ·
                      refine hpj_zeq (by rfl) rfl (fun q133 => False.elim (by omega)) (fun q133 => ?_)
                      refine hpa_iconst (by rfl) rfl ?_
                      refine hpa_goto (by rfl) ?_
                      refine hpa_s1 (by rfl) (Or.inl ⟨_, rfl, rfl⟩) rfl ?_
                      refine hpa_iload_n (by rfl) rfl ?_
                      refine hpj_zne (by rfl) hk_1 (fun q134 => ?_) (fun q134 => False.elim (by omega))
                      refine hpa_aload_n (by rfl) rfl ?_
                      refine hpa_aload_n (by rfl) rfl ?_
                      refine hpa_bipush (by rfl) rfl ?_
                      refine hpa_call0 (by rfl) (by rfl) (by rfl) (by rfl) (by rfl) (by rfl) (hP144 (Int32.ofNat 10) B1) ?_
                      rintro _ _ ⟨rfl, z136, rfl, (⟨fz_A135, e_A135⟩ | ⟨fz_A135, ne_A135⟩)⟩
                      ·
                        refine hpj_zne (by rfl) rfl (fun q137 => ?_) (fun q137 => False.elim (by omega))
                        refine hpa_iconst (by rfl) rfl ?_
                        refine hpa_goto (by rfl) ?_
                        obtain ⟨o3, w3, E3⟩ : ∃ o3 w3, hg_fl true oc ww = (o3, w3) := ⟨_, _, rfl⟩
                        refine hpa_call0 (by rfl) (by rfl) (by rfl) (by rfl) (by rfl) (by rfl) (hP160 (st := true) (Int32.ofNat 1) X1 E3 (Or.inl ⟨hk_1, rfl⟩)) ?_
                        rintro _ A138 ⟨rfl, W_A138, X_A138, FR_A138⟩
                        have BWA138 := B1.W W_A138
                        have RWA138 := R1.W W_A138
                        have f0WA138 := BWA138.2.2.2
                        have nxWA138 := BWA138.2.1
                        have rdWA138 := RWA138.2.2.1
                        have FRxA138 := FR1.trans FR_A138
                        refine hpa_aload_n (by rfl) rfl ?_
                        refine hpa_get (v := .ref 393) (by rfl) (by rfl) (by rfl) rfl ?_
                        refine hpa_aload_n (by rfl) rfl ?_
                        refine hpj_getK (by rfl) (by rfl) (by rfl) rfl ?_
                        refine hpa_aload_n (by rfl) rfl ?_
                        refine hpa_get (v := .ref 371) (by rfl) (by rfl) (by rfl) rfl ?_
                        refine hpa_aload_n (by rfl) rfl ?_
                        refine hpj_getK (by rfl) (by rfl) (by rfl) rfl ?_
                        refine hpx_iald (by rfl) (by rfl) (fun h0v139 h1v139 v139 ev139 => ?_)
                        rw [BWA138.at.2.2.1] at ev139
                        refine hpx_iast (by rfl) (by rfl) (fun A140 h0A140 h1A140 eA140 fA140 gA140 => ?_)
                        have BA140 := BWA138.ar eA140 fA140 gA140 (by omega)
                        have RA140 := RWA138.ar eA140 fA140 gA140 (by omega)
                        have f0A140 := BA140.2.2.2
                        have nxA140 := BA140.2.1
                        have rdA140 := RA140.2.2.1
                        have FRA140 := FRxA138.wt eA140 fA140
                        refine hpa_aload_n (by rfl) rfl ?_
                        refine hpa_dupR (by rfl) ?_
                        refine hpj_getK (by rfl) (by rfl) (by rfl) (hkA eA140 rfl) ?_
                        refine hpa_iconst (by rfl) rfl ?_
                        refine hpj_iadd (by rfl) rfl hk_1 (by omega) (by omega) (fun z141 ez141 => ?_)
                        refine hpj_putI (by rfl) (by rfl) (by rfl) (by rfl) (fun A142 eA142 fA142 => ?_)
                        have BA142 := BA140.up (k := 41) eA142 fA142 (by omega) (by omega)
                        have RA142 := RA140.up (k := 41) eA142 fA142 (by omega)
                        have f0A142 := BA142.2.2.2
                        have nxA142 := BA142.2.1
                        have rdA142 := RA142.2.2.1
                        have hwl := X_A138.2.2.1
                        have XA142 := X_A138.push (x := (K t1).toNat) (by have := hn_cn (j := (A138.1 367 41)) (by omega); omega) eA140 fA140 eA142 fA142 (by omega) (by rw [← ev139, show (((K t1).toNat : Nat) : Int) = K t1 by omega]; exact BWA138.at.2.2.2.1) (by omega)
                        have FRA142 := FRA140.up eA142 fA142 (by omega)
                        refine hpa_aload_n (by rfl) rfl ?_
                        refine hpa_call0 (by rfl) (by rfl) (by rfl) (by rfl) (by rfl) (by rfl) (hP147 BA142 RA142 (hqd15_op (by omega))) ?_
                        rintro _ A143 ⟨rfl, (⟨B_A143, R_A143, Q_A143, G_A143⟩ | F_A143)⟩
                        ·
                          have f0_A143 := B_A143.2.2.2
                          have nx_A143 := B_A143.2.1
                          have rd_A143 := R_A143.2.2.1
                          have XA143 := XA142.Q Q_A143
                          have FRA143 := FRA142.Q Q_A143
                          have hXo : K t1 = (((K t1).toNat : Nat) : Int) := by omega
                          have GO : hg_q K V E (t1 + 1) = (dd, kk, o3, (K t1).toNat :: w3) := by rw [G_A143, G1]; exact hg_dop hXo (by omega) (by omega) (by rw [decide_eq_true (by omega)]; exact E3)
                          have CTO : hg_ct ((K t1).toNat :: w3) = od := by rw [hg_ct_op (by omega), hg_ct_st E3]; exact CT1
                          refine hpa_goto (by rfl) ?_
                          exact ih12 x96_1 (Int32.ofNat 1) A143 (by omega) (by omega) (Or.inl ⟨_, _, _, _, _, by omega, B_A143, R_A143, rfl, by omega, (fun _ => rfl), GO, XA143, FRA143, CTO⟩)
                        ·
                          have fp_A143 := F_A143.pos
                          refine hpa_goto (by rfl) ?_
                          exact ih12 x96_1 (Int32.ofNat 1) A143 (by omega) (by omega) (Or.inr F_A143)
                      ·
                        refine hpj_zne (by rfl) rfl (fun q144 => False.elim (by omega)) (fun q144 => ?_)
                        refine hpa_aload_n (by rfl) rfl ?_
                        refine hpa_bipush (by rfl) rfl ?_
                        refine hpa_call0 (by rfl) (by rfl) (by rfl) (by rfl) (by rfl) (by rfl) (hP144 (Int32.ofNat 15) B1) ?_
                        rintro _ _ ⟨rfl, z146, rfl, (⟨fz_A145, e_A145⟩ | ⟨fz_A145, ne_A145⟩)⟩
                        ·
                          refine hpj_zeq (by rfl) rfl (fun q147 => False.elim (by omega)) (fun q147 => ?_)
                          refine hpa_iconst (by rfl) rfl ?_
                          refine hpa_goto (by rfl) ?_
                          obtain ⟨o3, w3, E3⟩ : ∃ o3 w3, hg_fl true oc ww = (o3, w3) := ⟨_, _, rfl⟩
                          refine hpa_call0 (by rfl) (by rfl) (by rfl) (by rfl) (by rfl) (by rfl) (hP160 (st := true) (Int32.ofNat 1) X1 E3 (Or.inl ⟨hk_1, rfl⟩)) ?_
                          rintro _ A148 ⟨rfl, W_A148, X_A148, FR_A148⟩
                          have BWA148 := B1.W W_A148
                          have RWA148 := R1.W W_A148
                          have f0WA148 := BWA148.2.2.2
                          have nxWA148 := BWA148.2.1
                          have rdWA148 := RWA148.2.2.1
                          have FRxA148 := FR1.trans FR_A148
                          refine hpa_aload_n (by rfl) rfl ?_
                          refine hpa_get (v := .ref 393) (by rfl) (by rfl) (by rfl) rfl ?_
                          refine hpa_aload_n (by rfl) rfl ?_
                          refine hpj_getK (by rfl) (by rfl) (by rfl) rfl ?_
                          refine hpa_aload_n (by rfl) rfl ?_
                          refine hpa_get (v := .ref 371) (by rfl) (by rfl) (by rfl) rfl ?_
                          refine hpa_aload_n (by rfl) rfl ?_
                          refine hpj_getK (by rfl) (by rfl) (by rfl) rfl ?_
                          refine hpx_iald (by rfl) (by rfl) (fun h0v149 h1v149 v149 ev149 => ?_)
                          rw [BWA148.at.2.2.1] at ev149
                          refine hpx_iast (by rfl) (by rfl) (fun A150 h0A150 h1A150 eA150 fA150 gA150 => ?_)
                          have BA150 := BWA148.ar eA150 fA150 gA150 (by omega)
                          have RA150 := RWA148.ar eA150 fA150 gA150 (by omega)
                          have f0A150 := BA150.2.2.2
                          have nxA150 := BA150.2.1
                          have rdA150 := RA150.2.2.1
                          have FRA150 := FRxA148.wt eA150 fA150
                          refine hpa_aload_n (by rfl) rfl ?_
                          refine hpa_dupR (by rfl) ?_
                          refine hpj_getK (by rfl) (by rfl) (by rfl) (hkA eA150 rfl) ?_
                          refine hpa_iconst (by rfl) rfl ?_
                          refine hpj_iadd (by rfl) rfl hk_1 (by omega) (by omega) (fun z151 ez151 => ?_)
                          refine hpj_putI (by rfl) (by rfl) (by rfl) (by rfl) (fun A152 eA152 fA152 => ?_)
                          have BA152 := BA150.up (k := 41) eA152 fA152 (by omega) (by omega)
                          have RA152 := RA150.up (k := 41) eA152 fA152 (by omega)
                          have f0A152 := BA152.2.2.2
                          have nxA152 := BA152.2.1
                          have rdA152 := RA152.2.2.1
                          have hwl := X_A148.2.2.1
                          have XA152 := X_A148.push (x := (K t1).toNat) (by have := hn_cn (j := (A148.1 367 41)) (by omega); omega) eA150 fA150 eA152 fA152 (by omega) (by rw [← ev149, show (((K t1).toNat : Nat) : Int) = K t1 by omega]; exact BWA148.at.2.2.2.1) (by omega)
                          have FRA152 := FRA150.up eA152 fA152 (by omega)
                          refine hpa_aload_n (by rfl) rfl ?_
                          refine hpa_call0 (by rfl) (by rfl) (by rfl) (by rfl) (by rfl) (by rfl) (hP147 BA152 RA152 (hqd15_op (by omega))) ?_
                          rintro _ A153 ⟨rfl, (⟨B_A153, R_A153, Q_A153, G_A153⟩ | F_A153)⟩
                          ·
                            have f0_A153 := B_A153.2.2.2
                            have nx_A153 := B_A153.2.1
                            have rd_A153 := R_A153.2.2.1
                            have XA153 := XA152.Q Q_A153
                            have FRA153 := FRA152.Q Q_A153
                            have hXo : K t1 = (((K t1).toNat : Nat) : Int) := by omega
                            have GO : hg_q K V E (t1 + 1) = (dd, kk, o3, (K t1).toNat :: w3) := by rw [G_A153, G1]; exact hg_dop hXo (by omega) (by omega) (by rw [decide_eq_true (by omega)]; exact E3)
                            have CTO : hg_ct ((K t1).toNat :: w3) = od := by rw [hg_ct_op (by omega), hg_ct_st E3]; exact CT1
                            refine hpa_goto (by rfl) ?_
                            exact ih12 x96_1 (Int32.ofNat 1) A153 (by omega) (by omega) (Or.inl ⟨_, _, _, _, _, by omega, B_A153, R_A153, rfl, by omega, (fun _ => rfl), GO, XA153, FRA153, CTO⟩)
                          ·
                            have fp_A153 := F_A153.pos
                            refine hpa_goto (by rfl) ?_
                            exact ih12 x96_1 (Int32.ofNat 1) A153 (by omega) (by omega) (Or.inr F_A153)
                        ·
                          refine hpj_zeq (by rfl) rfl (fun q154 => ?_) (fun q154 => False.elim (by omega))
                          refine hpa_iconst (by rfl) rfl ?_
                          obtain ⟨o3, w3, E3⟩ : ∃ o3 w3, hg_fl false oc ww = (o3, w3) := ⟨_, _, rfl⟩
                          refine hpa_call0 (by rfl) (by rfl) (by rfl) (by rfl) (by rfl) (by rfl) (hP160 (st := false) (Int32.ofNat 0) X1 E3 (Or.inr ⟨hk_0, rfl⟩)) ?_
                          rintro _ A155 ⟨rfl, W_A155, X_A155, FR_A155⟩
                          have BWA155 := B1.W W_A155
                          have RWA155 := R1.W W_A155
                          have f0WA155 := BWA155.2.2.2
                          have nxWA155 := BWA155.2.1
                          have rdWA155 := RWA155.2.2.1
                          have FRxA155 := FR1.trans FR_A155
                          refine hpa_aload_n (by rfl) rfl ?_
                          refine hpa_get (v := .ref 393) (by rfl) (by rfl) (by rfl) rfl ?_
                          refine hpa_aload_n (by rfl) rfl ?_
                          refine hpj_getK (by rfl) (by rfl) (by rfl) rfl ?_
                          refine hpa_aload_n (by rfl) rfl ?_
                          refine hpa_get (v := .ref 371) (by rfl) (by rfl) (by rfl) rfl ?_
                          refine hpa_aload_n (by rfl) rfl ?_
                          refine hpj_getK (by rfl) (by rfl) (by rfl) rfl ?_
                          refine hpx_iald (by rfl) (by rfl) (fun h0v156 h1v156 v156 ev156 => ?_)
                          rw [BWA155.at.2.2.1] at ev156
                          refine hpx_iast (by rfl) (by rfl) (fun A157 h0A157 h1A157 eA157 fA157 gA157 => ?_)
                          have BA157 := BWA155.ar eA157 fA157 gA157 (by omega)
                          have RA157 := RWA155.ar eA157 fA157 gA157 (by omega)
                          have f0A157 := BA157.2.2.2
                          have nxA157 := BA157.2.1
                          have rdA157 := RA157.2.2.1
                          have FRA157 := FRxA155.wt eA157 fA157
                          refine hpa_aload_n (by rfl) rfl ?_
                          refine hpa_dupR (by rfl) ?_
                          refine hpj_getK (by rfl) (by rfl) (by rfl) (hkA eA157 rfl) ?_
                          refine hpa_iconst (by rfl) rfl ?_
                          refine hpj_iadd (by rfl) rfl hk_1 (by omega) (by omega) (fun z158 ez158 => ?_)
                          refine hpj_putI (by rfl) (by rfl) (by rfl) (by rfl) (fun A159 eA159 fA159 => ?_)
                          have BA159 := BA157.up (k := 41) eA159 fA159 (by omega) (by omega)
                          have RA159 := RA157.up (k := 41) eA159 fA159 (by omega)
                          have f0A159 := BA159.2.2.2
                          have nxA159 := BA159.2.1
                          have rdA159 := RA159.2.2.1
                          have hwl := X_A155.2.2.1
                          have XA159 := X_A155.push (x := (K t1).toNat) (by have := hn_cn (j := (A155.1 367 41)) (by omega); omega) eA157 fA157 eA159 fA159 (by omega) (by rw [← ev156, show (((K t1).toNat : Nat) : Int) = K t1 by omega]; exact BWA155.at.2.2.2.1) (by omega)
                          have FRA159 := FRA157.up eA159 fA159 (by omega)
                          refine hpa_aload_n (by rfl) rfl ?_
                          refine hpa_call0 (by rfl) (by rfl) (by rfl) (by rfl) (by rfl) (by rfl) (hP147 BA159 RA159 (hqd15_op (by omega))) ?_
                          rintro _ A160 ⟨rfl, (⟨B_A160, R_A160, Q_A160, G_A160⟩ | F_A160)⟩
                          ·
                            have f0_A160 := B_A160.2.2.2
                            have nx_A160 := B_A160.2.1
                            have rd_A160 := R_A160.2.2.1
                            have XA160 := XA159.Q Q_A160
                            have FRA160 := FRA159.Q Q_A160
                            have hXo : K t1 = (((K t1).toNat : Nat) : Int) := by omega
                            have GO : hg_q K V E (t1 + 1) = (dd, kk, o3, (K t1).toNat :: w3) := by rw [G_A160, G1]; exact hg_dop hXo (by omega) (by omega) (by rw [decide_eq_false (by omega)]; exact E3)
                            have CTO : hg_ct ((K t1).toNat :: w3) = od := by rw [hg_ct_op (by omega), hg_ct_st E3]; exact CT1
                            refine hpa_goto (by rfl) ?_
                            exact ih12 x96_1 (Int32.ofNat 1) A160 (by omega) (by omega) (Or.inl ⟨_, _, _, _, _, by omega, B_A160, R_A160, rfl, by omega, (fun _ => rfl), GO, XA160, FRA160, CTO⟩)
                          ·
                            have fp_A160 := F_A160.pos
                            refine hpa_goto (by rfl) ?_
                            exact ih12 x96_1 (Int32.ofNat 1) A160 (by omega) (by omega) (Or.inr F_A160)
                    ·
                      refine hpj_zeq (by rfl) rfl (fun q161 => ?_) (fun q161 => False.elim (by omega))
                      refine hpa_iconst (by rfl) rfl ?_
                      refine hpa_s1 (by rfl) (Or.inl ⟨_, rfl, rfl⟩) rfl ?_
                      refine hpa_iload_n (by rfl) rfl ?_
                      refine hpj_zne (by rfl) hk_0 (fun q162 => False.elim (by omega)) (fun q162 => ?_)
                      refine hpa_aload_n (by rfl) rfl ?_
                      refine hpj_getK (by rfl) (by rfl) (by rfl) rfl ?_
                      refine hpa_iload_n (by rfl) rfl ?_
                      refine hpj_cle (by rfl) rfl rfl (fun q163 => ?_) (fun q163 => ?_)
                      ·
                        refine hpa_aload_n (by rfl) rfl ?_
                        refine hpa_iconst (by rfl) rfl ?_
                        obtain rfl : od = 0 := by omega
                        obtain ⟨o3, w3, E3⟩ : ∃ o3 w3, hg_fl false oc ww = (o3, w3) := ⟨_, _, rfl⟩
                        obtain rfl := hg_ct0 E3 CT1
                        refine hpa_call0 (by rfl) (by rfl) (by rfl) (by rfl) (by rfl) (by rfl) (hP160 (st := false) (Int32.ofNat 0) X1 E3 (Or.inr ⟨hk_0, rfl⟩)) ?_
                        rintro _ A164 ⟨rfl, W_A164, X_A164, FR_A164⟩
                        have BWA164 := B1.W W_A164
                        have RWA164 := R1.W W_A164
                        have f0WA164 := BWA164.2.2.2
                        have nxWA164 := BWA164.2.1
                        have rdWA164 := RWA164.2.2.1
                        have FRxA164 := FR1.trans FR_A164
                        exact hpa_return (by rfl) rfl (hP _ _ ⟨rfl, Or.inl ⟨_, _, _, _, by omega, BWA164, RWA164, by omega, G1, E3, X_A164, FRxA164⟩⟩)
                      ·
                        refine hpa_aload_n (by rfl) rfl ?_
                        refine hpa_iconst (by rfl) rfl ?_
                        refine hpa_call0 (by rfl) (by rfl) (by rfl) (by rfl) (by rfl) (by rfl) (hP145 (Int32.ofNat 1) B1 ⟨_, B1.2.2.1, by obtain ⟨om, rfl⟩ : ∃ om, od = om + 1 := ⟨od - 1, by omega⟩; exact (hqd15_cl (by omega)).trans (hq_must_no (by omega))⟩ (by decide) hk_1) ?_
                        rintro _ A165 ⟨rfl, F_A165⟩
                        have fp_A165 := F_A165.pos
                        refine hpa_aload_n (by rfl) rfl ?_
                        refine hpa_iconst (by rfl) rfl ?_
                        refine hpa_call0 (by rfl) (by rfl) (by rfl) (by rfl) (by rfl) (by rfl) (hP160d (Int32.ofNat 0)) ?_
                        rintro _ A166 ⟨rfl, W_A166⟩
                        have FWA166 := F_A165.W W_A166
                        have fpWA166 := FWA166.pos
                        exact hpa_return (by rfl) rfl (hP _ _ ⟨rfl, Or.inr FWA166⟩)
            ·
              refine hpa_aload_n (by rfl) rfl ?_
              refine hpa_iconst (by rfl) rfl ?_
              obtain ⟨om, rfl⟩ : ∃ om, od = om + 1 := ⟨od - 1, by omega⟩
              obtain ⟨o3, w3, E3⟩ : ∃ o3 w3, hg_fl false oc ww = (o3, w3) := ⟨_, _, rfl⟩
              obtain ⟨r3, rfl, CT3⟩ := hg_ctS E3 CT1
              refine hpa_call0 (by rfl) (by rfl) (by rfl) (by rfl) (by rfl) (by rfl) (hP160 (st := false) (Int32.ofNat 0) X1 E3 (Or.inr ⟨hk_0, rfl⟩)) ?_
              rintro _ A167 ⟨rfl, W_A167, X_A167, FR_A167⟩
              have BWA167 := B1.W W_A167
              have RWA167 := R1.W W_A167
              have f0WA167 := BWA167.2.2.2
              have nxWA167 := BWA167.2.1
              have rdWA167 := RWA167.2.2.1
              have FRxA167 := FR1.trans FR_A167
              refine hpa_aload_n (by rfl) rfl ?_
              refine hpa_dupR (by rfl) ?_
              refine hpj_getK (by rfl) (by rfl) (by rfl) rfl ?_
              refine hpa_iconst (by rfl) rfl ?_
              have hwq := X_A167.2.2.1
              have hwr : (31 :: r3).length = r3.length + 1 := rfl
              have hb41 := hi32r (A167.1 367 41)
              refine hpj_isub (by rfl) rfl hk_1 (by omega) (by omega) (fun z168 ez168 => ?_)
              refine hpj_putI (by rfl) (by rfl) (by rfl) (by rfl) (fun A169 eA169 fA169 => ?_)
              have BA169 := BWA167.up (k := 41) eA169 fA169 (by omega) (by omega)
              have RA169 := RWA167.up (k := 41) eA169 fA169 (by omega)
              have f0A169 := BA169.2.2.2
              have nxA169 := BA169.2.1
              have rdA169 := RA169.2.2.1
              have hwl := X_A167.2.2.1
              have hw3 : (31 :: r3).length = r3.length + 1 := rfl
              have XA169 := X_A167.pop eA169 fA169 (by omega)
              have FRA169 := FRxA167.up eA169 fA169 (by omega)
              refine hpa_aload_n (by rfl) rfl ?_
              refine hpa_dupR (by rfl) ?_
              refine hpj_getK (by rfl) (by rfl) (by rfl) (hkF eA169 (by omega) rfl) ?_
              refine hpa_iconst (by rfl) rfl ?_
              refine hpj_isub (by rfl) rfl hk_1 (by omega) (by omega) (fun z170 ez170 => ?_)
              refine hpj_putI (by rfl) (by rfl) (by rfl) (by rfl) (fun A171 eA171 fA171 => ?_)
              have BA171 := BA169.up (k := 12) eA171 fA171 (by omega) (by omega)
              have RA171 := RA169.opn (od' := om) eA171 fA171 (by omega)
              have f0A171 := BA171.2.2.2
              have nxA171 := BA171.2.1
              have rdA171 := RA171.2.2.1
              have XA171 := XA169.up (q := 12) eA171 fA171 (by omega)
              have FRA171 := FRA169.up (q := 12) eA171 fA171 (by omega)
              refine hpa_aload_n (by rfl) rfl ?_
              refine hpa_call0 (by rfl) (by rfl) (by rfl) (by rfl) (by rfl) (by rfl) (hP147 BA171 RA171 ((hqd15_cl (by omega)).trans (hq_must_ok (by omega)))) ?_
              rintro _ A172 ⟨rfl, (⟨B_A172, R_A172, Q_A172, G_A172⟩ | F_A172)⟩
              ·
                have f0_A172 := B_A172.2.2.2
                have nx_A172 := B_A172.2.1
                have rd_A172 := R_A172.2.2.1
                have XA172 := XA171.Q Q_A172
                have FRA172 := FRA171.Q Q_A172
                have GO : hg_q K V E (t1 + 1) = (dd, kk, o3, r3) := by rw [G_A172, G1]; exact hg_dcl (by omega) E3
                refine hpa_goto (by rfl) ?_
                exact ih96 x96_1 x96_2 A172 (by omega) (Or.inl ⟨_, _, _, _, by omega, B_A172, R_A172, by omega, GO, XA172, FRA172, CT3⟩)
              ·
                have fp_A172 := F_A172.pos
                refine hpa_goto (by rfl) ?_
                exact ih96 x96_1 x96_2 A172 (by omega) (Or.inr F_A172)
          ·
            refine hpj_zeq (by rfl) rfl (fun q173 => ?_) (fun q173 => False.elim (by omega))
            refine hpa_aload_n (by rfl) rfl ?_
            refine hpa_bipush (by rfl) rfl ?_
            refine hpa_call0 (by rfl) (by rfl) (by rfl) (by rfl) (by rfl) (by rfl) (hP144 (Int32.ofNat 8) B1) ?_
            rintro _ _ ⟨rfl, z175, rfl, (⟨fz_A174, e_A174⟩ | ⟨fz_A174, ne_A174⟩)⟩
            ·
              refine hpj_zne (by rfl) rfl (fun q176 => ?_) (fun q176 => False.elim (by omega))
              refine hpa_iconst (by rfl) rfl ?_
              refine hpa_goto (by rfl) ?_
              refine hpa_s1 (by rfl) (Or.inl ⟨_, rfl, rfl⟩) rfl ?_
              refine hpa_iload_n (by rfl) rfl ?_
              refine hpj_zne (by rfl) hk_1 (fun q177 => ?_) (fun q177 => False.elim (by omega))
              refine hpa_aload_n (by rfl) rfl ?_
              refine hpa_aload_n (by rfl) rfl ?_
              refine hpa_bipush (by rfl) rfl ?_
              refine hpa_call0 (by rfl) (by rfl) (by rfl) (by rfl) (by rfl) (by rfl) (hP144 (Int32.ofNat 10) B1) ?_
              rintro _ _ ⟨rfl, z179, rfl, (⟨fz_A178, e_A178⟩ | ⟨fz_A178, ne_A178⟩)⟩
              ·
                refine hpj_zne (by rfl) rfl (fun q180 => ?_) (fun q180 => False.elim (by omega))
                refine hpa_iconst (by rfl) rfl ?_
                refine hpa_goto (by rfl) ?_
                obtain ⟨o3, w3, E3⟩ : ∃ o3 w3, hg_fl true oc ww = (o3, w3) := ⟨_, _, rfl⟩
                refine hpa_call0 (by rfl) (by rfl) (by rfl) (by rfl) (by rfl) (by rfl) (hP160 (st := true) (Int32.ofNat 1) X1 E3 (Or.inl ⟨hk_1, rfl⟩)) ?_
                rintro _ A181 ⟨rfl, W_A181, X_A181, FR_A181⟩
                have BWA181 := B1.W W_A181
                have RWA181 := R1.W W_A181
                have f0WA181 := BWA181.2.2.2
                have nxWA181 := BWA181.2.1
                have rdWA181 := RWA181.2.2.1
                have FRxA181 := FR1.trans FR_A181
                refine hpa_aload_n (by rfl) rfl ?_
                refine hpa_get (v := .ref 393) (by rfl) (by rfl) (by rfl) rfl ?_
                refine hpa_aload_n (by rfl) rfl ?_
                refine hpj_getK (by rfl) (by rfl) (by rfl) rfl ?_
                refine hpa_aload_n (by rfl) rfl ?_
                refine hpa_get (v := .ref 371) (by rfl) (by rfl) (by rfl) rfl ?_
                refine hpa_aload_n (by rfl) rfl ?_
                refine hpj_getK (by rfl) (by rfl) (by rfl) rfl ?_
                refine hpx_iald (by rfl) (by rfl) (fun h0v182 h1v182 v182 ev182 => ?_)
                rw [BWA181.at.2.2.1] at ev182
                refine hpx_iast (by rfl) (by rfl) (fun A183 h0A183 h1A183 eA183 fA183 gA183 => ?_)
                have BA183 := BWA181.ar eA183 fA183 gA183 (by omega)
                have RA183 := RWA181.ar eA183 fA183 gA183 (by omega)
                have f0A183 := BA183.2.2.2
                have nxA183 := BA183.2.1
                have rdA183 := RA183.2.2.1
                have FRA183 := FRxA181.wt eA183 fA183
                refine hpa_aload_n (by rfl) rfl ?_
                refine hpa_dupR (by rfl) ?_
                refine hpj_getK (by rfl) (by rfl) (by rfl) (hkA eA183 rfl) ?_
                refine hpa_iconst (by rfl) rfl ?_
                refine hpj_iadd (by rfl) rfl hk_1 (by omega) (by omega) (fun z184 ez184 => ?_)
                refine hpj_putI (by rfl) (by rfl) (by rfl) (by rfl) (fun A185 eA185 fA185 => ?_)
                have BA185 := BA183.up (k := 41) eA185 fA185 (by omega) (by omega)
                have RA185 := RA183.up (k := 41) eA185 fA185 (by omega)
                have f0A185 := BA185.2.2.2
                have nxA185 := BA185.2.1
                have rdA185 := RA185.2.2.1
                have hwl := X_A181.2.2.1
                have XA185 := X_A181.push (x := (K t1).toNat) (by have := hn_cn (j := (A181.1 367 41)) (by omega); omega) eA183 fA183 eA185 fA185 (by omega) (by rw [← ev182, show (((K t1).toNat : Nat) : Int) = K t1 by omega]; exact BWA181.at.2.2.2.1) (by omega)
                have FRA185 := FRA183.up eA185 fA185 (by omega)
                refine hpa_aload_n (by rfl) rfl ?_
                refine hpa_call0 (by rfl) (by rfl) (by rfl) (by rfl) (by rfl) (by rfl) (hP147 BA185 RA185 (hqd15_op (by omega))) ?_
                rintro _ A186 ⟨rfl, (⟨B_A186, R_A186, Q_A186, G_A186⟩ | F_A186)⟩
                ·
                  have f0_A186 := B_A186.2.2.2
                  have nx_A186 := B_A186.2.1
                  have rd_A186 := R_A186.2.2.1
                  have XA186 := XA185.Q Q_A186
                  have FRA186 := FRA185.Q Q_A186
                  have hXo : K t1 = (((K t1).toNat : Nat) : Int) := by omega
                  have GO : hg_q K V E (t1 + 1) = (dd, kk, o3, (K t1).toNat :: w3) := by rw [G_A186, G1]; exact hg_dop hXo (by omega) (by omega) (by rw [decide_eq_true (by omega)]; exact E3)
                  have CTO : hg_ct ((K t1).toNat :: w3) = od := by rw [hg_ct_op (by omega), hg_ct_st E3]; exact CT1
                  refine hpa_goto (by rfl) ?_
                  exact ih12 x96_1 (Int32.ofNat 1) A186 (by omega) (by omega) (Or.inl ⟨_, _, _, _, _, by omega, B_A186, R_A186, rfl, by omega, (fun _ => rfl), GO, XA186, FRA186, CTO⟩)
                ·
                  have fp_A186 := F_A186.pos
                  refine hpa_goto (by rfl) ?_
                  exact ih12 x96_1 (Int32.ofNat 1) A186 (by omega) (by omega) (Or.inr F_A186)
              ·
                refine hpj_zne (by rfl) rfl (fun q187 => False.elim (by omega)) (fun q187 => ?_)
                refine hpa_aload_n (by rfl) rfl ?_
                refine hpa_bipush (by rfl) rfl ?_
                refine hpa_call0 (by rfl) (by rfl) (by rfl) (by rfl) (by rfl) (by rfl) (hP144 (Int32.ofNat 15) B1) ?_
                rintro _ _ ⟨rfl, z189, rfl, (⟨fz_A188, e_A188⟩ | ⟨fz_A188, ne_A188⟩)⟩
                ·
                  refine hpj_zeq (by rfl) rfl (fun q190 => False.elim (by omega)) (fun q190 => ?_)
                  refine hpa_iconst (by rfl) rfl ?_
                  refine hpa_goto (by rfl) ?_
                  obtain ⟨o3, w3, E3⟩ : ∃ o3 w3, hg_fl true oc ww = (o3, w3) := ⟨_, _, rfl⟩
                  refine hpa_call0 (by rfl) (by rfl) (by rfl) (by rfl) (by rfl) (by rfl) (hP160 (st := true) (Int32.ofNat 1) X1 E3 (Or.inl ⟨hk_1, rfl⟩)) ?_
                  rintro _ A191 ⟨rfl, W_A191, X_A191, FR_A191⟩
                  have BWA191 := B1.W W_A191
                  have RWA191 := R1.W W_A191
                  have f0WA191 := BWA191.2.2.2
                  have nxWA191 := BWA191.2.1
                  have rdWA191 := RWA191.2.2.1
                  have FRxA191 := FR1.trans FR_A191
                  refine hpa_aload_n (by rfl) rfl ?_
                  refine hpa_get (v := .ref 393) (by rfl) (by rfl) (by rfl) rfl ?_
                  refine hpa_aload_n (by rfl) rfl ?_
                  refine hpj_getK (by rfl) (by rfl) (by rfl) rfl ?_
                  refine hpa_aload_n (by rfl) rfl ?_
                  refine hpa_get (v := .ref 371) (by rfl) (by rfl) (by rfl) rfl ?_
                  refine hpa_aload_n (by rfl) rfl ?_
                  refine hpj_getK (by rfl) (by rfl) (by rfl) rfl ?_
                  refine hpx_iald (by rfl) (by rfl) (fun h0v192 h1v192 v192 ev192 => ?_)
                  rw [BWA191.at.2.2.1] at ev192
                  refine hpx_iast (by rfl) (by rfl) (fun A193 h0A193 h1A193 eA193 fA193 gA193 => ?_)
                  have BA193 := BWA191.ar eA193 fA193 gA193 (by omega)
                  have RA193 := RWA191.ar eA193 fA193 gA193 (by omega)
                  have f0A193 := BA193.2.2.2
                  have nxA193 := BA193.2.1
                  have rdA193 := RA193.2.2.1
                  have FRA193 := FRxA191.wt eA193 fA193
                  refine hpa_aload_n (by rfl) rfl ?_
                  refine hpa_dupR (by rfl) ?_
                  refine hpj_getK (by rfl) (by rfl) (by rfl) (hkA eA193 rfl) ?_
                  refine hpa_iconst (by rfl) rfl ?_
                  refine hpj_iadd (by rfl) rfl hk_1 (by omega) (by omega) (fun z194 ez194 => ?_)
                  refine hpj_putI (by rfl) (by rfl) (by rfl) (by rfl) (fun A195 eA195 fA195 => ?_)
                  have BA195 := BA193.up (k := 41) eA195 fA195 (by omega) (by omega)
                  have RA195 := RA193.up (k := 41) eA195 fA195 (by omega)
                  have f0A195 := BA195.2.2.2
                  have nxA195 := BA195.2.1
                  have rdA195 := RA195.2.2.1
                  have hwl := X_A191.2.2.1
                  have XA195 := X_A191.push (x := (K t1).toNat) (by have := hn_cn (j := (A191.1 367 41)) (by omega); omega) eA193 fA193 eA195 fA195 (by omega) (by rw [← ev192, show (((K t1).toNat : Nat) : Int) = K t1 by omega]; exact BWA191.at.2.2.2.1) (by omega)
                  have FRA195 := FRA193.up eA195 fA195 (by omega)
                  refine hpa_aload_n (by rfl) rfl ?_
                  refine hpa_call0 (by rfl) (by rfl) (by rfl) (by rfl) (by rfl) (by rfl) (hP147 BA195 RA195 (hqd15_op (by omega))) ?_
                  rintro _ A196 ⟨rfl, (⟨B_A196, R_A196, Q_A196, G_A196⟩ | F_A196)⟩
                  ·
                    have f0_A196 := B_A196.2.2.2
                    have nx_A196 := B_A196.2.1
                    have rd_A196 := R_A196.2.2.1
                    have XA196 := XA195.Q Q_A196
                    have FRA196 := FRA195.Q Q_A196
                    have hXo : K t1 = (((K t1).toNat : Nat) : Int) := by omega
                    have GO : hg_q K V E (t1 + 1) = (dd, kk, o3, (K t1).toNat :: w3) := by rw [G_A196, G1]; exact hg_dop hXo (by omega) (by omega) (by rw [decide_eq_true (by omega)]; exact E3)
                    have CTO : hg_ct ((K t1).toNat :: w3) = od := by rw [hg_ct_op (by omega), hg_ct_st E3]; exact CT1
                    refine hpa_goto (by rfl) ?_
                    exact ih12 x96_1 (Int32.ofNat 1) A196 (by omega) (by omega) (Or.inl ⟨_, _, _, _, _, by omega, B_A196, R_A196, rfl, by omega, (fun _ => rfl), GO, XA196, FRA196, CTO⟩)
                  ·
                    have fp_A196 := F_A196.pos
                    refine hpa_goto (by rfl) ?_
                    exact ih12 x96_1 (Int32.ofNat 1) A196 (by omega) (by omega) (Or.inr F_A196)
                ·
                  refine hpj_zeq (by rfl) rfl (fun q197 => ?_) (fun q197 => False.elim (by omega))
                  refine hpa_iconst (by rfl) rfl ?_
                  obtain ⟨o3, w3, E3⟩ : ∃ o3 w3, hg_fl false oc ww = (o3, w3) := ⟨_, _, rfl⟩
                  refine hpa_call0 (by rfl) (by rfl) (by rfl) (by rfl) (by rfl) (by rfl) (hP160 (st := false) (Int32.ofNat 0) X1 E3 (Or.inr ⟨hk_0, rfl⟩)) ?_
                  rintro _ A198 ⟨rfl, W_A198, X_A198, FR_A198⟩
                  have BWA198 := B1.W W_A198
                  have RWA198 := R1.W W_A198
                  have f0WA198 := BWA198.2.2.2
                  have nxWA198 := BWA198.2.1
                  have rdWA198 := RWA198.2.2.1
                  have FRxA198 := FR1.trans FR_A198
                  refine hpa_aload_n (by rfl) rfl ?_
                  refine hpa_get (v := .ref 393) (by rfl) (by rfl) (by rfl) rfl ?_
                  refine hpa_aload_n (by rfl) rfl ?_
                  refine hpj_getK (by rfl) (by rfl) (by rfl) rfl ?_
                  refine hpa_aload_n (by rfl) rfl ?_
                  refine hpa_get (v := .ref 371) (by rfl) (by rfl) (by rfl) rfl ?_
                  refine hpa_aload_n (by rfl) rfl ?_
                  refine hpj_getK (by rfl) (by rfl) (by rfl) rfl ?_
                  refine hpx_iald (by rfl) (by rfl) (fun h0v199 h1v199 v199 ev199 => ?_)
                  rw [BWA198.at.2.2.1] at ev199
                  refine hpx_iast (by rfl) (by rfl) (fun A200 h0A200 h1A200 eA200 fA200 gA200 => ?_)
                  have BA200 := BWA198.ar eA200 fA200 gA200 (by omega)
                  have RA200 := RWA198.ar eA200 fA200 gA200 (by omega)
                  have f0A200 := BA200.2.2.2
                  have nxA200 := BA200.2.1
                  have rdA200 := RA200.2.2.1
                  have FRA200 := FRxA198.wt eA200 fA200
                  refine hpa_aload_n (by rfl) rfl ?_
                  refine hpa_dupR (by rfl) ?_
                  refine hpj_getK (by rfl) (by rfl) (by rfl) (hkA eA200 rfl) ?_
                  refine hpa_iconst (by rfl) rfl ?_
                  refine hpj_iadd (by rfl) rfl hk_1 (by omega) (by omega) (fun z201 ez201 => ?_)
                  refine hpj_putI (by rfl) (by rfl) (by rfl) (by rfl) (fun A202 eA202 fA202 => ?_)
                  have BA202 := BA200.up (k := 41) eA202 fA202 (by omega) (by omega)
                  have RA202 := RA200.up (k := 41) eA202 fA202 (by omega)
                  have f0A202 := BA202.2.2.2
                  have nxA202 := BA202.2.1
                  have rdA202 := RA202.2.2.1
                  have hwl := X_A198.2.2.1
                  have XA202 := X_A198.push (x := (K t1).toNat) (by have := hn_cn (j := (A198.1 367 41)) (by omega); omega) eA200 fA200 eA202 fA202 (by omega) (by rw [← ev199, show (((K t1).toNat : Nat) : Int) = K t1 by omega]; exact BWA198.at.2.2.2.1) (by omega)
                  have FRA202 := FRA200.up eA202 fA202 (by omega)
                  refine hpa_aload_n (by rfl) rfl ?_
                  refine hpa_call0 (by rfl) (by rfl) (by rfl) (by rfl) (by rfl) (by rfl) (hP147 BA202 RA202 (hqd15_op (by omega))) ?_
                  rintro _ A203 ⟨rfl, (⟨B_A203, R_A203, Q_A203, G_A203⟩ | F_A203)⟩
                  ·
                    have f0_A203 := B_A203.2.2.2
                    have nx_A203 := B_A203.2.1
                    have rd_A203 := R_A203.2.2.1
                    have XA203 := XA202.Q Q_A203
                    have FRA203 := FRA202.Q Q_A203
                    have hXo : K t1 = (((K t1).toNat : Nat) : Int) := by omega
                    have GO : hg_q K V E (t1 + 1) = (dd, kk, o3, (K t1).toNat :: w3) := by rw [G_A203, G1]; exact hg_dop hXo (by omega) (by omega) (by rw [decide_eq_false (by omega)]; exact E3)
                    have CTO : hg_ct ((K t1).toNat :: w3) = od := by rw [hg_ct_op (by omega), hg_ct_st E3]; exact CT1
                    refine hpa_goto (by rfl) ?_
                    exact ih12 x96_1 (Int32.ofNat 1) A203 (by omega) (by omega) (Or.inl ⟨_, _, _, _, _, by omega, B_A203, R_A203, rfl, by omega, (fun _ => rfl), GO, XA203, FRA203, CTO⟩)
                  ·
                    have fp_A203 := F_A203.pos
                    refine hpa_goto (by rfl) ?_
                    exact ih12 x96_1 (Int32.ofNat 1) A203 (by omega) (by omega) (Or.inr F_A203)
            ·
              refine hpj_zne (by rfl) rfl (fun q204 => False.elim (by omega)) (fun q204 => ?_)
              refine hpa_aload_n (by rfl) rfl ?_
              refine hpa_bipush (by rfl) rfl ?_
              refine hpa_call0 (by rfl) (by rfl) (by rfl) (by rfl) (by rfl) (by rfl) (hP144 (Int32.ofNat 9) B1) ?_
              rintro _ _ ⟨rfl, z206, rfl, (⟨fz_A205, e_A205⟩ | ⟨fz_A205, ne_A205⟩)⟩
              ·
                refine hpj_zne (by rfl) rfl (fun q207 => ?_) (fun q207 => False.elim (by omega))
                refine hpa_iconst (by rfl) rfl ?_
                refine hpa_goto (by rfl) ?_
                refine hpa_s1 (by rfl) (Or.inl ⟨_, rfl, rfl⟩) rfl ?_
                refine hpa_iload_n (by rfl) rfl ?_
                refine hpj_zne (by rfl) hk_1 (fun q208 => ?_) (fun q208 => False.elim (by omega))
                refine hpa_aload_n (by rfl) rfl ?_
                refine hpa_aload_n (by rfl) rfl ?_
                refine hpa_bipush (by rfl) rfl ?_
                refine hpa_call0 (by rfl) (by rfl) (by rfl) (by rfl) (by rfl) (by rfl) (hP144 (Int32.ofNat 10) B1) ?_
                rintro _ _ ⟨rfl, z210, rfl, (⟨fz_A209, e_A209⟩ | ⟨fz_A209, ne_A209⟩)⟩
                ·
                  refine hpj_zne (by rfl) rfl (fun q211 => ?_) (fun q211 => False.elim (by omega))
                  refine hpa_iconst (by rfl) rfl ?_
                  refine hpa_goto (by rfl) ?_
                  obtain ⟨o3, w3, E3⟩ : ∃ o3 w3, hg_fl true oc ww = (o3, w3) := ⟨_, _, rfl⟩
                  refine hpa_call0 (by rfl) (by rfl) (by rfl) (by rfl) (by rfl) (by rfl) (hP160 (st := true) (Int32.ofNat 1) X1 E3 (Or.inl ⟨hk_1, rfl⟩)) ?_
                  rintro _ A212 ⟨rfl, W_A212, X_A212, FR_A212⟩
                  have BWA212 := B1.W W_A212
                  have RWA212 := R1.W W_A212
                  have f0WA212 := BWA212.2.2.2
                  have nxWA212 := BWA212.2.1
                  have rdWA212 := RWA212.2.2.1
                  have FRxA212 := FR1.trans FR_A212
                  refine hpa_aload_n (by rfl) rfl ?_
                  refine hpa_get (v := .ref 393) (by rfl) (by rfl) (by rfl) rfl ?_
                  refine hpa_aload_n (by rfl) rfl ?_
                  refine hpj_getK (by rfl) (by rfl) (by rfl) rfl ?_
                  refine hpa_aload_n (by rfl) rfl ?_
                  refine hpa_get (v := .ref 371) (by rfl) (by rfl) (by rfl) rfl ?_
                  refine hpa_aload_n (by rfl) rfl ?_
                  refine hpj_getK (by rfl) (by rfl) (by rfl) rfl ?_
                  refine hpx_iald (by rfl) (by rfl) (fun h0v213 h1v213 v213 ev213 => ?_)
                  rw [BWA212.at.2.2.1] at ev213
                  refine hpx_iast (by rfl) (by rfl) (fun A214 h0A214 h1A214 eA214 fA214 gA214 => ?_)
                  have BA214 := BWA212.ar eA214 fA214 gA214 (by omega)
                  have RA214 := RWA212.ar eA214 fA214 gA214 (by omega)
                  have f0A214 := BA214.2.2.2
                  have nxA214 := BA214.2.1
                  have rdA214 := RA214.2.2.1
                  have FRA214 := FRxA212.wt eA214 fA214
                  refine hpa_aload_n (by rfl) rfl ?_
                  refine hpa_dupR (by rfl) ?_
                  refine hpj_getK (by rfl) (by rfl) (by rfl) (hkA eA214 rfl) ?_
                  refine hpa_iconst (by rfl) rfl ?_
                  refine hpj_iadd (by rfl) rfl hk_1 (by omega) (by omega) (fun z215 ez215 => ?_)
                  refine hpj_putI (by rfl) (by rfl) (by rfl) (by rfl) (fun A216 eA216 fA216 => ?_)
                  have BA216 := BA214.up (k := 41) eA216 fA216 (by omega) (by omega)
                  have RA216 := RA214.up (k := 41) eA216 fA216 (by omega)
                  have f0A216 := BA216.2.2.2
                  have nxA216 := BA216.2.1
                  have rdA216 := RA216.2.2.1
                  have hwl := X_A212.2.2.1
                  have XA216 := X_A212.push (x := (K t1).toNat) (by have := hn_cn (j := (A212.1 367 41)) (by omega); omega) eA214 fA214 eA216 fA216 (by omega) (by rw [← ev213, show (((K t1).toNat : Nat) : Int) = K t1 by omega]; exact BWA212.at.2.2.2.1) (by omega)
                  have FRA216 := FRA214.up eA216 fA216 (by omega)
                  refine hpa_aload_n (by rfl) rfl ?_
                  refine hpa_call0 (by rfl) (by rfl) (by rfl) (by rfl) (by rfl) (by rfl) (hP147 BA216 RA216 (hqd15_op (by omega))) ?_
                  rintro _ A217 ⟨rfl, (⟨B_A217, R_A217, Q_A217, G_A217⟩ | F_A217)⟩
                  ·
                    have f0_A217 := B_A217.2.2.2
                    have nx_A217 := B_A217.2.1
                    have rd_A217 := R_A217.2.2.1
                    have XA217 := XA216.Q Q_A217
                    have FRA217 := FRA216.Q Q_A217
                    have hXo : K t1 = (((K t1).toNat : Nat) : Int) := by omega
                    have GO : hg_q K V E (t1 + 1) = (dd, kk, o3, (K t1).toNat :: w3) := by rw [G_A217, G1]; exact hg_dop hXo (by omega) (by omega) (by rw [decide_eq_true (by omega)]; exact E3)
                    have CTO : hg_ct ((K t1).toNat :: w3) = od := by rw [hg_ct_op (by omega), hg_ct_st E3]; exact CT1
                    refine hpa_goto (by rfl) ?_
                    exact ih12 x96_1 (Int32.ofNat 1) A217 (by omega) (by omega) (Or.inl ⟨_, _, _, _, _, by omega, B_A217, R_A217, rfl, by omega, (fun _ => rfl), GO, XA217, FRA217, CTO⟩)
                  ·
                    have fp_A217 := F_A217.pos
                    refine hpa_goto (by rfl) ?_
                    exact ih12 x96_1 (Int32.ofNat 1) A217 (by omega) (by omega) (Or.inr F_A217)
                ·
                  refine hpj_zne (by rfl) rfl (fun q218 => False.elim (by omega)) (fun q218 => ?_)
                  refine hpa_aload_n (by rfl) rfl ?_
                  refine hpa_bipush (by rfl) rfl ?_
                  refine hpa_call0 (by rfl) (by rfl) (by rfl) (by rfl) (by rfl) (by rfl) (hP144 (Int32.ofNat 15) B1) ?_
                  rintro _ _ ⟨rfl, z220, rfl, (⟨fz_A219, e_A219⟩ | ⟨fz_A219, ne_A219⟩)⟩
                  ·
                    refine hpj_zeq (by rfl) rfl (fun q221 => False.elim (by omega)) (fun q221 => ?_)
                    refine hpa_iconst (by rfl) rfl ?_
                    refine hpa_goto (by rfl) ?_
                    obtain ⟨o3, w3, E3⟩ : ∃ o3 w3, hg_fl true oc ww = (o3, w3) := ⟨_, _, rfl⟩
                    refine hpa_call0 (by rfl) (by rfl) (by rfl) (by rfl) (by rfl) (by rfl) (hP160 (st := true) (Int32.ofNat 1) X1 E3 (Or.inl ⟨hk_1, rfl⟩)) ?_
                    rintro _ A222 ⟨rfl, W_A222, X_A222, FR_A222⟩
                    have BWA222 := B1.W W_A222
                    have RWA222 := R1.W W_A222
                    have f0WA222 := BWA222.2.2.2
                    have nxWA222 := BWA222.2.1
                    have rdWA222 := RWA222.2.2.1
                    have FRxA222 := FR1.trans FR_A222
                    refine hpa_aload_n (by rfl) rfl ?_
                    refine hpa_get (v := .ref 393) (by rfl) (by rfl) (by rfl) rfl ?_
                    refine hpa_aload_n (by rfl) rfl ?_
                    refine hpj_getK (by rfl) (by rfl) (by rfl) rfl ?_
                    refine hpa_aload_n (by rfl) rfl ?_
                    refine hpa_get (v := .ref 371) (by rfl) (by rfl) (by rfl) rfl ?_
                    refine hpa_aload_n (by rfl) rfl ?_
                    refine hpj_getK (by rfl) (by rfl) (by rfl) rfl ?_
                    refine hpx_iald (by rfl) (by rfl) (fun h0v223 h1v223 v223 ev223 => ?_)
                    rw [BWA222.at.2.2.1] at ev223
                    refine hpx_iast (by rfl) (by rfl) (fun A224 h0A224 h1A224 eA224 fA224 gA224 => ?_)
                    have BA224 := BWA222.ar eA224 fA224 gA224 (by omega)
                    have RA224 := RWA222.ar eA224 fA224 gA224 (by omega)
                    have f0A224 := BA224.2.2.2
                    have nxA224 := BA224.2.1
                    have rdA224 := RA224.2.2.1
                    have FRA224 := FRxA222.wt eA224 fA224
                    refine hpa_aload_n (by rfl) rfl ?_
                    refine hpa_dupR (by rfl) ?_
                    refine hpj_getK (by rfl) (by rfl) (by rfl) (hkA eA224 rfl) ?_
                    refine hpa_iconst (by rfl) rfl ?_
                    refine hpj_iadd (by rfl) rfl hk_1 (by omega) (by omega) (fun z225 ez225 => ?_)
                    refine hpj_putI (by rfl) (by rfl) (by rfl) (by rfl) (fun A226 eA226 fA226 => ?_)
                    have BA226 := BA224.up (k := 41) eA226 fA226 (by omega) (by omega)
                    have RA226 := RA224.up (k := 41) eA226 fA226 (by omega)
                    have f0A226 := BA226.2.2.2
                    have nxA226 := BA226.2.1
                    have rdA226 := RA226.2.2.1
                    have hwl := X_A222.2.2.1
                    have XA226 := X_A222.push (x := (K t1).toNat) (by have := hn_cn (j := (A222.1 367 41)) (by omega); omega) eA224 fA224 eA226 fA226 (by omega) (by rw [← ev223, show (((K t1).toNat : Nat) : Int) = K t1 by omega]; exact BWA222.at.2.2.2.1) (by omega)
                    have FRA226 := FRA224.up eA226 fA226 (by omega)
                    refine hpa_aload_n (by rfl) rfl ?_
                    refine hpa_call0 (by rfl) (by rfl) (by rfl) (by rfl) (by rfl) (by rfl) (hP147 BA226 RA226 (hqd15_op (by omega))) ?_
                    rintro _ A227 ⟨rfl, (⟨B_A227, R_A227, Q_A227, G_A227⟩ | F_A227)⟩
                    ·
                      have f0_A227 := B_A227.2.2.2
                      have nx_A227 := B_A227.2.1
                      have rd_A227 := R_A227.2.2.1
                      have XA227 := XA226.Q Q_A227
                      have FRA227 := FRA226.Q Q_A227
                      have hXo : K t1 = (((K t1).toNat : Nat) : Int) := by omega
                      have GO : hg_q K V E (t1 + 1) = (dd, kk, o3, (K t1).toNat :: w3) := by rw [G_A227, G1]; exact hg_dop hXo (by omega) (by omega) (by rw [decide_eq_true (by omega)]; exact E3)
                      have CTO : hg_ct ((K t1).toNat :: w3) = od := by rw [hg_ct_op (by omega), hg_ct_st E3]; exact CT1
                      refine hpa_goto (by rfl) ?_
                      exact ih12 x96_1 (Int32.ofNat 1) A227 (by omega) (by omega) (Or.inl ⟨_, _, _, _, _, by omega, B_A227, R_A227, rfl, by omega, (fun _ => rfl), GO, XA227, FRA227, CTO⟩)
                    ·
                      have fp_A227 := F_A227.pos
                      refine hpa_goto (by rfl) ?_
                      exact ih12 x96_1 (Int32.ofNat 1) A227 (by omega) (by omega) (Or.inr F_A227)
                  ·
                    refine hpj_zeq (by rfl) rfl (fun q228 => ?_) (fun q228 => False.elim (by omega))
                    refine hpa_iconst (by rfl) rfl ?_
                    obtain ⟨o3, w3, E3⟩ : ∃ o3 w3, hg_fl false oc ww = (o3, w3) := ⟨_, _, rfl⟩
                    refine hpa_call0 (by rfl) (by rfl) (by rfl) (by rfl) (by rfl) (by rfl) (hP160 (st := false) (Int32.ofNat 0) X1 E3 (Or.inr ⟨hk_0, rfl⟩)) ?_
                    rintro _ A229 ⟨rfl, W_A229, X_A229, FR_A229⟩
                    have BWA229 := B1.W W_A229
                    have RWA229 := R1.W W_A229
                    have f0WA229 := BWA229.2.2.2
                    have nxWA229 := BWA229.2.1
                    have rdWA229 := RWA229.2.2.1
                    have FRxA229 := FR1.trans FR_A229
                    refine hpa_aload_n (by rfl) rfl ?_
                    refine hpa_get (v := .ref 393) (by rfl) (by rfl) (by rfl) rfl ?_
                    refine hpa_aload_n (by rfl) rfl ?_
                    refine hpj_getK (by rfl) (by rfl) (by rfl) rfl ?_
                    refine hpa_aload_n (by rfl) rfl ?_
                    refine hpa_get (v := .ref 371) (by rfl) (by rfl) (by rfl) rfl ?_
                    refine hpa_aload_n (by rfl) rfl ?_
                    refine hpj_getK (by rfl) (by rfl) (by rfl) rfl ?_
                    refine hpx_iald (by rfl) (by rfl) (fun h0v230 h1v230 v230 ev230 => ?_)
                    rw [BWA229.at.2.2.1] at ev230
                    refine hpx_iast (by rfl) (by rfl) (fun A231 h0A231 h1A231 eA231 fA231 gA231 => ?_)
                    have BA231 := BWA229.ar eA231 fA231 gA231 (by omega)
                    have RA231 := RWA229.ar eA231 fA231 gA231 (by omega)
                    have f0A231 := BA231.2.2.2
                    have nxA231 := BA231.2.1
                    have rdA231 := RA231.2.2.1
                    have FRA231 := FRxA229.wt eA231 fA231
                    refine hpa_aload_n (by rfl) rfl ?_
                    refine hpa_dupR (by rfl) ?_
                    refine hpj_getK (by rfl) (by rfl) (by rfl) (hkA eA231 rfl) ?_
                    refine hpa_iconst (by rfl) rfl ?_
                    refine hpj_iadd (by rfl) rfl hk_1 (by omega) (by omega) (fun z232 ez232 => ?_)
                    refine hpj_putI (by rfl) (by rfl) (by rfl) (by rfl) (fun A233 eA233 fA233 => ?_)
                    have BA233 := BA231.up (k := 41) eA233 fA233 (by omega) (by omega)
                    have RA233 := RA231.up (k := 41) eA233 fA233 (by omega)
                    have f0A233 := BA233.2.2.2
                    have nxA233 := BA233.2.1
                    have rdA233 := RA233.2.2.1
                    have hwl := X_A229.2.2.1
                    have XA233 := X_A229.push (x := (K t1).toNat) (by have := hn_cn (j := (A229.1 367 41)) (by omega); omega) eA231 fA231 eA233 fA233 (by omega) (by rw [← ev230, show (((K t1).toNat : Nat) : Int) = K t1 by omega]; exact BWA229.at.2.2.2.1) (by omega)
                    have FRA233 := FRA231.up eA233 fA233 (by omega)
                    refine hpa_aload_n (by rfl) rfl ?_
                    refine hpa_call0 (by rfl) (by rfl) (by rfl) (by rfl) (by rfl) (by rfl) (hP147 BA233 RA233 (hqd15_op (by omega))) ?_
                    rintro _ A234 ⟨rfl, (⟨B_A234, R_A234, Q_A234, G_A234⟩ | F_A234)⟩
                    ·
                      have f0_A234 := B_A234.2.2.2
                      have nx_A234 := B_A234.2.1
                      have rd_A234 := R_A234.2.2.1
                      have XA234 := XA233.Q Q_A234
                      have FRA234 := FRA233.Q Q_A234
                      have hXo : K t1 = (((K t1).toNat : Nat) : Int) := by omega
                      have GO : hg_q K V E (t1 + 1) = (dd, kk, o3, (K t1).toNat :: w3) := by rw [G_A234, G1]; exact hg_dop hXo (by omega) (by omega) (by rw [decide_eq_false (by omega)]; exact E3)
                      have CTO : hg_ct ((K t1).toNat :: w3) = od := by rw [hg_ct_op (by omega), hg_ct_st E3]; exact CT1
                      refine hpa_goto (by rfl) ?_
                      exact ih12 x96_1 (Int32.ofNat 1) A234 (by omega) (by omega) (Or.inl ⟨_, _, _, _, _, by omega, B_A234, R_A234, rfl, by omega, (fun _ => rfl), GO, XA234, FRA234, CTO⟩)
                    ·
                      have fp_A234 := F_A234.pos
                      refine hpa_goto (by rfl) ?_
                      exact ih12 x96_1 (Int32.ofNat 1) A234 (by omega) (by omega) (Or.inr F_A234)
              ·
                refine hpj_zne (by rfl) rfl (fun q235 => False.elim (by omega)) (fun q235 => ?_)
                refine hpa_aload_n (by rfl) rfl ?_
                refine hpa_bipush (by rfl) rfl ?_
                refine hpa_call0 (by rfl) (by rfl) (by rfl) (by rfl) (by rfl) (by rfl) (hP144 (Int32.ofNat 10) B1) ?_
                rintro _ _ ⟨rfl, z237, rfl, (⟨fz_A236, e_A236⟩ | ⟨fz_A236, ne_A236⟩)⟩
                ·
                  refine hpj_zne (by rfl) rfl (fun q238 => ?_) (fun q238 => False.elim (by omega))
                  refine hpa_iconst (by rfl) rfl ?_
                  refine hpa_goto (by rfl) ?_
                  refine hpa_s1 (by rfl) (Or.inl ⟨_, rfl, rfl⟩) rfl ?_
                  refine hpa_iload_n (by rfl) rfl ?_
                  refine hpj_zne (by rfl) hk_1 (fun q239 => ?_) (fun q239 => False.elim (by omega))
                  refine hpa_aload_n (by rfl) rfl ?_
                  refine hpa_aload_n (by rfl) rfl ?_
                  refine hpa_bipush (by rfl) rfl ?_
                  refine hpa_call0 (by rfl) (by rfl) (by rfl) (by rfl) (by rfl) (by rfl) (hP144 (Int32.ofNat 10) B1) ?_
                  rintro _ _ ⟨rfl, z241, rfl, (⟨fz_A240, e_A240⟩ | ⟨fz_A240, ne_A240⟩)⟩
                  ·
                    refine hpj_zne (by rfl) rfl (fun q242 => ?_) (fun q242 => False.elim (by omega))
                    refine hpa_iconst (by rfl) rfl ?_
                    refine hpa_goto (by rfl) ?_
                    obtain ⟨o3, w3, E3⟩ : ∃ o3 w3, hg_fl true oc ww = (o3, w3) := ⟨_, _, rfl⟩
                    refine hpa_call0 (by rfl) (by rfl) (by rfl) (by rfl) (by rfl) (by rfl) (hP160 (st := true) (Int32.ofNat 1) X1 E3 (Or.inl ⟨hk_1, rfl⟩)) ?_
                    rintro _ A243 ⟨rfl, W_A243, X_A243, FR_A243⟩
                    have BWA243 := B1.W W_A243
                    have RWA243 := R1.W W_A243
                    have f0WA243 := BWA243.2.2.2
                    have nxWA243 := BWA243.2.1
                    have rdWA243 := RWA243.2.2.1
                    have FRxA243 := FR1.trans FR_A243
                    refine hpa_aload_n (by rfl) rfl ?_
                    refine hpa_get (v := .ref 393) (by rfl) (by rfl) (by rfl) rfl ?_
                    refine hpa_aload_n (by rfl) rfl ?_
                    refine hpj_getK (by rfl) (by rfl) (by rfl) rfl ?_
                    refine hpa_aload_n (by rfl) rfl ?_
                    refine hpa_get (v := .ref 371) (by rfl) (by rfl) (by rfl) rfl ?_
                    refine hpa_aload_n (by rfl) rfl ?_
                    refine hpj_getK (by rfl) (by rfl) (by rfl) rfl ?_
                    refine hpx_iald (by rfl) (by rfl) (fun h0v244 h1v244 v244 ev244 => ?_)
                    rw [BWA243.at.2.2.1] at ev244
                    refine hpx_iast (by rfl) (by rfl) (fun A245 h0A245 h1A245 eA245 fA245 gA245 => ?_)
                    have BA245 := BWA243.ar eA245 fA245 gA245 (by omega)
                    have RA245 := RWA243.ar eA245 fA245 gA245 (by omega)
                    have f0A245 := BA245.2.2.2
                    have nxA245 := BA245.2.1
                    have rdA245 := RA245.2.2.1
                    have FRA245 := FRxA243.wt eA245 fA245
                    refine hpa_aload_n (by rfl) rfl ?_
                    refine hpa_dupR (by rfl) ?_
                    refine hpj_getK (by rfl) (by rfl) (by rfl) (hkA eA245 rfl) ?_
                    refine hpa_iconst (by rfl) rfl ?_
                    refine hpj_iadd (by rfl) rfl hk_1 (by omega) (by omega) (fun z246 ez246 => ?_)
                    refine hpj_putI (by rfl) (by rfl) (by rfl) (by rfl) (fun A247 eA247 fA247 => ?_)
                    have BA247 := BA245.up (k := 41) eA247 fA247 (by omega) (by omega)
                    have RA247 := RA245.up (k := 41) eA247 fA247 (by omega)
                    have f0A247 := BA247.2.2.2
                    have nxA247 := BA247.2.1
                    have rdA247 := RA247.2.2.1
                    have hwl := X_A243.2.2.1
                    have XA247 := X_A243.push (x := (K t1).toNat) (by have := hn_cn (j := (A243.1 367 41)) (by omega); omega) eA245 fA245 eA247 fA247 (by omega) (by rw [← ev244, show (((K t1).toNat : Nat) : Int) = K t1 by omega]; exact BWA243.at.2.2.2.1) (by omega)
                    have FRA247 := FRA245.up eA247 fA247 (by omega)
                    refine hpa_aload_n (by rfl) rfl ?_
                    refine hpa_call0 (by rfl) (by rfl) (by rfl) (by rfl) (by rfl) (by rfl) (hP147 BA247 RA247 (hqd15_op (by omega))) ?_
                    rintro _ A248 ⟨rfl, (⟨B_A248, R_A248, Q_A248, G_A248⟩ | F_A248)⟩
                    ·
                      have f0_A248 := B_A248.2.2.2
                      have nx_A248 := B_A248.2.1
                      have rd_A248 := R_A248.2.2.1
                      have XA248 := XA247.Q Q_A248
                      have FRA248 := FRA247.Q Q_A248
                      have hXo : K t1 = (((K t1).toNat : Nat) : Int) := by omega
                      have GO : hg_q K V E (t1 + 1) = (dd, kk, o3, (K t1).toNat :: w3) := by rw [G_A248, G1]; exact hg_dop hXo (by omega) (by omega) (by rw [decide_eq_true (by omega)]; exact E3)
                      have CTO : hg_ct ((K t1).toNat :: w3) = od := by rw [hg_ct_op (by omega), hg_ct_st E3]; exact CT1
                      refine hpa_goto (by rfl) ?_
                      exact ih12 x96_1 (Int32.ofNat 1) A248 (by omega) (by omega) (Or.inl ⟨_, _, _, _, _, by omega, B_A248, R_A248, rfl, by omega, (fun _ => rfl), GO, XA248, FRA248, CTO⟩)
                    ·
                      have fp_A248 := F_A248.pos
                      refine hpa_goto (by rfl) ?_
                      exact ih12 x96_1 (Int32.ofNat 1) A248 (by omega) (by omega) (Or.inr F_A248)
                  ·
                    refine hpj_zne (by rfl) rfl (fun q249 => False.elim (by omega)) (fun q249 => ?_)
                    refine hpa_aload_n (by rfl) rfl ?_
                    refine hpa_bipush (by rfl) rfl ?_
                    refine hpa_call0 (by rfl) (by rfl) (by rfl) (by rfl) (by rfl) (by rfl) (hP144 (Int32.ofNat 15) B1) ?_
                    rintro _ _ ⟨rfl, z251, rfl, (⟨fz_A250, e_A250⟩ | ⟨fz_A250, ne_A250⟩)⟩
                    ·
                      refine hpj_zeq (by rfl) rfl (fun q252 => False.elim (by omega)) (fun q252 => ?_)
                      refine hpa_iconst (by rfl) rfl ?_
                      refine hpa_goto (by rfl) ?_
                      obtain ⟨o3, w3, E3⟩ : ∃ o3 w3, hg_fl true oc ww = (o3, w3) := ⟨_, _, rfl⟩
                      refine hpa_call0 (by rfl) (by rfl) (by rfl) (by rfl) (by rfl) (by rfl) (hP160 (st := true) (Int32.ofNat 1) X1 E3 (Or.inl ⟨hk_1, rfl⟩)) ?_
                      rintro _ A253 ⟨rfl, W_A253, X_A253, FR_A253⟩
                      have BWA253 := B1.W W_A253
                      have RWA253 := R1.W W_A253
                      have f0WA253 := BWA253.2.2.2
                      have nxWA253 := BWA253.2.1
                      have rdWA253 := RWA253.2.2.1
                      have FRxA253 := FR1.trans FR_A253
                      refine hpa_aload_n (by rfl) rfl ?_
                      refine hpa_get (v := .ref 393) (by rfl) (by rfl) (by rfl) rfl ?_
                      refine hpa_aload_n (by rfl) rfl ?_
                      refine hpj_getK (by rfl) (by rfl) (by rfl) rfl ?_
                      refine hpa_aload_n (by rfl) rfl ?_
                      refine hpa_get (v := .ref 371) (by rfl) (by rfl) (by rfl) rfl ?_
                      refine hpa_aload_n (by rfl) rfl ?_
                      refine hpj_getK (by rfl) (by rfl) (by rfl) rfl ?_
                      refine hpx_iald (by rfl) (by rfl) (fun h0v254 h1v254 v254 ev254 => ?_)
                      rw [BWA253.at.2.2.1] at ev254
                      refine hpx_iast (by rfl) (by rfl) (fun A255 h0A255 h1A255 eA255 fA255 gA255 => ?_)
                      have BA255 := BWA253.ar eA255 fA255 gA255 (by omega)
                      have RA255 := RWA253.ar eA255 fA255 gA255 (by omega)
                      have f0A255 := BA255.2.2.2
                      have nxA255 := BA255.2.1
                      have rdA255 := RA255.2.2.1
                      have FRA255 := FRxA253.wt eA255 fA255
                      refine hpa_aload_n (by rfl) rfl ?_
                      refine hpa_dupR (by rfl) ?_
                      refine hpj_getK (by rfl) (by rfl) (by rfl) (hkA eA255 rfl) ?_
                      refine hpa_iconst (by rfl) rfl ?_
                      refine hpj_iadd (by rfl) rfl hk_1 (by omega) (by omega) (fun z256 ez256 => ?_)
                      refine hpj_putI (by rfl) (by rfl) (by rfl) (by rfl) (fun A257 eA257 fA257 => ?_)
                      have BA257 := BA255.up (k := 41) eA257 fA257 (by omega) (by omega)
                      have RA257 := RA255.up (k := 41) eA257 fA257 (by omega)
                      have f0A257 := BA257.2.2.2
                      have nxA257 := BA257.2.1
                      have rdA257 := RA257.2.2.1
                      have hwl := X_A253.2.2.1
                      have XA257 := X_A253.push (x := (K t1).toNat) (by have := hn_cn (j := (A253.1 367 41)) (by omega); omega) eA255 fA255 eA257 fA257 (by omega) (by rw [← ev254, show (((K t1).toNat : Nat) : Int) = K t1 by omega]; exact BWA253.at.2.2.2.1) (by omega)
                      have FRA257 := FRA255.up eA257 fA257 (by omega)
                      refine hpa_aload_n (by rfl) rfl ?_
                      refine hpa_call0 (by rfl) (by rfl) (by rfl) (by rfl) (by rfl) (by rfl) (hP147 BA257 RA257 (hqd15_op (by omega))) ?_
                      rintro _ A258 ⟨rfl, (⟨B_A258, R_A258, Q_A258, G_A258⟩ | F_A258)⟩
                      ·
                        have f0_A258 := B_A258.2.2.2
                        have nx_A258 := B_A258.2.1
                        have rd_A258 := R_A258.2.2.1
                        have XA258 := XA257.Q Q_A258
                        have FRA258 := FRA257.Q Q_A258
                        have hXo : K t1 = (((K t1).toNat : Nat) : Int) := by omega
                        have GO : hg_q K V E (t1 + 1) = (dd, kk, o3, (K t1).toNat :: w3) := by rw [G_A258, G1]; exact hg_dop hXo (by omega) (by omega) (by rw [decide_eq_true (by omega)]; exact E3)
                        have CTO : hg_ct ((K t1).toNat :: w3) = od := by rw [hg_ct_op (by omega), hg_ct_st E3]; exact CT1
                        refine hpa_goto (by rfl) ?_
                        exact ih12 x96_1 (Int32.ofNat 1) A258 (by omega) (by omega) (Or.inl ⟨_, _, _, _, _, by omega, B_A258, R_A258, rfl, by omega, (fun _ => rfl), GO, XA258, FRA258, CTO⟩)
                      ·
                        have fp_A258 := F_A258.pos
                        refine hpa_goto (by rfl) ?_
                        exact ih12 x96_1 (Int32.ofNat 1) A258 (by omega) (by omega) (Or.inr F_A258)
                    ·
                      refine hpj_zeq (by rfl) rfl (fun q259 => ?_) (fun q259 => False.elim (by omega))
                      refine hpa_iconst (by rfl) rfl ?_
                      obtain ⟨o3, w3, E3⟩ : ∃ o3 w3, hg_fl false oc ww = (o3, w3) := ⟨_, _, rfl⟩
                      refine hpa_call0 (by rfl) (by rfl) (by rfl) (by rfl) (by rfl) (by rfl) (hP160 (st := false) (Int32.ofNat 0) X1 E3 (Or.inr ⟨hk_0, rfl⟩)) ?_
                      rintro _ A260 ⟨rfl, W_A260, X_A260, FR_A260⟩
                      have BWA260 := B1.W W_A260
                      have RWA260 := R1.W W_A260
                      have f0WA260 := BWA260.2.2.2
                      have nxWA260 := BWA260.2.1
                      have rdWA260 := RWA260.2.2.1
                      have FRxA260 := FR1.trans FR_A260
                      refine hpa_aload_n (by rfl) rfl ?_
                      refine hpa_get (v := .ref 393) (by rfl) (by rfl) (by rfl) rfl ?_
                      refine hpa_aload_n (by rfl) rfl ?_
                      refine hpj_getK (by rfl) (by rfl) (by rfl) rfl ?_
                      refine hpa_aload_n (by rfl) rfl ?_
                      refine hpa_get (v := .ref 371) (by rfl) (by rfl) (by rfl) rfl ?_
                      refine hpa_aload_n (by rfl) rfl ?_
                      refine hpj_getK (by rfl) (by rfl) (by rfl) rfl ?_
                      refine hpx_iald (by rfl) (by rfl) (fun h0v261 h1v261 v261 ev261 => ?_)
                      rw [BWA260.at.2.2.1] at ev261
                      refine hpx_iast (by rfl) (by rfl) (fun A262 h0A262 h1A262 eA262 fA262 gA262 => ?_)
                      have BA262 := BWA260.ar eA262 fA262 gA262 (by omega)
                      have RA262 := RWA260.ar eA262 fA262 gA262 (by omega)
                      have f0A262 := BA262.2.2.2
                      have nxA262 := BA262.2.1
                      have rdA262 := RA262.2.2.1
                      have FRA262 := FRxA260.wt eA262 fA262
                      refine hpa_aload_n (by rfl) rfl ?_
                      refine hpa_dupR (by rfl) ?_
                      refine hpj_getK (by rfl) (by rfl) (by rfl) (hkA eA262 rfl) ?_
                      refine hpa_iconst (by rfl) rfl ?_
                      refine hpj_iadd (by rfl) rfl hk_1 (by omega) (by omega) (fun z263 ez263 => ?_)
                      refine hpj_putI (by rfl) (by rfl) (by rfl) (by rfl) (fun A264 eA264 fA264 => ?_)
                      have BA264 := BA262.up (k := 41) eA264 fA264 (by omega) (by omega)
                      have RA264 := RA262.up (k := 41) eA264 fA264 (by omega)
                      have f0A264 := BA264.2.2.2
                      have nxA264 := BA264.2.1
                      have rdA264 := RA264.2.2.1
                      have hwl := X_A260.2.2.1
                      have XA264 := X_A260.push (x := (K t1).toNat) (by have := hn_cn (j := (A260.1 367 41)) (by omega); omega) eA262 fA262 eA264 fA264 (by omega) (by rw [← ev261, show (((K t1).toNat : Nat) : Int) = K t1 by omega]; exact BWA260.at.2.2.2.1) (by omega)
                      have FRA264 := FRA262.up eA264 fA264 (by omega)
                      refine hpa_aload_n (by rfl) rfl ?_
                      refine hpa_call0 (by rfl) (by rfl) (by rfl) (by rfl) (by rfl) (by rfl) (hP147 BA264 RA264 (hqd15_op (by omega))) ?_
                      rintro _ A265 ⟨rfl, (⟨B_A265, R_A265, Q_A265, G_A265⟩ | F_A265)⟩
                      ·
                        have f0_A265 := B_A265.2.2.2
                        have nx_A265 := B_A265.2.1
                        have rd_A265 := R_A265.2.2.1
                        have XA265 := XA264.Q Q_A265
                        have FRA265 := FRA264.Q Q_A265
                        have hXo : K t1 = (((K t1).toNat : Nat) : Int) := by omega
                        have GO : hg_q K V E (t1 + 1) = (dd, kk, o3, (K t1).toNat :: w3) := by rw [G_A265, G1]; exact hg_dop hXo (by omega) (by omega) (by rw [decide_eq_false (by omega)]; exact E3)
                        have CTO : hg_ct ((K t1).toNat :: w3) = od := by rw [hg_ct_op (by omega), hg_ct_st E3]; exact CT1
                        refine hpa_goto (by rfl) ?_
                        exact ih12 x96_1 (Int32.ofNat 1) A265 (by omega) (by omega) (Or.inl ⟨_, _, _, _, _, by omega, B_A265, R_A265, rfl, by omega, (fun _ => rfl), GO, XA265, FRA265, CTO⟩)
                      ·
                        have fp_A265 := F_A265.pos
                        refine hpa_goto (by rfl) ?_
                        exact ih12 x96_1 (Int32.ofNat 1) A265 (by omega) (by omega) (Or.inr F_A265)
                ·
                  refine hpj_zne (by rfl) rfl (fun q266 => False.elim (by omega)) (fun q266 => ?_)
                  refine hpa_aload_n (by rfl) rfl ?_
                  refine hpa_bipush (by rfl) rfl ?_
                  refine hpa_call0 (by rfl) (by rfl) (by rfl) (by rfl) (by rfl) (by rfl) (hP144 (Int32.ofNat 15) B1) ?_
                  rintro _ _ ⟨rfl, z268, rfl, (⟨fz_A267, e_A267⟩ | ⟨fz_A267, ne_A267⟩)⟩
                  ·
                    refine hpj_zeq (by rfl) rfl (fun q269 => False.elim (by omega)) (fun q269 => ?_)
                    refine hpa_iconst (by rfl) rfl ?_
                    refine hpa_goto (by rfl) ?_
                    refine hpa_s1 (by rfl) (Or.inl ⟨_, rfl, rfl⟩) rfl ?_
                    refine hpa_iload_n (by rfl) rfl ?_
                    refine hpj_zne (by rfl) hk_1 (fun q270 => ?_) (fun q270 => False.elim (by omega))
                    refine hpa_aload_n (by rfl) rfl ?_
                    refine hpa_aload_n (by rfl) rfl ?_
                    refine hpa_bipush (by rfl) rfl ?_
                    refine hpa_call0 (by rfl) (by rfl) (by rfl) (by rfl) (by rfl) (by rfl) (hP144 (Int32.ofNat 10) B1) ?_
                    rintro _ _ ⟨rfl, z272, rfl, (⟨fz_A271, e_A271⟩ | ⟨fz_A271, ne_A271⟩)⟩
                    ·
                      refine hpj_zne (by rfl) rfl (fun q273 => ?_) (fun q273 => False.elim (by omega))
                      refine hpa_iconst (by rfl) rfl ?_
                      refine hpa_goto (by rfl) ?_
                      obtain ⟨o3, w3, E3⟩ : ∃ o3 w3, hg_fl true oc ww = (o3, w3) := ⟨_, _, rfl⟩
                      refine hpa_call0 (by rfl) (by rfl) (by rfl) (by rfl) (by rfl) (by rfl) (hP160 (st := true) (Int32.ofNat 1) X1 E3 (Or.inl ⟨hk_1, rfl⟩)) ?_
                      rintro _ A274 ⟨rfl, W_A274, X_A274, FR_A274⟩
                      have BWA274 := B1.W W_A274
                      have RWA274 := R1.W W_A274
                      have f0WA274 := BWA274.2.2.2
                      have nxWA274 := BWA274.2.1
                      have rdWA274 := RWA274.2.2.1
                      have FRxA274 := FR1.trans FR_A274
                      refine hpa_aload_n (by rfl) rfl ?_
                      refine hpa_get (v := .ref 393) (by rfl) (by rfl) (by rfl) rfl ?_
                      refine hpa_aload_n (by rfl) rfl ?_
                      refine hpj_getK (by rfl) (by rfl) (by rfl) rfl ?_
                      refine hpa_aload_n (by rfl) rfl ?_
                      refine hpa_get (v := .ref 371) (by rfl) (by rfl) (by rfl) rfl ?_
                      refine hpa_aload_n (by rfl) rfl ?_
                      refine hpj_getK (by rfl) (by rfl) (by rfl) rfl ?_
                      refine hpx_iald (by rfl) (by rfl) (fun h0v275 h1v275 v275 ev275 => ?_)
                      rw [BWA274.at.2.2.1] at ev275
                      refine hpx_iast (by rfl) (by rfl) (fun A276 h0A276 h1A276 eA276 fA276 gA276 => ?_)
                      have BA276 := BWA274.ar eA276 fA276 gA276 (by omega)
                      have RA276 := RWA274.ar eA276 fA276 gA276 (by omega)
                      have f0A276 := BA276.2.2.2
                      have nxA276 := BA276.2.1
                      have rdA276 := RA276.2.2.1
                      have FRA276 := FRxA274.wt eA276 fA276
                      refine hpa_aload_n (by rfl) rfl ?_
                      refine hpa_dupR (by rfl) ?_
                      refine hpj_getK (by rfl) (by rfl) (by rfl) (hkA eA276 rfl) ?_
                      refine hpa_iconst (by rfl) rfl ?_
                      refine hpj_iadd (by rfl) rfl hk_1 (by omega) (by omega) (fun z277 ez277 => ?_)
                      refine hpj_putI (by rfl) (by rfl) (by rfl) (by rfl) (fun A278 eA278 fA278 => ?_)
                      have BA278 := BA276.up (k := 41) eA278 fA278 (by omega) (by omega)
                      have RA278 := RA276.up (k := 41) eA278 fA278 (by omega)
                      have f0A278 := BA278.2.2.2
                      have nxA278 := BA278.2.1
                      have rdA278 := RA278.2.2.1
                      have hwl := X_A274.2.2.1
                      have XA278 := X_A274.push (x := (K t1).toNat) (by have := hn_cn (j := (A274.1 367 41)) (by omega); omega) eA276 fA276 eA278 fA278 (by omega) (by rw [← ev275, show (((K t1).toNat : Nat) : Int) = K t1 by omega]; exact BWA274.at.2.2.2.1) (by omega)
                      have FRA278 := FRA276.up eA278 fA278 (by omega)
                      refine hpa_aload_n (by rfl) rfl ?_
                      refine hpa_call0 (by rfl) (by rfl) (by rfl) (by rfl) (by rfl) (by rfl) (hP147 BA278 RA278 (hqd15_op (by omega))) ?_
                      rintro _ A279 ⟨rfl, (⟨B_A279, R_A279, Q_A279, G_A279⟩ | F_A279)⟩
                      ·
                        have f0_A279 := B_A279.2.2.2
                        have nx_A279 := B_A279.2.1
                        have rd_A279 := R_A279.2.2.1
                        have XA279 := XA278.Q Q_A279
                        have FRA279 := FRA278.Q Q_A279
                        have hXo : K t1 = (((K t1).toNat : Nat) : Int) := by omega
                        have GO : hg_q K V E (t1 + 1) = (dd, kk, o3, (K t1).toNat :: w3) := by rw [G_A279, G1]; exact hg_dop hXo (by omega) (by omega) (by rw [decide_eq_true (by omega)]; exact E3)
                        have CTO : hg_ct ((K t1).toNat :: w3) = od := by rw [hg_ct_op (by omega), hg_ct_st E3]; exact CT1
                        refine hpa_goto (by rfl) ?_
                        exact ih12 x96_1 (Int32.ofNat 1) A279 (by omega) (by omega) (Or.inl ⟨_, _, _, _, _, by omega, B_A279, R_A279, rfl, by omega, (fun _ => rfl), GO, XA279, FRA279, CTO⟩)
                      ·
                        have fp_A279 := F_A279.pos
                        refine hpa_goto (by rfl) ?_
                        exact ih12 x96_1 (Int32.ofNat 1) A279 (by omega) (by omega) (Or.inr F_A279)
                    ·
                      refine hpj_zne (by rfl) rfl (fun q280 => False.elim (by omega)) (fun q280 => ?_)
                      refine hpa_aload_n (by rfl) rfl ?_
                      refine hpa_bipush (by rfl) rfl ?_
                      refine hpa_call0 (by rfl) (by rfl) (by rfl) (by rfl) (by rfl) (by rfl) (hP144 (Int32.ofNat 15) B1) ?_
                      rintro _ _ ⟨rfl, z282, rfl, (⟨fz_A281, e_A281⟩ | ⟨fz_A281, ne_A281⟩)⟩
                      ·
                        refine hpj_zeq (by rfl) rfl (fun q283 => False.elim (by omega)) (fun q283 => ?_)
                        refine hpa_iconst (by rfl) rfl ?_
                        refine hpa_goto (by rfl) ?_
                        obtain ⟨o3, w3, E3⟩ : ∃ o3 w3, hg_fl true oc ww = (o3, w3) := ⟨_, _, rfl⟩
                        refine hpa_call0 (by rfl) (by rfl) (by rfl) (by rfl) (by rfl) (by rfl) (hP160 (st := true) (Int32.ofNat 1) X1 E3 (Or.inl ⟨hk_1, rfl⟩)) ?_
                        rintro _ A284 ⟨rfl, W_A284, X_A284, FR_A284⟩
                        have BWA284 := B1.W W_A284
                        have RWA284 := R1.W W_A284
                        have f0WA284 := BWA284.2.2.2
                        have nxWA284 := BWA284.2.1
                        have rdWA284 := RWA284.2.2.1
                        have FRxA284 := FR1.trans FR_A284
                        refine hpa_aload_n (by rfl) rfl ?_
                        refine hpa_get (v := .ref 393) (by rfl) (by rfl) (by rfl) rfl ?_
                        refine hpa_aload_n (by rfl) rfl ?_
                        refine hpj_getK (by rfl) (by rfl) (by rfl) rfl ?_
                        refine hpa_aload_n (by rfl) rfl ?_
                        refine hpa_get (v := .ref 371) (by rfl) (by rfl) (by rfl) rfl ?_
                        refine hpa_aload_n (by rfl) rfl ?_
                        refine hpj_getK (by rfl) (by rfl) (by rfl) rfl ?_
                        refine hpx_iald (by rfl) (by rfl) (fun h0v285 h1v285 v285 ev285 => ?_)
                        rw [BWA284.at.2.2.1] at ev285
                        refine hpx_iast (by rfl) (by rfl) (fun A286 h0A286 h1A286 eA286 fA286 gA286 => ?_)
                        have BA286 := BWA284.ar eA286 fA286 gA286 (by omega)
                        have RA286 := RWA284.ar eA286 fA286 gA286 (by omega)
                        have f0A286 := BA286.2.2.2
                        have nxA286 := BA286.2.1
                        have rdA286 := RA286.2.2.1
                        have FRA286 := FRxA284.wt eA286 fA286
                        refine hpa_aload_n (by rfl) rfl ?_
                        refine hpa_dupR (by rfl) ?_
                        refine hpj_getK (by rfl) (by rfl) (by rfl) (hkA eA286 rfl) ?_
                        refine hpa_iconst (by rfl) rfl ?_
                        refine hpj_iadd (by rfl) rfl hk_1 (by omega) (by omega) (fun z287 ez287 => ?_)
                        refine hpj_putI (by rfl) (by rfl) (by rfl) (by rfl) (fun A288 eA288 fA288 => ?_)
                        have BA288 := BA286.up (k := 41) eA288 fA288 (by omega) (by omega)
                        have RA288 := RA286.up (k := 41) eA288 fA288 (by omega)
                        have f0A288 := BA288.2.2.2
                        have nxA288 := BA288.2.1
                        have rdA288 := RA288.2.2.1
                        have hwl := X_A284.2.2.1
                        have XA288 := X_A284.push (x := (K t1).toNat) (by have := hn_cn (j := (A284.1 367 41)) (by omega); omega) eA286 fA286 eA288 fA288 (by omega) (by rw [← ev285, show (((K t1).toNat : Nat) : Int) = K t1 by omega]; exact BWA284.at.2.2.2.1) (by omega)
                        have FRA288 := FRA286.up eA288 fA288 (by omega)
                        refine hpa_aload_n (by rfl) rfl ?_
                        refine hpa_call0 (by rfl) (by rfl) (by rfl) (by rfl) (by rfl) (by rfl) (hP147 BA288 RA288 (hqd15_op (by omega))) ?_
                        rintro _ A289 ⟨rfl, (⟨B_A289, R_A289, Q_A289, G_A289⟩ | F_A289)⟩
                        ·
                          have f0_A289 := B_A289.2.2.2
                          have nx_A289 := B_A289.2.1
                          have rd_A289 := R_A289.2.2.1
                          have XA289 := XA288.Q Q_A289
                          have FRA289 := FRA288.Q Q_A289
                          have hXo : K t1 = (((K t1).toNat : Nat) : Int) := by omega
                          have GO : hg_q K V E (t1 + 1) = (dd, kk, o3, (K t1).toNat :: w3) := by rw [G_A289, G1]; exact hg_dop hXo (by omega) (by omega) (by rw [decide_eq_true (by omega)]; exact E3)
                          have CTO : hg_ct ((K t1).toNat :: w3) = od := by rw [hg_ct_op (by omega), hg_ct_st E3]; exact CT1
                          refine hpa_goto (by rfl) ?_
                          exact ih12 x96_1 (Int32.ofNat 1) A289 (by omega) (by omega) (Or.inl ⟨_, _, _, _, _, by omega, B_A289, R_A289, rfl, by omega, (fun _ => rfl), GO, XA289, FRA289, CTO⟩)
                        ·
                          have fp_A289 := F_A289.pos
                          refine hpa_goto (by rfl) ?_
                          exact ih12 x96_1 (Int32.ofNat 1) A289 (by omega) (by omega) (Or.inr F_A289)
                      ·
                        refine hpj_zeq (by rfl) rfl (fun q290 => ?_) (fun q290 => False.elim (by omega))
                        refine hpa_iconst (by rfl) rfl ?_
                        obtain ⟨o3, w3, E3⟩ : ∃ o3 w3, hg_fl false oc ww = (o3, w3) := ⟨_, _, rfl⟩
                        refine hpa_call0 (by rfl) (by rfl) (by rfl) (by rfl) (by rfl) (by rfl) (hP160 (st := false) (Int32.ofNat 0) X1 E3 (Or.inr ⟨hk_0, rfl⟩)) ?_
                        rintro _ A291 ⟨rfl, W_A291, X_A291, FR_A291⟩
                        have BWA291 := B1.W W_A291
                        have RWA291 := R1.W W_A291
                        have f0WA291 := BWA291.2.2.2
                        have nxWA291 := BWA291.2.1
                        have rdWA291 := RWA291.2.2.1
                        have FRxA291 := FR1.trans FR_A291
                        refine hpa_aload_n (by rfl) rfl ?_
                        refine hpa_get (v := .ref 393) (by rfl) (by rfl) (by rfl) rfl ?_
                        refine hpa_aload_n (by rfl) rfl ?_
                        refine hpj_getK (by rfl) (by rfl) (by rfl) rfl ?_
                        refine hpa_aload_n (by rfl) rfl ?_
                        refine hpa_get (v := .ref 371) (by rfl) (by rfl) (by rfl) rfl ?_
                        refine hpa_aload_n (by rfl) rfl ?_
                        refine hpj_getK (by rfl) (by rfl) (by rfl) rfl ?_
                        refine hpx_iald (by rfl) (by rfl) (fun h0v292 h1v292 v292 ev292 => ?_)
                        rw [BWA291.at.2.2.1] at ev292
                        refine hpx_iast (by rfl) (by rfl) (fun A293 h0A293 h1A293 eA293 fA293 gA293 => ?_)
                        have BA293 := BWA291.ar eA293 fA293 gA293 (by omega)
                        have RA293 := RWA291.ar eA293 fA293 gA293 (by omega)
                        have f0A293 := BA293.2.2.2
                        have nxA293 := BA293.2.1
                        have rdA293 := RA293.2.2.1
                        have FRA293 := FRxA291.wt eA293 fA293
                        refine hpa_aload_n (by rfl) rfl ?_
                        refine hpa_dupR (by rfl) ?_
                        refine hpj_getK (by rfl) (by rfl) (by rfl) (hkA eA293 rfl) ?_
                        refine hpa_iconst (by rfl) rfl ?_
                        refine hpj_iadd (by rfl) rfl hk_1 (by omega) (by omega) (fun z294 ez294 => ?_)
                        refine hpj_putI (by rfl) (by rfl) (by rfl) (by rfl) (fun A295 eA295 fA295 => ?_)
                        have BA295 := BA293.up (k := 41) eA295 fA295 (by omega) (by omega)
                        have RA295 := RA293.up (k := 41) eA295 fA295 (by omega)
                        have f0A295 := BA295.2.2.2
                        have nxA295 := BA295.2.1
                        have rdA295 := RA295.2.2.1
                        have hwl := X_A291.2.2.1
                        have XA295 := X_A291.push (x := (K t1).toNat) (by have := hn_cn (j := (A291.1 367 41)) (by omega); omega) eA293 fA293 eA295 fA295 (by omega) (by rw [← ev292, show (((K t1).toNat : Nat) : Int) = K t1 by omega]; exact BWA291.at.2.2.2.1) (by omega)
                        have FRA295 := FRA293.up eA295 fA295 (by omega)
                        refine hpa_aload_n (by rfl) rfl ?_
                        refine hpa_call0 (by rfl) (by rfl) (by rfl) (by rfl) (by rfl) (by rfl) (hP147 BA295 RA295 (hqd15_op (by omega))) ?_
                        rintro _ A296 ⟨rfl, (⟨B_A296, R_A296, Q_A296, G_A296⟩ | F_A296)⟩
                        ·
                          have f0_A296 := B_A296.2.2.2
                          have nx_A296 := B_A296.2.1
                          have rd_A296 := R_A296.2.2.1
                          have XA296 := XA295.Q Q_A296
                          have FRA296 := FRA295.Q Q_A296
                          have hXo : K t1 = (((K t1).toNat : Nat) : Int) := by omega
                          have GO : hg_q K V E (t1 + 1) = (dd, kk, o3, (K t1).toNat :: w3) := by rw [G_A296, G1]; exact hg_dop hXo (by omega) (by omega) (by rw [decide_eq_false (by omega)]; exact E3)
                          have CTO : hg_ct ((K t1).toNat :: w3) = od := by rw [hg_ct_op (by omega), hg_ct_st E3]; exact CT1
                          refine hpa_goto (by rfl) ?_
                          exact ih12 x96_1 (Int32.ofNat 1) A296 (by omega) (by omega) (Or.inl ⟨_, _, _, _, _, by omega, B_A296, R_A296, rfl, by omega, (fun _ => rfl), GO, XA296, FRA296, CTO⟩)
                        ·
                          have fp_A296 := F_A296.pos
                          refine hpa_goto (by rfl) ?_
                          exact ih12 x96_1 (Int32.ofNat 1) A296 (by omega) (by omega) (Or.inr F_A296)
                  ·
                    refine hpj_zeq (by rfl) rfl (fun q297 => ?_) (fun q297 => False.elim (by omega))
                    refine hpa_iconst (by rfl) rfl ?_
                    refine hpa_s1 (by rfl) (Or.inl ⟨_, rfl, rfl⟩) rfl ?_
                    refine hpa_iload_n (by rfl) rfl ?_
                    refine hpj_zne (by rfl) hk_0 (fun q298 => False.elim (by omega)) (fun q298 => ?_)
                    refine hpa_aload_n (by rfl) rfl ?_
                    refine hpj_getK (by rfl) (by rfl) (by rfl) rfl ?_
                    refine hpa_iload_n (by rfl) rfl ?_
                    refine hpj_cle (by rfl) rfl rfl (fun q299 => ?_) (fun q299 => ?_)
                    ·
                      refine hpa_aload_n (by rfl) rfl ?_
                      refine hpa_iconst (by rfl) rfl ?_
                      obtain rfl : od = 0 := by omega
                      obtain ⟨o3, w3, E3⟩ : ∃ o3 w3, hg_fl false oc ww = (o3, w3) := ⟨_, _, rfl⟩
                      obtain rfl := hg_ct0 E3 CT1
                      refine hpa_call0 (by rfl) (by rfl) (by rfl) (by rfl) (by rfl) (by rfl) (hP160 (st := false) (Int32.ofNat 0) X1 E3 (Or.inr ⟨hk_0, rfl⟩)) ?_
                      rintro _ A300 ⟨rfl, W_A300, X_A300, FR_A300⟩
                      have BWA300 := B1.W W_A300
                      have RWA300 := R1.W W_A300
                      have f0WA300 := BWA300.2.2.2
                      have nxWA300 := BWA300.2.1
                      have rdWA300 := RWA300.2.2.1
                      have FRxA300 := FR1.trans FR_A300
                      exact hpa_return (by rfl) rfl (hP _ _ ⟨rfl, Or.inl ⟨_, _, _, _, by omega, BWA300, RWA300, by omega, G1, E3, X_A300, FRxA300⟩⟩)
                    ·
                      refine hpa_aload_n (by rfl) rfl ?_
                      refine hpa_iconst (by rfl) rfl ?_
                      refine hpa_call0 (by rfl) (by rfl) (by rfl) (by rfl) (by rfl) (by rfl) (hP145 (Int32.ofNat 1) B1 ⟨_, B1.2.2.1, by obtain ⟨om, rfl⟩ : ∃ om, od = om + 1 := ⟨od - 1, by omega⟩; exact (hqd15_cl (by omega)).trans (hq_must_no (by omega))⟩ (by decide) hk_1) ?_
                      rintro _ A301 ⟨rfl, F_A301⟩
                      have fp_A301 := F_A301.pos
                      refine hpa_aload_n (by rfl) rfl ?_
                      refine hpa_iconst (by rfl) rfl ?_
                      refine hpa_call0 (by rfl) (by rfl) (by rfl) (by rfl) (by rfl) (by rfl) (hP160d (Int32.ofNat 0)) ?_
                      rintro _ A302 ⟨rfl, W_A302⟩
                      have FWA302 := F_A301.W W_A302
                      have fpWA302 := FWA302.pos
                      exact hpa_return (by rfl) rfl (hP _ _ ⟨rfl, Or.inr FWA302⟩)
        ·
          have fp1 := F1.pos
          refine hpa_aload_nS (by rfl) rfl ?_
          refine hpa_bipush (by rfl) rfl ?_
          refine hpa_call0 (by rfl) (by rfl) (by rfl) (by rfl) (by rfl) (by rfl) (hP144d (Int32.ofNat 7) F1) ?_
          rintro _ _ ⟨rfl, z304, rfl, fz_A303⟩
          refine hpj_zeq (by rfl) rfl (fun q305 => ?_) (fun q305 => False.elim (by omega))
          refine hpa_aload_n (by rfl) rfl ?_
          refine hpa_bipush (by rfl) rfl ?_
          refine hpa_call0 (by rfl) (by rfl) (by rfl) (by rfl) (by rfl) (by rfl) (hP144d (Int32.ofNat 8) F1) ?_
          rintro _ _ ⟨rfl, z307, rfl, fz_A306⟩
          refine hpj_zne (by rfl) rfl (fun q308 => False.elim (by omega)) (fun q308 => ?_)
          refine hpa_aload_n (by rfl) rfl ?_
          refine hpa_bipush (by rfl) rfl ?_
          refine hpa_call0 (by rfl) (by rfl) (by rfl) (by rfl) (by rfl) (by rfl) (hP144d (Int32.ofNat 9) F1) ?_
          rintro _ _ ⟨rfl, z310, rfl, fz_A309⟩
          refine hpj_zne (by rfl) rfl (fun q311 => False.elim (by omega)) (fun q311 => ?_)
          refine hpa_aload_n (by rfl) rfl ?_
          refine hpa_bipush (by rfl) rfl ?_
          refine hpa_call0 (by rfl) (by rfl) (by rfl) (by rfl) (by rfl) (by rfl) (hP144d (Int32.ofNat 10) F1) ?_
          rintro _ _ ⟨rfl, z313, rfl, fz_A312⟩
          refine hpj_zne (by rfl) rfl (fun q314 => False.elim (by omega)) (fun q314 => ?_)
          refine hpa_aload_n (by rfl) rfl ?_
          refine hpa_bipush (by rfl) rfl ?_
          refine hpa_call0 (by rfl) (by rfl) (by rfl) (by rfl) (by rfl) (by rfl) (hP144d (Int32.ofNat 15) F1) ?_
          rintro _ _ ⟨rfl, z316, rfl, fz_A315⟩
          refine hpj_zeq (by rfl) rfl (fun q317 => ?_) (fun q317 => False.elim (by omega))
          refine hpa_iconst (by rfl) rfl ?_
          refine hpa_s1 (by rfl) (Or.inl ⟨_, rfl, rfl⟩) rfl ?_
          refine hpa_iload_n (by rfl) rfl ?_
          refine hpj_zne (by rfl) hk_0 (fun q318 => False.elim (by omega)) (fun q318 => ?_)
          refine hpa_aload_n (by rfl) rfl ?_
          refine hpj_getK (by rfl) (by rfl) (by rfl) rfl ?_
          refine hpa_iload_n (by rfl) rfl ?_
          refine hpj_cle (by rfl) rfl rfl (fun q319 => ?_) (fun q319 => ?_)
          ·
            refine hpa_aload_n (by rfl) rfl ?_
            refine hpa_iconst (by rfl) rfl ?_
            refine hpa_call0 (by rfl) (by rfl) (by rfl) (by rfl) (by rfl) (by rfl) (hP160d (Int32.ofNat 0)) ?_
            rintro _ A320 ⟨rfl, W_A320⟩
            have FWA320 := F1.W W_A320
            have fpWA320 := FWA320.pos
            exact hpa_return (by rfl) rfl (hP _ _ ⟨rfl, Or.inr FWA320⟩)
          ·
            refine hpa_aload_n (by rfl) rfl ?_
            refine hpa_iconst (by rfl) rfl ?_
            refine hpa_call0 (by rfl) (by rfl) (by rfl) (by rfl) (by rfl) (by rfl) (hP145d (Int32.ofNat 1) F1) ?_
            rintro _ _ ⟨rfl, rfl⟩
            refine hpa_aload_n (by rfl) rfl ?_
            refine hpa_iconst (by rfl) rfl ?_
            refine hpa_call0 (by rfl) (by rfl) (by rfl) (by rfl) (by rfl) (by rfl) (hP160d (Int32.ofNat 0)) ?_
            rintro _ A322 ⟨rfl, W_A322⟩
            have FWA322 := F1.W W_A322
            have fpWA322 := FWA322.pos
            exact hpa_return (by rfl) rfl (hP _ _ ⟨rfl, Or.inr FWA322⟩)
  have L12 := fun f => (LL f).1
  have L23 := fun f => (LL f).2.1
  have L96 := fun f => (LL f).2.2
  refine hpa_aload_n (by rfl) rfl ?_
  refine hpa_iconst (by rfl) rfl ?_
  refine hpj_putI (by rfl) (by rfl) (by rfl) (by rfl) (fun A323 eA323 fA323 => ?_)
  have BA323 := hB.up (k := 41) eA323 fA323 (by omega) (by omega)
  have RA323 := hR.up (k := 41) eA323 fA323 (by omega)
  have f0A323 := BA323.2.2.2
  have nxA323 := BA323.2.1
  have rdA323 := RA323.2.2.1
  have XA323 : hmX A323 z0 [] [] := ⟨by rw [eA323, hup2 (by omega)]; exact hz, trivial, by rw [eA323, hup1]; exact hk_0, trivial⟩
  have FRA323 : hmFr z0 A A323 := hmFr.rfl.up eA323 fA323 (by omega)
  refine hpa_aload_n (by rfl) rfl ?_
  refine hpj_getK (by rfl) (by rfl) (by rfl) (hkF eA323 (by omega) rfl) ?_
  refine hpa_s1 (by rfl) (Or.inl ⟨_, rfl, rfl⟩) rfl ?_
  refine hpa_iconst (by rfl) rfl ?_
  refine hpa_s1 (by rfl) (Or.inl ⟨_, rfl, rfl⟩) rfl ?_
  exact L12 _ (A.1 367 12) (Int32.ofNat 1) A323 (by omega) (by omega) (Or.inl ⟨_, _, _, _, _, by omega, BA323, RA323, hu, by omega, hue, hG, XA323, FRA323, rfl⟩)
theorem hP161 {g d : Nat} {A : hs_A} {K V S : Nat → Int} {E : Nat → Nat → Bool} {t : Nat} {s : hq_S} {ns : List Nat} {sn sd : Nat} {o : Option (Nat × Nat)} {ifs ctx : Nat} {rr : List Nat × Nat × Nat × Option (Nat × Nat)} {dd : hg_D} {kk : hg_W} {z0 : Nat} (hB : hmB K V S E A t s) (hR : hmR S A t ns sn o sd 0) (hu : hq_dl K V E t s = hq_unit K t ifs ctx 0 rr) (hG : hg_q K V E t = (dd, kk, [], [])) (hue : ∀ e, hg_dl K V t s e = hg_un K V t e) (hz : (A.1 367 37).toInt = (z0 : Int)) : hpC g d 161 hm_m161 [.ref 368] A (fun r A' => r = none ∧ ((∃ (t' : Nat) (oc' oc2 : hg_C) (w' : List Nat), t < t' ∧ hmB K V S E A' t' (15, ifs, ctx, 0, rr) ∧ hmR S A' t' ns sn o sd 0 ∧ ¬ (26 ≤ K t' ∧ K t' ≤ 29) ∧ hg_q K V E t' = (dd, kk, oc', w') ∧ hg_fl false oc' w' = (oc2, []) ∧ hmX A' z0 oc2 [] ∧ hmFr z0 A A') ∨ (hmF K V S E A'))) := hpC.all (fun f d => hW161 hB hR hu hG hue hz (fun r A' h => h))
