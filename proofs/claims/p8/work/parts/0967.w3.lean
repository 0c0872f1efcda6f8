theorem hofi2 {y : Int32} {v : Int} (h : y.toInt = v) : (Int32.ofInt v).toInt = v := by
  subst h
  rw [Int32.ofInt_toInt]
theorem hW163 {g d f : Nat} {A : hs_A} {u0 : Nat} {c : hg_C} {x : Nat → Int32} (a1 a2 : Int32) (h1 : a1.toInt = (u0 : Int)) (h2 : a2.toInt = ((u0 + c.length : Nat) : Int)) (sg : hm_seg (A.2.1 390) (A.2.1 391) u0 c) (hx : ∀ i, i < 9 → A.2.1 393 i = x i) (hw : hgw_wf 14 c 0 1) {P : Option Value → hs_A → Prop} (hP : ∀ (r : Option Value) (A' : hs_A), (∃ z : Int32, r = some (.int z) ∧ ((∃ s : List Int32, hgw_ev x c [] = some (z :: s) ∧ A'.1 367 44 = A.1 367 44) ∨ (hgw_ev x c [] = none ∧ A'.1 367 44 = Int32.ofNat 1)) ∧ A'.2.2 = A.2.2 ∧ (∀ i, ¬ i = 394 → A'.2.1 i = A.2.1 i) ∧ (∀ i k, ¬ (i = 367 ∧ k = 44) → A'.1 i k = A.1 i k)) → P r A') : hpa (f, g) d (some (.int)) hm_t163 0 [.ref 368, .int a1, .int a2, .retAddr 0, .retAddr 0, .retAddr 0, .retAddr 0, .retAddr 0] [] A P := by
  have k0 := hk_0
  have k1 := hk_1
  have k2 := hk_2
  have k3 := hk_3
  have k4 := hk_4
  have k4294967295 := hk_4294967295
  have k5 := hk_5
  have L5 : ∀ (f : Nat) (x5_3 : Int32) (x5_4 : Int32) (x5_5 : Value) (x5_6 : Value) (x5_7 : Value) (A5 : hs_A) (c5 : hg_C) (f5 : Nat) (s5 : List Int32) (l3 : x5_3.toInt = (s5.length : Int)) (l4 : x5_4.toInt = (f5 : Int)) (sg5 : hm_seg (A.2.1 390) (A.2.1 391) f5 c5) (en : f5 + c5.length = u0 + c.length) (wf5 : hgw_wf 14 c5 s5.length 1) (ev5 : hgw_ev x c [] = hgw_ev x c5 s5) (pl5 : hgw_pl (A5.2.1 394) s5) (FR5 : A5.2.2 = A.2.2 ∧ (∀ i, ¬ i = 394 → A5.2.1 i = A.2.1 i) ∧ A5.1 = A.1), hpa (f, g) d (some (.int)) hm_t163 5 [.ref 368, .int a1, .int a2, .int x5_3, .int x5_4, x5_5, x5_6, x5_7] [] A5 P := by
    intro f
    induction f with
    | zero => intros; exact hpa.zero
    | succ f ih5 =>
      intro x5_3 x5_4 x5_5 x5_6 x5_7 A5 c5 f5 s5 l3 l4 sg5 en wf5 ev5 pl5 FR5
      cases c5 with
      | nil =>
        have hnl : ([] : hg_C).length = 0 := rfl
        refine hpa_iloadS (by rfl) rfl ?_
        refine hpa_iload_n (by rfl) rfl ?_
        refine hpj_cge (by rfl) rfl rfl (fun q1 => ?_) (fun q1 => False.elim (by omega))
        have hs1 : s5.length = 1 := wf5
        obtain ⟨u5, t5, es5⟩ : ∃ u t, s5 = u :: t := by cases s5 with | nil => exact absurd hs1 (by decide) | cons u t => exact ⟨u, t, rfl⟩
        have ht5 : t5 = [] := by rw [es5] at hs1; have h2 : t5.length + 1 = 1 := hs1; exact List.length_eq_zero_iff.mp (by omega)
        have pl0 : A5.2.1 394 0 = u5 := by rw [es5, ht5] at pl5; exact pl5.1
        refine hpa_aload_n (by rfl) rfl ?_
        refine hpa_get (v := .ref 395) (by rfl) (by rfl) (by rfl) rfl ?_
        refine hpa_iconst (by rfl) rfl ?_
        refine hpx_iald (by rfl) (by rfl) (fun h0v2 h1v2 v2 ev2 => ?_)
        exact hpa_ireturn (by rfl) rfl (hP _ _ ⟨_, rfl, Or.inl ⟨_, by rw [ev5]; show some s5 = some (v2 :: t5); rw [es5, ← ev2, show (Int32.ofNat 0).toNatClampNeg = 0 from by decide, pl0], by rw [FR5.2.2]⟩, FR5.1, FR5.2.1, fun i k _ => by rw [FR5.2.2]⟩)
      | cons p c' =>
        have xlt := Int32.toInt_lt x5_3
        obtain ⟨k, v⟩ := p
        have hcl : ((k, v) :: c').length = c'.length + 1 := rfl
        have sgk := sg5.1
        have sgv := sg5.2.1
        have hst := hgw_step (x := x) wf5
        have fr1 := FR5.2.1 390 (by omega)
        have fr2 := FR5.2.1 391 (by omega)
        have fr3 := FR5.2.1 393 (by omega)
        rcases hst with ⟨hk, hs, wf6, e6⟩ | ⟨hk, hv, hs, wf6, e6⟩ | ⟨hk, b, a, r, rfl, ok⟩
        ·
          have hk0 : k = 0 := hk
          subst hk0
          refine hpa_iloadS (by rfl) rfl ?_
          refine hpa_iload_n (by rfl) rfl ?_
          refine hpj_cge (by rfl) rfl rfl (fun q3 => False.elim (by omega)) (fun q3 => ?_)
          refine hpa_aload_n (by rfl) rfl ?_
          refine hpa_get (v := .ref 391) (by rfl) (by rfl) (by rfl) rfl ?_
          refine hpa_iload (by rfl) rfl ?_
          refine hpx_iald (by rfl) (by rfl) (fun h0v4 h1v4 v4 ev4 => ?_)
          rw [show (x5_4).toNatClampNeg = f5 by have := hn_cn (j := x5_4) (by omega); omega, fr1] at ev4
          have tkv4 : v4.toInt = ((0 : Nat) : Int) := by rw [← ev4]; exact sgk
          refine hpa_s1 (by rfl) (Or.inr ⟨_, rfl, rfl⟩) rfl ?_
          refine hpa_iload (by rfl) rfl ?_
          refine hpa_iconst (by rfl) rfl ?_
          refine hpj_cge (by rfl) rfl hk_2 (fun q5 => False.elim (by omega)) (fun q5 => ?_)
          refine hpa_aload_n (by rfl) rfl ?_
          refine hpa_get (v := .ref 395) (by rfl) (by rfl) (by rfl) rfl ?_
          refine hpa_iload_n (by rfl) rfl ?_
          refine hpa_iload (by rfl) rfl ?_
          refine hpj_zne (by rfl) rfl (fun q6 => False.elim (by omega)) (fun q6 => ?_)
          refine hpa_aload_n (by rfl) rfl ?_
          refine hpa_get (v := .ref 392) (by rfl) (by rfl) (by rfl) rfl ?_
          refine hpa_iload (by rfl) rfl ?_
          refine hpx_iald (by rfl) (by rfl) (fun h0v7 h1v7 v7 ev7 => ?_)
          rw [show (x5_4).toNatClampNeg = f5 by have := hn_cn (j := x5_4) (by omega); omega, fr2] at ev7
          have tvv7 : v7.toInt = v := by rw [← ev7]; exact sgv
          refine hpa_goto (by rfl) ?_
          refine hpx_iast (by rfl) (by rfl) (fun A8 h0A8 h1A8 eA8 fA8 gA8 => ?_)
          rw [show (x5_3).toNatClampNeg = (s5).length by have := hn_cn (j := x5_3) (by omega); omega] at fA8
          have plA8 : hgw_pl (A8.2.1 394) (Int32.ofInt v :: s5) := ⟨by rw [fA8, hup1]; exact Int32.toInt_inj.mp (tvv7.trans (hofi2 tvv7).symm), pl5.mv (fun j hj => by rw [fA8, hup2 (by omega)])⟩
          have FRA8 : A8.2.2 = A.2.2 ∧ (∀ i, ¬ i = 394 → A8.2.1 i = A.2.1 i) ∧ A8.1 = A.1 := ⟨gA8.trans FR5.1, fun i h1 => by rw [← FR5.2.1 i h1, fA8]; funext j; exact hup2 (by omega), eA8.trans FR5.2.2⟩
          refine hpj_iinc (by rfl) rfl rfl hk_1 (by omega) (by omega) (fun _ => rfl) (fun z9 ez9 => ?_)
          refine hpa_goto (by rfl) ?_
          refine hpj_iinc (by rfl) rfl rfl hk_1 (by omega) (by omega) (fun _ => rfl) (fun z10 ez10 => ?_)
          refine hpa_goto (by rfl) ?_
          exact ih5 z9 z10 (.int v4) (x5_6) (x5_7) A8 c' (f5 + 1) (Int32.ofInt v :: s5) (by show _ = ((s5.length + 1 : Nat) : Int); omega) (by omega) sg5.2.2 (by omega) wf6 (ev5.trans e6) plA8 FRA8
        ·
          have hk1 : k = 1 := hk
          subst hk1
          have hv8 : 0 ≤ v ∧ v ≤ 8 := hv
          refine hpa_iloadS (by rfl) rfl ?_
          refine hpa_iload_n (by rfl) rfl ?_
          refine hpj_cge (by rfl) rfl rfl (fun q11 => False.elim (by omega)) (fun q11 => ?_)
          refine hpa_aload_n (by rfl) rfl ?_
          refine hpa_get (v := .ref 391) (by rfl) (by rfl) (by rfl) rfl ?_
          refine hpa_iload (by rfl) rfl ?_
          refine hpx_iald (by rfl) (by rfl) (fun h0v12 h1v12 v12 ev12 => ?_)
          rw [show (x5_4).toNatClampNeg = f5 by have := hn_cn (j := x5_4) (by omega); omega, fr1] at ev12
          have tkv12 : v12.toInt = ((1 : Nat) : Int) := by rw [← ev12]; exact sgk
          refine hpa_s1 (by rfl) (Or.inr ⟨_, rfl, rfl⟩) rfl ?_
          refine hpa_iload (by rfl) rfl ?_
          refine hpa_iconst (by rfl) rfl ?_
          refine hpj_cge (by rfl) rfl hk_2 (fun q13 => False.elim (by omega)) (fun q13 => ?_)
          refine hpa_aload_n (by rfl) rfl ?_
          refine hpa_get (v := .ref 395) (by rfl) (by rfl) (by rfl) rfl ?_
          refine hpa_iload_n (by rfl) rfl ?_
          refine hpa_iload (by rfl) rfl ?_
          refine hpj_zne (by rfl) rfl (fun q14 => ?_) (fun q14 => False.elim (by omega))
          refine hpa_aload_n (by rfl) rfl ?_
          refine hpa_get (v := .ref 394) (by rfl) (by rfl) (by rfl) rfl ?_
          refine hpa_aload_n (by rfl) rfl ?_
          refine hpa_get (v := .ref 392) (by rfl) (by rfl) (by rfl) rfl ?_
          refine hpa_iload (by rfl) rfl ?_
          refine hpx_iald (by rfl) (by rfl) (fun h0v15 h1v15 v15 ev15 => ?_)
          rw [show (x5_4).toNatClampNeg = f5 by have := hn_cn (j := x5_4) (by omega); omega, fr2] at ev15
          have tvv15 : v15.toInt = v := by rw [← ev15]; exact sgv
          refine hpx_iald (by rfl) (by rfl) (fun h0v16 h1v16 v16 ev16 => ?_)
          have lxv16 : v16 = x v.toNat := by rw [← ev16, show (v15).toNatClampNeg = v.toNat by have := hn_cn (j := v15) (by omega); omega, fr3]; exact hx v.toNat (by omega)
          refine hpx_iast (by rfl) (by rfl) (fun A17 h0A17 h1A17 eA17 fA17 gA17 => ?_)
          rw [show (x5_3).toNatClampNeg = (s5).length by have := hn_cn (j := x5_3) (by omega); omega] at fA17
          have plA17 : hgw_pl (A17.2.1 394) (x v.toNat :: s5) := ⟨by rw [fA17, hup1]; exact lxv16, pl5.mv (fun j hj => by rw [fA17, hup2 (by omega)])⟩
          have FRA17 : A17.2.2 = A.2.2 ∧ (∀ i, ¬ i = 394 → A17.2.1 i = A.2.1 i) ∧ A17.1 = A.1 := ⟨gA17.trans FR5.1, fun i h1 => by rw [← FR5.2.1 i h1, fA17]; funext j; exact hup2 (by omega), eA17.trans FR5.2.2⟩
          refine hpj_iinc (by rfl) rfl rfl hk_1 (by omega) (by omega) (fun _ => rfl) (fun z18 ez18 => ?_)
          refine hpa_goto (by rfl) ?_
          refine hpj_iinc (by rfl) rfl rfl hk_1 (by omega) (by omega) (fun _ => rfl) (fun z19 ez19 => ?_)
          refine hpa_goto (by rfl) ?_
          exact ih5 z18 z19 (.int v12) (x5_6) (x5_7) A17 c' (f5 + 1) (x v.toNat :: s5) (by show _ = ((s5.length + 1 : Nat) : Int); omega) (by omega) sg5.2.2 (by omega) wf6 (ev5.trans e6) plA17 FRA17
        ·
          have hl2 : (b :: a :: r).length = r.length + 2 := rfl
          have hk4 : k = 2 ∨ k = 3 ∨ k = 4 ∨ k = 5 := by have hk2 : 2 ≤ k ∧ k ≤ 5 := hk; omega
          rcases hk4 with rfl | rfl | rfl | rfl
          ·
            rcases ok with ⟨o1, -, -⟩ | ⟨-, wf6, e6⟩
            · exact absurd (show (2 : Nat) = 5 from o1) (by decide)
            refine hpa_iloadS (by rfl) rfl ?_
            refine hpa_iload_n (by rfl) rfl ?_
            refine hpj_cge (by rfl) rfl rfl (fun q20 => False.elim (by omega)) (fun q20 => ?_)
            refine hpa_aload_n (by rfl) rfl ?_
            refine hpa_get (v := .ref 391) (by rfl) (by rfl) (by rfl) rfl ?_
            refine hpa_iload (by rfl) rfl ?_
            refine hpx_iald (by rfl) (by rfl) (fun h0v21 h1v21 v21 ev21 => ?_)
            rw [show (x5_4).toNatClampNeg = f5 by have := hn_cn (j := x5_4) (by omega); omega, fr1] at ev21
            have tkv21 : v21.toInt = ((2 : Nat) : Int) := by rw [← ev21]; exact sgk
            refine hpa_s1 (by rfl) (Or.inr ⟨_, rfl, rfl⟩) rfl ?_
            refine hpa_iload (by rfl) rfl ?_
            refine hpa_iconst (by rfl) rfl ?_
            refine hpj_cge (by rfl) rfl hk_2 (fun q22 => ?_) (fun q22 => False.elim (by omega))
            refine hpj_iinc (by rfl) rfl rfl hk_4294967295 (by omega) (by omega) (fun _ => rfl) (fun z23 ez23 => ?_)
            refine hpa_aload_n (by rfl) rfl ?_
            refine hpa_get (v := .ref 395) (by rfl) (by rfl) (by rfl) rfl ?_
            refine hpa_iload_n (by rfl) rfl ?_
            refine hpa_iconst (by rfl) rfl ?_
            refine hpj_isub (by rfl) rfl hk_1 (by omega) (by omega) (fun z24 ez24 => ?_)
            refine hpx_iald (by rfl) (by rfl) (fun h0v25 h1v25 v25 ev25 => ?_)
            have lpv25 : v25 = a := by rw [← ev25, show (z24).toNatClampNeg = r.length by have := hn_cn (j := z24) (by omega); omega]; exact pl5.2.1
            have lqv25 := congrArg Int32.toInt lpv25
            refine hpa_s1 (by rfl) (Or.inr ⟨_, rfl, rfl⟩) rfl ?_
            refine hpa_aload_n (by rfl) rfl ?_
            refine hpa_get (v := .ref 395) (by rfl) (by rfl) (by rfl) rfl ?_
            refine hpa_iload_n (by rfl) rfl ?_
            refine hpx_iald (by rfl) (by rfl) (fun h0v26 h1v26 v26 ev26 => ?_)
            have lpv26 : v26 = b := by rw [← ev26, show (z23).toNatClampNeg = r.length + 1 by have := hn_cn (j := z23) (by omega); omega]; exact pl5.1
            have lqv26 := congrArg Int32.toInt lpv26
            refine hpa_s1 (by rfl) (Or.inr ⟨_, rfl, rfl⟩) rfl ?_
            refine hpa_iload (by rfl) rfl ?_
            refine hpa_iconst (by rfl) rfl ?_
            refine hpj_cne (by rfl) rfl hk_5 (fun q27 => ?_) (fun q27 => False.elim (by omega))
            refine hpa_aload_n (by rfl) rfl ?_
            refine hpa_get (v := .ref 395) (by rfl) (by rfl) (by rfl) rfl ?_
            refine hpa_iload_n (by rfl) rfl ?_
            refine hpa_iconst (by rfl) rfl ?_
            refine hpj_isub (by rfl) rfl hk_1 (by omega) (by omega) (fun z28 ez28 => ?_)
            refine hpa_iload (by rfl) rfl ?_
            refine hpa_iconst (by rfl) rfl ?_
            refine hpj_cne (by rfl) rfl hk_2 (fun q29 => False.elim (by omega)) (fun q29 => ?_)
            refine hpa_iload (by rfl) rfl ?_
            refine hpa_iload (by rfl) rfl ?_
            refine hpa_iadd (by rfl) ?_
            refine hpa_goto (by rfl) ?_
            refine hpx_iast (by rfl) (by rfl) (fun A30 h0A30 h1A30 eA30 fA30 gA30 => ?_)
            rw [show (z28).toNatClampNeg = (r).length by have := hn_cn (j := z28) (by omega); omega] at fA30
            have plA30 : hgw_pl (A30.2.1 394) (hgv_ap 2 a b :: r) := ⟨by rw [fA30, hup1]; exact (by rw [lpv25, lpv26]; rfl), pl5.2.2.mv (fun j hj => by rw [fA30, hup2 (by omega)])⟩
            have FRA30 : A30.2.2 = A.2.2 ∧ (∀ i, ¬ i = 394 → A30.2.1 i = A.2.1 i) ∧ A30.1 = A.1 := ⟨gA30.trans FR5.1, fun i h1 => by rw [← FR5.2.1 i h1, fA30]; funext j; exact hup2 (by omega), eA30.trans FR5.2.2⟩
            refine hpj_iinc (by rfl) rfl rfl hk_1 (by omega) (by omega) (fun _ => rfl) (fun z31 ez31 => ?_)
            refine hpa_goto (by rfl) ?_
            exact ih5 z23 z31 (.int v21) (.int v25) (.int v26) A30 c' (f5 + 1) (hgv_ap 2 a b :: r) (by show _ = ((r.length + 1 : Nat) : Int); omega) (by omega) sg5.2.2 (by omega) wf6 (ev5.trans e6) plA30 FRA30
          ·
            rcases ok with ⟨o1, -, -⟩ | ⟨-, wf6, e6⟩
            · exact absurd (show (3 : Nat) = 5 from o1) (by decide)
            refine hpa_iloadS (by rfl) rfl ?_
            refine hpa_iload_n (by rfl) rfl ?_
            refine hpj_cge (by rfl) rfl rfl (fun q32 => False.elim (by omega)) (fun q32 => ?_)
            refine hpa_aload_n (by rfl) rfl ?_
            refine hpa_get (v := .ref 391) (by rfl) (by rfl) (by rfl) rfl ?_
            refine hpa_iload (by rfl) rfl ?_
            refine hpx_iald (by rfl) (by rfl) (fun h0v33 h1v33 v33 ev33 => ?_)
            rw [show (x5_4).toNatClampNeg = f5 by have := hn_cn (j := x5_4) (by omega); omega, fr1] at ev33
            have tkv33 : v33.toInt = ((3 : Nat) : Int) := by rw [← ev33]; exact sgk
            refine hpa_s1 (by rfl) (Or.inr ⟨_, rfl, rfl⟩) rfl ?_
            refine hpa_iload (by rfl) rfl ?_
            refine hpa_iconst (by rfl) rfl ?_
            refine hpj_cge (by rfl) rfl hk_2 (fun q34 => ?_) (fun q34 => False.elim (by omega))
            refine hpj_iinc (by rfl) rfl rfl hk_4294967295 (by omega) (by omega) (fun _ => rfl) (fun z35 ez35 => ?_)
            refine hpa_aload_n (by rfl) rfl ?_
            refine hpa_get (v := .ref 395) (by rfl) (by rfl) (by rfl) rfl ?_
            refine hpa_iload_n (by rfl) rfl ?_
            refine hpa_iconst (by rfl) rfl ?_
            refine hpj_isub (by rfl) rfl hk_1 (by omega) (by omega) (fun z36 ez36 => ?_)
            refine hpx_iald (by rfl) (by rfl) (fun h0v37 h1v37 v37 ev37 => ?_)
            have lpv37 : v37 = a := by rw [← ev37, show (z36).toNatClampNeg = r.length by have := hn_cn (j := z36) (by omega); omega]; exact pl5.2.1
            have lqv37 := congrArg Int32.toInt lpv37
            refine hpa_s1 (by rfl) (Or.inr ⟨_, rfl, rfl⟩) rfl ?_
            refine hpa_aload_n (by rfl) rfl ?_
            refine hpa_get (v := .ref 395) (by rfl) (by rfl) (by rfl) rfl ?_
            refine hpa_iload_n (by rfl) rfl ?_
            refine hpx_iald (by rfl) (by rfl) (fun h0v38 h1v38 v38 ev38 => ?_)
            have lpv38 : v38 = b := by rw [← ev38, show (z35).toNatClampNeg = r.length + 1 by have := hn_cn (j := z35) (by omega); omega]; exact pl5.1
            have lqv38 := congrArg Int32.toInt lpv38
            refine hpa_s1 (by rfl) (Or.inr ⟨_, rfl, rfl⟩) rfl ?_
            refine hpa_iload (by rfl) rfl ?_
            refine hpa_iconst (by rfl) rfl ?_
            refine hpj_cne (by rfl) rfl hk_5 (fun q39 => ?_) (fun q39 => False.elim (by omega))
            refine hpa_aload_n (by rfl) rfl ?_
            refine hpa_get (v := .ref 395) (by rfl) (by rfl) (by rfl) rfl ?_
            refine hpa_iload_n (by rfl) rfl ?_
            refine hpa_iconst (by rfl) rfl ?_
            refine hpj_isub (by rfl) rfl hk_1 (by omega) (by omega) (fun z40 ez40 => ?_)
            refine hpa_iload (by rfl) rfl ?_
            refine hpa_iconst (by rfl) rfl ?_
            refine hpj_cne (by rfl) rfl hk_2 (fun q41 => ?_) (fun q41 => False.elim (by omega))
            refine hpa_iload (by rfl) rfl ?_
            refine hpa_iconst (by rfl) rfl ?_
            refine hpj_cne (by rfl) rfl hk_3 (fun q42 => False.elim (by omega)) (fun q42 => ?_)
            refine hpa_iload (by rfl) rfl ?_
            refine hpa_iload (by rfl) rfl ?_
            refine hpa_isub (by rfl) ?_
            refine hpa_goto (by rfl) ?_
            refine hpx_iast (by rfl) (by rfl) (fun A43 h0A43 h1A43 eA43 fA43 gA43 => ?_)
            rw [show (z40).toNatClampNeg = (r).length by have := hn_cn (j := z40) (by omega); omega] at fA43
            have plA43 : hgw_pl (A43.2.1 394) (hgv_ap 3 a b :: r) := ⟨by rw [fA43, hup1]; exact (by rw [lpv37, lpv38]; rfl), pl5.2.2.mv (fun j hj => by rw [fA43, hup2 (by omega)])⟩
            have FRA43 : A43.2.2 = A.2.2 ∧ (∀ i, ¬ i = 394 → A43.2.1 i = A.2.1 i) ∧ A43.1 = A.1 := ⟨gA43.trans FR5.1, fun i h1 => by rw [← FR5.2.1 i h1, fA43]; funext j; exact hup2 (by omega), eA43.trans FR5.2.2⟩
            refine hpj_iinc (by rfl) rfl rfl hk_1 (by omega) (by omega) (fun _ => rfl) (fun z44 ez44 => ?_)
            refine hpa_goto (by rfl) ?_
            exact ih5 z35 z44 (.int v33) (.int v37) (.int v38) A43 c' (f5 + 1) (hgv_ap 3 a b :: r) (by show _ = ((r.length + 1 : Nat) : Int); omega) (by omega) sg5.2.2 (by omega) wf6 (ev5.trans e6) plA43 FRA43
          ·
            rcases ok with ⟨o1, -, -⟩ | ⟨-, wf6, e6⟩
            · exact absurd (show (4 : Nat) = 5 from o1) (by decide)
            refine hpa_iloadS (by rfl) rfl ?_
            refine hpa_iload_n (by rfl) rfl ?_
            refine hpj_cge (by rfl) rfl rfl (fun q45 => False.elim (by omega)) (fun q45 => ?_)
            refine hpa_aload_n (by rfl) rfl ?_
            refine hpa_get (v := .ref 391) (by rfl) (by rfl) (by rfl) rfl ?_
            refine hpa_iload (by rfl) rfl ?_
            refine hpx_iald (by rfl) (by rfl) (fun h0v46 h1v46 v46 ev46 => ?_)
            rw [show (x5_4).toNatClampNeg = f5 by have := hn_cn (j := x5_4) (by omega); omega, fr1] at ev46
            have tkv46 : v46.toInt = ((4 : Nat) : Int) := by rw [← ev46]; exact sgk
            refine hpa_s1 (by rfl) (Or.inr ⟨_, rfl, rfl⟩) rfl ?_
            refine hpa_iload (by rfl) rfl ?_
            refine hpa_iconst (by rfl) rfl ?_
            refine hpj_cge (by rfl) rfl hk_2 (fun q47 => ?_) (fun q47 => False.elim (by omega))
            refine hpj_iinc (by rfl) rfl rfl hk_4294967295 (by omega) (by omega) (fun _ => rfl) (fun z48 ez48 => ?_)
            refine hpa_aload_n (by rfl) rfl ?_
            refine hpa_get (v := .ref 395) (by rfl) (by rfl) (by rfl) rfl ?_
            refine hpa_iload_n (by rfl) rfl ?_
            refine hpa_iconst (by rfl) rfl ?_
            refine hpj_isub (by rfl) rfl hk_1 (by omega) (by omega) (fun z49 ez49 => ?_)
            refine hpx_iald (by rfl) (by rfl) (fun h0v50 h1v50 v50 ev50 => ?_)
            have lpv50 : v50 = a := by rw [← ev50, show (z49).toNatClampNeg = r.length by have := hn_cn (j := z49) (by omega); omega]; exact pl5.2.1
            have lqv50 := congrArg Int32.toInt lpv50
            refine hpa_s1 (by rfl) (Or.inr ⟨_, rfl, rfl⟩) rfl ?_
            refine hpa_aload_n (by rfl) rfl ?_
            refine hpa_get (v := .ref 395) (by rfl) (by rfl) (by rfl) rfl ?_
            refine hpa_iload_n (by rfl) rfl ?_
            refine hpx_iald (by rfl) (by rfl) (fun h0v51 h1v51 v51 ev51 => ?_)
            have lpv51 : v51 = b := by rw [← ev51, show (z48).toNatClampNeg = r.length + 1 by have := hn_cn (j := z48) (by omega); omega]; exact pl5.1
            have lqv51 := congrArg Int32.toInt lpv51
            refine hpa_s1 (by rfl) (Or.inr ⟨_, rfl, rfl⟩) rfl ?_
            refine hpa_iload (by rfl) rfl ?_
            refine hpa_iconst (by rfl) rfl ?_
            refine hpj_cne (by rfl) rfl hk_5 (fun q52 => ?_) (fun q52 => False.elim (by omega))
            refine hpa_aload_n (by rfl) rfl ?_
            refine hpa_get (v := .ref 395) (by rfl) (by rfl) (by rfl) rfl ?_
            refine hpa_iload_n (by rfl) rfl ?_
            refine hpa_iconst (by rfl) rfl ?_
            refine hpj_isub (by rfl) rfl hk_1 (by omega) (by omega) (fun z53 ez53 => ?_)
            refine hpa_iload (by rfl) rfl ?_
            refine hpa_iconst (by rfl) rfl ?_
            refine hpj_cne (by rfl) rfl hk_2 (fun q54 => ?_) (fun q54 => False.elim (by omega))
            refine hpa_iload (by rfl) rfl ?_
            refine hpa_iconst (by rfl) rfl ?_
            refine hpj_cne (by rfl) rfl hk_3 (fun q55 => ?_) (fun q55 => False.elim (by omega))
            refine hpa_iload (by rfl) rfl ?_
            refine hpa_iconst (by rfl) rfl ?_
            refine hpj_cne (by rfl) rfl hk_4 (fun q56 => False.elim (by omega)) (fun q56 => ?_)
            refine hpa_iload (by rfl) rfl ?_
            refine hpa_iload (by rfl) rfl ?_
            refine hpa_imul (by rfl) ?_
            refine hpa_goto (by rfl) ?_
            refine hpx_iast (by rfl) (by rfl) (fun A57 h0A57 h1A57 eA57 fA57 gA57 => ?_)
            rw [show (z53).toNatClampNeg = (r).length by have := hn_cn (j := z53) (by omega); omega] at fA57
            have plA57 : hgw_pl (A57.2.1 394) (hgv_ap 4 a b :: r) := ⟨by rw [fA57, hup1]; exact (by rw [lpv50, lpv51]; rfl), pl5.2.2.mv (fun j hj => by rw [fA57, hup2 (by omega)])⟩
            have FRA57 : A57.2.2 = A.2.2 ∧ (∀ i, ¬ i = 394 → A57.2.1 i = A.2.1 i) ∧ A57.1 = A.1 := ⟨gA57.trans FR5.1, fun i h1 => by rw [← FR5.2.1 i h1, fA57]; funext j; exact hup2 (by omega), eA57.trans FR5.2.2⟩
            refine hpj_iinc (by rfl) rfl rfl hk_1 (by omega) (by omega) (fun _ => rfl) (fun z58 ez58 => ?_)
            refine hpa_goto (by rfl) ?_
            exact ih5 z48 z58 (.int v46) (.int v50) (.int v51) A57 c' (f5 + 1) (hgv_ap 4 a b :: r) (by show _ = ((r.length + 1 : Nat) : Int); omega) (by omega) sg5.2.2 (by omega) wf6 (ev5.trans e6) plA57 FRA57
          ·
            rcases ok with ⟨-, o2, o3⟩ | ⟨o1, wf6, e6⟩
            ·
              have hb0z : b.toInt = 0 := by rw [o2]; rfl
              refine hpa_iloadS (by rfl) rfl ?_
              refine hpa_iload_n (by rfl) rfl ?_
              refine hpj_cge (by rfl) rfl rfl (fun q59 => False.elim (by omega)) (fun q59 => ?_)
              refine hpa_aload_n (by rfl) rfl ?_
              refine hpa_get (v := .ref 391) (by rfl) (by rfl) (by rfl) rfl ?_
              refine hpa_iload (by rfl) rfl ?_
              refine hpx_iald (by rfl) (by rfl) (fun h0v60 h1v60 v60 ev60 => ?_)
              rw [show (x5_4).toNatClampNeg = f5 by have := hn_cn (j := x5_4) (by omega); omega, fr1] at ev60
              have tkv60 : v60.toInt = ((5 : Nat) : Int) := by rw [← ev60]; exact sgk
              refine hpa_s1 (by rfl) (Or.inr ⟨_, rfl, rfl⟩) rfl ?_
              refine hpa_iload (by rfl) rfl ?_
              refine hpa_iconst (by rfl) rfl ?_
              refine hpj_cge (by rfl) rfl hk_2 (fun q61 => ?_) (fun q61 => False.elim (by omega))
              refine hpj_iinc (by rfl) rfl rfl hk_4294967295 (by omega) (by omega) (fun _ => rfl) (fun z62 ez62 => ?_)
              refine hpa_aload_n (by rfl) rfl ?_
              refine hpa_get (v := .ref 395) (by rfl) (by rfl) (by rfl) rfl ?_
              refine hpa_iload_n (by rfl) rfl ?_
              refine hpa_iconst (by rfl) rfl ?_
              refine hpj_isub (by rfl) rfl hk_1 (by omega) (by omega) (fun z63 ez63 => ?_)
              refine hpx_iald (by rfl) (by rfl) (fun h0v64 h1v64 v64 ev64 => ?_)
              have lpv64 : v64 = a := by rw [← ev64, show (z63).toNatClampNeg = r.length by have := hn_cn (j := z63) (by omega); omega]; exact pl5.2.1
              have lqv64 := congrArg Int32.toInt lpv64
              refine hpa_s1 (by rfl) (Or.inr ⟨_, rfl, rfl⟩) rfl ?_
              refine hpa_aload_n (by rfl) rfl ?_
              refine hpa_get (v := .ref 395) (by rfl) (by rfl) (by rfl) rfl ?_
              refine hpa_iload_n (by rfl) rfl ?_
              refine hpx_iald (by rfl) (by rfl) (fun h0v65 h1v65 v65 ev65 => ?_)
              have lpv65 : v65 = b := by rw [← ev65, show (z62).toNatClampNeg = r.length + 1 by have := hn_cn (j := z62) (by omega); omega]; exact pl5.1
              have lqv65 := congrArg Int32.toInt lpv65
              refine hpa_s1 (by rfl) (Or.inr ⟨_, rfl, rfl⟩) rfl ?_
              refine hpa_iload (by rfl) rfl ?_
              refine hpa_iconst (by rfl) rfl ?_
              refine hpj_cne (by rfl) rfl hk_5 (fun q66 => False.elim (by omega)) (fun q66 => ?_)
              refine hpa_iload (by rfl) rfl ?_
              refine hpj_zne (by rfl) rfl (fun q67 => False.elim (by omega)) (fun q67 => ?_)
              refine hpa_aload_n (by rfl) rfl ?_
              refine hpa_iconst (by rfl) rfl ?_
              refine hpj_putI (by rfl) (by rfl) (by rfl) (by rfl) (fun A68 eA68 fA68 => ?_)
              refine hpa_iconst (by rfl) rfl ?_
              exact hpa_ireturn (by rfl) rfl (hP _ _ ⟨_, rfl, Or.inr ⟨ev5.trans o3, by rw [eA68, hup1]⟩, by rw [fA68]; exact FR5.1, fun i hi => by rw [fA68]; exact FR5.2.1 i hi, fun i k hi => by rw [eA68, hup2 hi, FR5.2.2]⟩)
            ·
              have hb0 : ¬ b.toInt = 0 := fun w => o1 ⟨rfl, Int32.toInt_inj.mp w⟩
              refine hpa_iloadS (by rfl) rfl ?_
              refine hpa_iload_n (by rfl) rfl ?_
              refine hpj_cge (by rfl) rfl rfl (fun q69 => False.elim (by omega)) (fun q69 => ?_)
              refine hpa_aload_n (by rfl) rfl ?_
              refine hpa_get (v := .ref 391) (by rfl) (by rfl) (by rfl) rfl ?_
              refine hpa_iload (by rfl) rfl ?_
              refine hpx_iald (by rfl) (by rfl) (fun h0v70 h1v70 v70 ev70 => ?_)
              rw [show (x5_4).toNatClampNeg = f5 by have := hn_cn (j := x5_4) (by omega); omega, fr1] at ev70
              have tkv70 : v70.toInt = ((5 : Nat) : Int) := by rw [← ev70]; exact sgk
              refine hpa_s1 (by rfl) (Or.inr ⟨_, rfl, rfl⟩) rfl ?_
              refine hpa_iload (by rfl) rfl ?_
              refine hpa_iconst (by rfl) rfl ?_
              refine hpj_cge (by rfl) rfl hk_2 (fun q71 => ?_) (fun q71 => False.elim (by omega))
              refine hpj_iinc (by rfl) rfl rfl hk_4294967295 (by omega) (by omega) (fun _ => rfl) (fun z72 ez72 => ?_)
              refine hpa_aload_n (by rfl) rfl ?_
              refine hpa_get (v := .ref 395) (by rfl) (by rfl) (by rfl) rfl ?_
              refine hpa_iload_n (by rfl) rfl ?_
              refine hpa_iconst (by rfl) rfl ?_
              refine hpj_isub (by rfl) rfl hk_1 (by omega) (by omega) (fun z73 ez73 => ?_)
              refine hpx_iald (by rfl) (by rfl) (fun h0v74 h1v74 v74 ev74 => ?_)
              have lpv74 : v74 = a := by rw [← ev74, show (z73).toNatClampNeg = r.length by have := hn_cn (j := z73) (by omega); omega]; exact pl5.2.1
              have lqv74 := congrArg Int32.toInt lpv74
              refine hpa_s1 (by rfl) (Or.inr ⟨_, rfl, rfl⟩) rfl ?_
              refine hpa_aload_n (by rfl) rfl ?_
              refine hpa_get (v := .ref 395) (by rfl) (by rfl) (by rfl) rfl ?_
              refine hpa_iload_n (by rfl) rfl ?_
              refine hpx_iald (by rfl) (by rfl) (fun h0v75 h1v75 v75 ev75 => ?_)
              have lpv75 : v75 = b := by rw [← ev75, show (z72).toNatClampNeg = r.length + 1 by have := hn_cn (j := z72) (by omega); omega]; exact pl5.1
              have lqv75 := congrArg Int32.toInt lpv75
              refine hpa_s1 (by rfl) (Or.inr ⟨_, rfl, rfl⟩) rfl ?_
              refine hpa_iload (by rfl) rfl ?_
              refine hpa_iconst (by rfl) rfl ?_
              refine hpj_cne (by rfl) rfl hk_5 (fun q76 => False.elim (by omega)) (fun q76 => ?_)
              refine hpa_iload (by rfl) rfl ?_
              refine hpj_zne (by rfl) rfl (fun q77 => ?_) (fun q77 => False.elim (by omega))
              refine hpa_aload_n (by rfl) rfl ?_
              refine hpa_get (v := .ref 395) (by rfl) (by rfl) (by rfl) rfl ?_
              refine hpa_iload_n (by rfl) rfl ?_
              refine hpa_iconst (by rfl) rfl ?_
              refine hpj_isub (by rfl) rfl hk_1 (by omega) (by omega) (fun z78 ez78 => ?_)
              refine hpa_iload (by rfl) rfl ?_
              refine hpa_iconst (by rfl) rfl ?_
              refine hpj_cne (by rfl) rfl hk_2 (fun q79 => ?_) (fun q79 => False.elim (by omega))
              refine hpa_iload (by rfl) rfl ?_
              refine hpa_iconst (by rfl) rfl ?_
              refine hpj_cne (by rfl) rfl hk_3 (fun q80 => ?_) (fun q80 => False.elim (by omega))
              refine hpa_iload (by rfl) rfl ?_
              refine hpa_iconst (by rfl) rfl ?_
              refine hpj_cne (by rfl) rfl hk_4 (fun q81 => ?_) (fun q81 => False.elim (by omega))
              refine hpa_iload (by rfl) rfl ?_
              refine hpa_iload (by rfl) rfl ?_
              refine hpa_idiv (by rfl) (fun w => hb0 (by rw [← lpv75, w]; rfl)) ?_
              refine hpx_iast (by rfl) (by rfl) (fun A82 h0A82 h1A82 eA82 fA82 gA82 => ?_)
              rw [show (z78).toNatClampNeg = (r).length by have := hn_cn (j := z78) (by omega); omega] at fA82
              have plA82 : hgw_pl (A82.2.1 394) (hgv_ap 5 a b :: r) := ⟨by rw [fA82, hup1]; exact (by rw [lpv74, lpv75]; rfl), pl5.2.2.mv (fun j hj => by rw [fA82, hup2 (by omega)])⟩
              have FRA82 : A82.2.2 = A.2.2 ∧ (∀ i, ¬ i = 394 → A82.2.1 i = A.2.1 i) ∧ A82.1 = A.1 := ⟨gA82.trans FR5.1, fun i h1 => by rw [← FR5.2.1 i h1, fA82]; funext j; exact hup2 (by omega), eA82.trans FR5.2.2⟩
              refine hpj_iinc (by rfl) rfl rfl hk_1 (by omega) (by omega) (fun _ => rfl) (fun z83 ez83 => ?_)
              refine hpa_goto (by rfl) ?_
              exact ih5 z72 z83 (.int v70) (.int v74) (.int v75) A82 c' (f5 + 1) (hgv_ap 5 a b :: r) (by show _ = ((r.length + 1 : Nat) : Int); omega) (by omega) sg5.2.2 (by omega) wf6 (ev5.trans e6) plA82 FRA82
  refine hpa_iconst (by rfl) rfl ?_
  refine hpa_s1 (by rfl) (Or.inl ⟨_, rfl, rfl⟩) rfl ?_
  refine hpa_iload_n (by rfl) rfl ?_
  refine hpa_s1 (by rfl) (Or.inr ⟨_, rfl, rfl⟩) rfl ?_
  exact L5 _ (Int32.ofNat 0) a1 (.retAddr 0) (.retAddr 0) (.retAddr 0) A c u0 [] hk_0 (by omega) sg (by omega) hw rfl trivial ⟨rfl, fun _ _ => rfl, rfl⟩
theorem hP163 {g d : Nat} {A : hs_A} {u0 : Nat} {c : hg_C} {x : Nat → Int32} (a1 a2 : Int32) (h1 : a1.toInt = (u0 : Int)) (h2 : a2.toInt = ((u0 + c.length : Nat) : Int)) (sg : hm_seg (A.2.1 390) (A.2.1 391) u0 c) (hx : ∀ i, i < 9 → A.2.1 393 i = x i) (hw : hgw_wf 14 c 0 1) : hpC g d 163 hm_m163 [.ref 368, .int a1, .int a2] A (fun r A' => ∃ z : Int32, r = some (.int z) ∧ ((∃ s : List Int32, hgw_ev x c [] = some (z :: s) ∧ A'.1 367 44 = A.1 367 44) ∨ (hgw_ev x c [] = none ∧ A'.1 367 44 = Int32.ofNat 1)) ∧ A'.2.2 = A.2.2 ∧ (∀ i, ¬ i = 394 → A'.2.1 i = A.2.1 i) ∧ (∀ i k, ¬ (i = 367 ∧ k = 44) → A'.1 i k = A.1 i k)) := hpC.all (fun f d => hW163 a1 a2 h1 h2 sg hx hw (fun r A' h => h))
section HPZ
variable {fg : Nat × Nat} {d : Nat} {ret : Option FieldType} {tb : hc_K} {pc len r1 r2 : Nat} {l st : List Value} {A : hs_A} {P : Option Value → hs_A → Prop}
theorem hpx_zald {i m : Nat} {j : Int32} (hI : hc_get tb pc = some (.baload, len, r1, r2)) (hs : hc_get hs_sh i = some (0, 3, [m])) (k : 0 ≤ j.toInt → j.toInt < (m : Int) → ∀ v : Int32, A.2.1 i j.toNatClampNeg = v → hpa fg d ret tb (pc + 1) l (.int v :: st) A P) : hpa fg d ret tb pc l (.int j :: .ref (i + 1) :: st) A P := by
  by_cases q : 0 ≤ j.toInt ∧ j.toInt < (m : Int)
  · exact hpj_zald hI hs rfl q.1 q.2 (k q.1 q.2)
  · intro h hR
    refine hy_none ?_
    unfold hc_step1
    simp only [hI]
    show hi_baload pc l (.int j :: .ref (i + 1) :: st) hs_n h 0 0 = _
    unfold hi_baload
    have hg : hc_get h i = some (.inl (3, hs_ar A i m)) := (hR i _ hs).trans (congrArg some (hs_cell0 A i 3 m))
    have h0 : hc_ald 0 pc l (.int j :: .ref (i + 1) :: st) hs_n h 0 0 = none := by
      unfold hc_ald
      dsimp only
      rw [hg, hc_arr_ne rfl]
    rw [h0]
    exact hp_aldN hg (hp_elN (hs_ar_len A i m) q)
end HPZ
theorem hW176 {g d f : Nat} {A : hs_A} {V : Nat → Int} {sd q bb zz : Nat} {ns : List Nat} {D : hg_D} {x : Nat → Int32} (a1 a2 : Int32) (hM : hmM V A sd ns D bb zz) (hsd : (A.1 367 18).toInt = (sd : Int)) (hs1 : sd ≤ 1) (hq : q < 4) (h1 : a1.toInt = (q : Int)) (h2 : a2 = Int32.ofInt (if q = 0 then 1 else 0)) (hx : ∀ i, i < 9 → A.2.1 393 i = x i) (hw : hgw_wl (D.2.2.2 q)) {P : Option Value → hs_A → Prop} (hP : ∀ (r : Option Value) (A' : hs_A), (∃ z : Int32, r = some (.int z) ∧ z = hgw_law x (D.2.2.2 q).1 (D.2.2.2 q).2 ∧ A'.2.2 = A.2.2 ∧ (∀ i, ¬ i = 394 → A'.2.1 i = A.2.1 i) ∧ (∀ i k, ¬ (i = 367 ∧ k = 44) → A'.1 i k = A.1 i k)) → P r A') : hpa (f, g) d (some (.int)) hm_t176 0 [.ref 368, .int a1, .int a2, .retAddr 0, .retAddr 0, .retAddr 0, .retAddr 0] [] A P := by
  have k0 := hk_0
  have k1 := hk_1
  have k4 := hk_4
  obtain ⟨b0, b1, mq1, mq2, mq3⟩ := hM.1 q hq
  have L39 : ∀ (f : Nat) (x39_3 : Int32) (x39_4 : Int32) (x39_5 : Value) (x39_6 : Value) (A39 : hs_A) (br39 : hg_B) (bi : Nat) (l3c : x39_3.toInt = 4 * (sd : Int) + (q : Int)) (l4 : x39_4.toInt = (bi : Int)) (lb : bi + br39.length = b0 + (D.2.2.2 q).1.length) (mq4 : b1 = b0 + (D.2.2.2 q).1.length + 1) (mq7 : hmT1 A zz (b0 + (D.2.2.2 q).1.length) (D.2.2.2 q).2) (wb : hgw_wb br39) (qb : hmBr A zz bi br39) (hlw : (hgw_law x (D.2.2.2 q).1 (D.2.2.2 q).2) = hgw_law x br39 (D.2.2.2 q).2) (b39 : A39.1 367 44 = Int32.ofNat 0) (FR39 : A39.2.2 = A.2.2 ∧ (∀ i, ¬ i = 394 → A39.2.1 i = A.2.1 i) ∧ (∀ i k, ¬ (i = 367 ∧ k = 44) → A39.1 i k = A.1 i k)), hpa (f, g) d (some (.int)) hm_t176 39 [.ref 368, .int a1, .int a2, .int x39_3, .int x39_4, x39_5, x39_6] [] A39 P := by
    intro f
    induction f with
    | zero => intros; exact hpa.zero
    | succ f ih39 =>
      intro x39_3 x39_4 x39_5 x39_6 A39 br39 bi l3c l4 lb mq4 mq7 wb qb hlw b39 FR39
      cases br39 with
      | nil =>
        have hln : ([] : hg_B).length = 0 := rfl
        have hbi : bi = b0 + (D.2.2.2 q).1.length := by omega
        obtain ⟨ft, t1, t2, t3, t4, t5⟩ := mq7
        rw [← hbi] at t1 t2 t3
        refine hpa_iloadS (by rfl) rfl ?_
        refine hpa_aload_n (by rfl) rfl ?_
        refine hpa_get (v := .ref 385) (by rfl) (by rfl) (by rfl) rfl ?_
        refine hpa_iload_n (by rfl) rfl ?_
        refine hpx_iald (by rfl) (by rfl) (fun h0v1 h1v1 v1 ev1 => ?_)
        rw [show (x39_3).toNatClampNeg = 4 * sd + q by have := hn_cn (j := x39_3) (by omega); omega, FR39.2.1 384 (by omega)] at ev1
        have tlv1 : v1.toInt = (b1 : Int) := by rw [← ev1]; exact mq2
        refine hpj_cge (by rfl) rfl rfl (fun q2 => False.elim (by omega)) (fun q2 => ?_)
        refine hpa_aload_n (by rfl) rfl ?_
        refine hpa_get (v := .ref 386) (by rfl) (by rfl) (by rfl) rfl ?_
        refine hpa_iload (by rfl) rfl ?_
        refine hpx_zald (by rfl) (by rfl) (fun h0v3 h1v3 v3 ev3 => ?_)
        rw [show (x39_4).toNatClampNeg = bi by have := hn_cn (j := x39_4) (by omega); omega, FR39.2.1 385 (by omega)] at ev3
        have hvv3 := congrArg Int32.toInt (t1)
        rw [ev3] at hvv3
        rw [hk_0] at hvv3
        refine hpj_zeq (by rfl) rfl (fun q4 => ?_) (fun q4 => False.elim (by omega))
        refine hpa_aload_n (by rfl) rfl ?_
        refine hpa_aload_n (by rfl) rfl ?_
        refine hpa_get (v := .ref 389) (by rfl) (by rfl) (by rfl) rfl ?_
        refine hpa_iload (by rfl) rfl ?_
        refine hpx_iald (by rfl) (by rfl) (fun h0v5 h1v5 v5 ev5 => ?_)
        rw [show (x39_4).toNatClampNeg = bi by have := hn_cn (j := x39_4) (by omega); omega, FR39.2.1 388 (by omega)] at ev5
        have hmv5 := congrArg Int32.toInt ev5
        rw [t2] at hmv5
        refine hpa_aload_n (by rfl) rfl ?_
        refine hpa_get (v := .ref 390) (by rfl) (by rfl) (by rfl) rfl ?_
        refine hpa_iload (by rfl) rfl ?_
        refine hpx_iald (by rfl) (by rfl) (fun h0v6 h1v6 v6 ev6 => ?_)
        rw [show (x39_4).toNatClampNeg = bi by have := hn_cn (j := x39_4) (by omega); omega, FR39.2.1 389 (by omega)] at ev6
        have hmv6 := congrArg Int32.toInt ev6
        rw [t3] at hmv6
        refine hpa_call0 (by rfl) (by rfl) (by rfl) (by rfl) (by rfl) (by rfl) (hP163 (u0 := ft) (c := (D.2.2.2 q).2) (x := x) v5 v6 (by omega) (by omega) (by rw [FR39.2.1 390 (by omega), FR39.2.1 391 (by omega)]; exact t5) (fun i hi => by rw [FR39.2.1 393 (by omega)]; exact hx i hi) hw.2) ?_
        rintro _ A7 ⟨z8, rfl, RS_A7, FR_A7⟩
        have FRA7x : A7.2.2 = A.2.2 ∧ (∀ i, ¬ i = 394 → A7.2.1 i = A.2.1 i) ∧ (∀ i k, ¬ (i = 367 ∧ k = 44) → A7.1 i k = A.1 i k) := ⟨FR_A7.1.trans FR39.1, fun i hi => (FR_A7.2.1 i hi).trans (FR39.2.1 i hi), fun i k hi => (FR_A7.2.2 i k hi).trans (FR39.2.2 i k hi)⟩
        refine hpa_s1 (by rfl) (Or.inr ⟨_, rfl, rfl⟩) rfl ?_
        rcases RS_A7 with ⟨sw, ew, bw⟩ | ⟨ew, bw⟩
        ·
          have hb44w := congrArg Int32.toInt (bw.trans b39)
          rw [hk_0] at hb44w
          refine hpa_aload_n (by rfl) rfl ?_
          refine hpj_getK (by rfl) (by rfl) (by rfl) rfl ?_
          refine hpj_zeq (by rfl) rfl (fun q9 => ?_) (fun q9 => False.elim (by omega))
          refine hpa_iload (by rfl) rfl ?_
          exact hpa_ireturn (by rfl) rfl (hP _ _ ⟨_, rfl, by rw [hlw, show hgw_law x [] (D.2.2.2 q).2 = hgw_top (hgw_ev x (D.2.2.2 q).2 []) from rfl, ew]; rfl, FRA7x⟩)
        ·
          have hb44w := congrArg Int32.toInt bw
          rw [hk_1] at hb44w
          refine hpa_aload_n (by rfl) rfl ?_
          refine hpj_getK (by rfl) (by rfl) (by rfl) rfl ?_
          refine hpj_zeq (by rfl) rfl (fun q10 => False.elim (by omega)) (fun q10 => ?_)
          refine hpa_iconst (by rfl) rfl ?_
          refine hpa_goto (by rfl) ?_
          exact hpa_ireturn (by rfl) rfl (hP _ _ ⟨_, rfl, by rw [hlw, show hgw_law x [] (D.2.2.2 q).2 = hgw_top (hgw_ev x (D.2.2.2 q).2 []) from rfl, ew]; rfl, FRA7x⟩)
      | cons qq br' =>
        obtain ⟨k1, k2, k3⟩ := qq
        have hln : ((k1, k2, k3) :: br').length = br'.length + 1 := rfl
        obtain ⟨⟨w1, w2, w3⟩, wb2⟩ := id wb
        obtain ⟨⟨fb, m1, m2, m3, m4, m5, m6, m7, m8, m9⟩, qb2⟩ := id qb
        dsimp only at m3 m4 m5 m6
        have ev2 := hgw_ev_two (x := x) w1 w2
        have hlaw : hgw_law x ((k1, k2, k3) :: br') (D.2.2.2 q).2 = match hgw_ev x (k1 ++ k2) [] with | some (v :: u :: _) => if u.toInt < v.toInt then hgw_top (hgw_ev x k3 []) else hgw_law x br' (D.2.2.2 q).2 | _ => 0 := rfl
        rw [ev2] at hlaw
        refine hpa_iloadS (by rfl) rfl ?_
        refine hpa_aload_n (by rfl) rfl ?_
        refine hpa_get (v := .ref 385) (by rfl) (by rfl) (by rfl) rfl ?_
        refine hpa_iload_n (by rfl) rfl ?_
        refine hpx_iald (by rfl) (by rfl) (fun h0v11 h1v11 v11 ev11 => ?_)
        rw [show (x39_3).toNatClampNeg = 4 * sd + q by have := hn_cn (j := x39_3) (by omega); omega, FR39.2.1 384 (by omega)] at ev11
        have tlv11 : v11.toInt = (b1 : Int) := by rw [← ev11]; exact mq2
        refine hpj_cge (by rfl) rfl rfl (fun q12 => False.elim (by omega)) (fun q12 => ?_)
        refine hpa_aload_n (by rfl) rfl ?_
        refine hpa_get (v := .ref 386) (by rfl) (by rfl) (by rfl) rfl ?_
        refine hpa_iload (by rfl) rfl ?_
        refine hpx_zald (by rfl) (by rfl) (fun h0v13 h1v13 v13 ev13 => ?_)
        rw [show (x39_4).toNatClampNeg = bi by have := hn_cn (j := x39_4) (by omega); omega, FR39.2.1 385 (by omega)] at ev13
        have hvv13 := congrArg Int32.toInt (m1)
        rw [ev13] at hvv13
        rw [hk_1] at hvv13
        refine hpj_zeq (by rfl) rfl (fun q14 => False.elim (by omega)) (fun q14 => ?_)
        refine hpa_aload_n (by rfl) rfl ?_
        refine hpa_aload_n (by rfl) rfl ?_
        refine hpa_get (v := .ref 387) (by rfl) (by rfl) (by rfl) rfl ?_
        refine hpa_iload (by rfl) rfl ?_
        refine hpx_iald (by rfl) (by rfl) (fun h0v15 h1v15 v15 ev15 => ?_)
        rw [show (x39_4).toNatClampNeg = bi by have := hn_cn (j := x39_4) (by omega); omega, FR39.2.1 386 (by omega)] at ev15
        have hmv15 := congrArg Int32.toInt ev15
        rw [m2] at hmv15
        refine hpa_aload_n (by rfl) rfl ?_
        refine hpa_get (v := .ref 388) (by rfl) (by rfl) (by rfl) rfl ?_
        refine hpa_iload (by rfl) rfl ?_
        refine hpx_iald (by rfl) (by rfl) (fun h0v16 h1v16 v16 ev16 => ?_)
        rw [show (x39_4).toNatClampNeg = bi by have := hn_cn (j := x39_4) (by omega); omega, FR39.2.1 387 (by omega)] at ev16
        have hmv16 := congrArg Int32.toInt ev16
        rw [m3] at hmv16
        refine hpa_call0 (by rfl) (by rfl) (by rfl) (by rfl) (by rfl) (by rfl) (hP163 (u0 := fb) (c := k1) (x := x) v15 v16 (by omega) (by omega) (by rw [FR39.2.1 390 (by omega), FR39.2.1 391 (by omega)]; exact m7) (fun i hi => by rw [FR39.2.1 393 (by omega)]; exact hx i hi) w1) ?_
        rintro _ A17 ⟨z18, rfl, RS_A17, FR_A17⟩
        have FRA17x : A17.2.2 = A.2.2 ∧ (∀ i, ¬ i = 394 → A17.2.1 i = A.2.1 i) ∧ (∀ i k, ¬ (i = 367 ∧ k = 44) → A17.1 i k = A.1 i k) := ⟨FR_A17.1.trans FR39.1, fun i hi => (FR_A17.2.1 i hi).trans (FR39.2.1 i hi), fun i k hi => (FR_A17.2.2 i k hi).trans (FR39.2.2 i k hi)⟩
        refine hpa_s1 (by rfl) (Or.inr ⟨_, rfl, rfl⟩) rfl ?_
        refine hpa_aload_n (by rfl) rfl ?_
        refine hpa_aload_n (by rfl) rfl ?_
        refine hpa_get (v := .ref 388) (by rfl) (by rfl) (by rfl) rfl ?_
        refine hpa_iload (by rfl) rfl ?_
        refine hpx_iald (by rfl) (by rfl) (fun h0v19 h1v19 v19 ev19 => ?_)
        rw [show (x39_4).toNatClampNeg = bi by have := hn_cn (j := x39_4) (by omega); omega, FRA17x.2.1 387 (by omega)] at ev19
        have hmv19 := congrArg Int32.toInt ev19
        rw [m3] at hmv19
        refine hpa_aload_n (by rfl) rfl ?_
        refine hpa_get (v := .ref 389) (by rfl) (by rfl) (by rfl) rfl ?_
        refine hpa_iload (by rfl) rfl ?_
        refine hpx_iald (by rfl) (by rfl) (fun h0v20 h1v20 v20 ev20 => ?_)
        rw [show (x39_4).toNatClampNeg = bi by have := hn_cn (j := x39_4) (by omega); omega, FRA17x.2.1 388 (by omega)] at ev20
        have hmv20 := congrArg Int32.toInt ev20
        rw [m4] at hmv20
        refine hpa_call0 (by rfl) (by rfl) (by rfl) (by rfl) (by rfl) (by rfl) (hP163 (u0 := (fb + k1.length)) (c := k2) (x := x) v19 v20 (by omega) (by omega) (by rw [FRA17x.2.1 390 (by omega), FRA17x.2.1 391 (by omega)]; exact m8) (fun i hi => by rw [FRA17x.2.1 393 (by omega)]; exact hx i hi) w2) ?_
        rintro _ A21 ⟨z22, rfl, RS_A21, FR_A21⟩
        have FRA21x : A21.2.2 = A.2.2 ∧ (∀ i, ¬ i = 394 → A21.2.1 i = A.2.1 i) ∧ (∀ i k, ¬ (i = 367 ∧ k = 44) → A21.1 i k = A.1 i k) := ⟨FR_A21.1.trans FRA17x.1, fun i hi => (FR_A21.2.1 i hi).trans (FRA17x.2.1 i hi), fun i k hi => (FR_A21.2.2 i k hi).trans (FRA17x.2.2 i k hi)⟩
        refine hpa_s1 (by rfl) (Or.inr ⟨_, rfl, rfl⟩) rfl ?_
        rcases RS_A17 with ⟨su, eu, bu⟩ | ⟨eu, bu⟩
        ·
          rcases RS_A21 with ⟨sv, ev, bv⟩ | ⟨ev, bv⟩
          ·
            rw [eu, ev] at hlaw
            have hb44 := congrArg Int32.toInt (bv.trans (bu.trans b39))
            rw [hk_0] at hb44
            refine hpa_aload_n (by rfl) rfl ?_
            refine hpj_getK (by rfl) (by rfl) (by rfl) rfl ?_
            refine hpj_zeq (by rfl) rfl (fun q23 => ?_) (fun q23 => False.elim (by omega))
            refine hpa_iload (by rfl) rfl ?_
            refine hpa_iload (by rfl) rfl ?_
            refine hpj_clt (by rfl) rfl rfl (fun q24 => ?_) (fun q24 => ?_)
            ·
              have hl3 : hgw_law x ((k1, k2, k3) :: br') (D.2.2.2 q).2 = hgw_top (hgw_ev x k3 []) := by rw [hlaw]; exact if_pos q24
              refine hpa_aload_n (by rfl) rfl ?_
              refine hpa_aload_n (by rfl) rfl ?_
              refine hpa_get (v := .ref 389) (by rfl) (by rfl) (by rfl) rfl ?_
              refine hpa_iload (by rfl) rfl ?_
              refine hpx_iald (by rfl) (by rfl) (fun h0v25 h1v25 v25 ev25 => ?_)
              rw [show (x39_4).toNatClampNeg = bi by have := hn_cn (j := x39_4) (by omega); omega, FRA21x.2.1 388 (by omega)] at ev25
              have hmv25 := congrArg Int32.toInt ev25
              rw [m4] at hmv25
              refine hpa_aload_n (by rfl) rfl ?_
              refine hpa_get (v := .ref 390) (by rfl) (by rfl) (by rfl) rfl ?_
              refine hpa_iload (by rfl) rfl ?_
              refine hpx_iald (by rfl) (by rfl) (fun h0v26 h1v26 v26 ev26 => ?_)
              rw [show (x39_4).toNatClampNeg = bi by have := hn_cn (j := x39_4) (by omega); omega, FRA21x.2.1 389 (by omega)] at ev26
              have hmv26 := congrArg Int32.toInt ev26
              rw [m5] at hmv26
              refine hpa_call0 (by rfl) (by rfl) (by rfl) (by rfl) (by rfl) (by rfl) (hP163 (u0 := (fb + k1.length + k2.length)) (c := k3) (x := x) v25 v26 (by omega) (by omega) (by rw [FRA21x.2.1 390 (by omega), FRA21x.2.1 391 (by omega)]; exact m9) (fun i hi => by rw [FRA21x.2.1 393 (by omega)]; exact hx i hi) w3) ?_
              rintro _ A27 ⟨z28, rfl, RS_A27, FR_A27⟩
              have FRA27x : A27.2.2 = A.2.2 ∧ (∀ i, ¬ i = 394 → A27.2.1 i = A.2.1 i) ∧ (∀ i k, ¬ (i = 367 ∧ k = 44) → A27.1 i k = A.1 i k) := ⟨FR_A27.1.trans FRA21x.1, fun i hi => (FR_A27.2.1 i hi).trans (FRA21x.2.1 i hi), fun i k hi => (FR_A27.2.2 i k hi).trans (FRA21x.2.2 i k hi)⟩
              refine hpa_s1 (by rfl) (Or.inr ⟨_, rfl, rfl⟩) rfl ?_
              rcases RS_A27 with ⟨sw, ew, bw⟩ | ⟨ew, bw⟩
              ·
                have hb44w := congrArg Int32.toInt (bw.trans (bv.trans (bu.trans b39)))
                rw [hk_0] at hb44w
                refine hpa_aload_n (by rfl) rfl ?_
                refine hpj_getK (by rfl) (by rfl) (by rfl) rfl ?_
                refine hpj_zeq (by rfl) rfl (fun q29 => ?_) (fun q29 => False.elim (by omega))
                refine hpa_iload (by rfl) rfl ?_
                exact hpa_ireturn (by rfl) rfl (hP _ _ ⟨_, rfl, by rw [hlw, hl3, ew]; rfl, FRA27x⟩)
              ·
                have hb44w := congrArg Int32.toInt bw
                rw [hk_1] at hb44w
                refine hpa_aload_n (by rfl) rfl ?_
                refine hpj_getK (by rfl) (by rfl) (by rfl) rfl ?_
                refine hpj_zeq (by rfl) rfl (fun q30 => False.elim (by omega)) (fun q30 => ?_)
                refine hpa_iconst (by rfl) rfl ?_
                refine hpa_goto (by rfl) ?_
                exact hpa_ireturn (by rfl) rfl (hP _ _ ⟨_, rfl, by rw [hlw, hl3, ew]; rfl, FRA27x⟩)
            ·
              have hcnt : hgw_law x ((k1, k2, k3) :: br') (D.2.2.2 q).2 = hgw_law x br' (D.2.2.2 q).2 := by rw [hlaw]; exact if_neg (by omega)
              refine hpa_goto (by rfl) ?_
              refine hpj_iinc (by rfl) rfl rfl hk_1 (by omega) (by omega) (fun _ => rfl) (fun z31 ez31 => ?_)
              refine hpa_goto (by rfl) ?_
              exact ih39 x39_3 z31 (.int z18) (.int z22) A21 br' (bi + 1) l3c (by omega) (by omega) mq4 mq7 wb.2 qb.2 (hlw.trans hcnt) (bv.trans (bu.trans b39)) FRA21x
          ·
            rw [eu, ev] at hlaw
            have hb44 := congrArg Int32.toInt bv
            rw [hk_1] at hb44
            refine hpa_aload_n (by rfl) rfl ?_
            refine hpj_getK (by rfl) (by rfl) (by rfl) rfl ?_
            refine hpj_zeq (by rfl) rfl (fun q32 => False.elim (by omega)) (fun q32 => ?_)
            refine hpa_iconst (by rfl) rfl ?_
            exact hpa_ireturn (by rfl) rfl (hP _ _ ⟨_, rfl, (hlw.trans hlaw).symm, FRA21x⟩)
        ·
          rcases RS_A21 with ⟨sv, ev, bv⟩ | ⟨ev, bv⟩
          ·
            rw [eu, ev] at hlaw
            have hb44 := congrArg Int32.toInt (bv.trans bu)
            rw [hk_1] at hb44
            refine hpa_aload_n (by rfl) rfl ?_
            refine hpj_getK (by rfl) (by rfl) (by rfl) rfl ?_
            refine hpj_zeq (by rfl) rfl (fun q33 => False.elim (by omega)) (fun q33 => ?_)
            refine hpa_iconst (by rfl) rfl ?_
            exact hpa_ireturn (by rfl) rfl (hP _ _ ⟨_, rfl, (hlw.trans hlaw).symm, FRA21x⟩)
          ·
            rw [eu, ev] at hlaw
            have hb44 := congrArg Int32.toInt bv
            rw [hk_1] at hb44
            refine hpa_aload_n (by rfl) rfl ?_
            refine hpj_getK (by rfl) (by rfl) (by rfl) rfl ?_
            refine hpj_zeq (by rfl) rfl (fun q34 => False.elim (by omega)) (fun q34 => ?_)
            refine hpa_iconst (by rfl) rfl ?_
            exact hpa_ireturn (by rfl) rfl (hP _ _ ⟨_, rfl, (hlw.trans hlaw).symm, FRA21x⟩)
  refine hpa_iconst (by rfl) rfl ?_
  refine hpa_aload_n (by rfl) rfl ?_
  refine hpj_getK (by rfl) (by rfl) (by rfl) rfl ?_
  refine hpj_imul (by rfl) hk_4 rfl (by omega) (by omega) (fun z35 ez35 => ?_)
  refine hpa_iload_n (by rfl) rfl ?_
  refine hpj_iadd (by rfl) rfl rfl (by omega) (by omega) (fun z36 ez36 => ?_)
  refine hpa_s1 (by rfl) (Or.inl ⟨_, rfl, rfl⟩) rfl ?_
  refine hpa_aload_n (by rfl) rfl ?_
  refine hpa_get (v := .ref 384) (by rfl) (by rfl) (by rfl) rfl ?_
  refine hpa_iload_n (by rfl) rfl ?_
  refine hpx_iald (by rfl) (by rfl) (fun h0v37 h1v37 v37 ev37 => ?_)
  rw [show (z36).toNatClampNeg = 4 * sd + q by have := hn_cn (j := z36) (by omega); omega] at ev37
  have tlv37 : v37.toInt = (b0 : Int) := by rw [← ev37]; exact mq1
  refine hpa_aload_n (by rfl) rfl ?_
  refine hpa_get (v := .ref 385) (by rfl) (by rfl) (by rfl) rfl ?_
  refine hpa_iload_n (by rfl) rfl ?_
  refine hpx_iald (by rfl) (by rfl) (fun h0v38 h1v38 v38 ev38 => ?_)
  rw [show (z36).toNatClampNeg = 4 * sd + q by have := hn_cn (j := z36) (by omega); omega] at ev38
  have tlv38 : v38.toInt = (b1 : Int) := by rw [← ev38]; exact mq2
  refine hpj_cne (by rfl) rfl rfl (fun q39 => ?_) (fun q39 => ?_)
  ·
    rcases mq3 with ⟨mq4, -⟩ | ⟨mq4, mq5, mq6, mq7⟩
    · exact False.elim (by omega)
    refine hpa_aload_n (by rfl) rfl ?_
    refine hpa_iconst (by rfl) rfl ?_
    refine hpj_putI (by rfl) (by rfl) (by rfl) (by rfl) (fun A40 eA40 fA40 => ?_)
    refine hpa_aload_n (by rfl) rfl ?_
    refine hpa_get (v := .ref 384) (by rfl) (by rfl) (by rfl) rfl ?_
    refine hpa_iload_n (by rfl) rfl ?_
    refine hpx_iald (by rfl) (by rfl) (fun h0v41 h1v41 v41 ev41 => ?_)
    rw [show (z36).toNatClampNeg = 4 * sd + q by have := hn_cn (j := z36) (by omega); omega, fA40] at ev41
    have tlv41 : v41.toInt = (b0 : Int) := by rw [← ev41]; exact mq1
    refine hpa_s1 (by rfl) (Or.inr ⟨_, rfl, rfl⟩) rfl ?_
    exact L39 _ z36 v41 (.retAddr 0) (.retAddr 0) A40 (D.2.2.2 q).1 b0 (by omega) (by omega) (by omega) mq4 mq7 hw.1 mq6 rfl (by rw [eA40, hup1]) ⟨by rw [fA40], fun i _ => by rw [fA40], fun i k hi => by rw [eA40, hup2 hi]⟩
  ·
    refine hpa_iload_n (by rfl) rfl ?_
    exact hpa_ireturn (by rfl) rfl (hP _ _ ⟨_, rfl, by rcases mq3 with ⟨mq4, mq5⟩ | ⟨mq4, mq5, mq6, mq7⟩; (rw [mq5, h2]; rfl); exact False.elim (by omega), rfl, fun _ _ => rfl, fun _ _ _ => rfl⟩)
theorem hP176 {g d : Nat} {A : hs_A} {V : Nat → Int} {sd q bb zz : Nat} {ns : List Nat} {D : hg_D} {x : Nat → Int32} (a1 a2 : Int32) (hM : hmM V A sd ns D bb zz) (hsd : (A.1 367 18).toInt = (sd : Int)) (hs1 : sd ≤ 1) (hq : q < 4) (h1 : a1.toInt = (q : Int)) (h2 : a2 = Int32.ofInt (if q = 0 then 1 else 0)) (hx : ∀ i, i < 9 → A.2.1 393 i = x i) (hw : hgw_wl (D.2.2.2 q)) : hpC g d 176 hm_m176 [.ref 368, .int a1, .int a2] A (fun r A' => ∃ z : Int32, r = some (.int z) ∧ z = hgw_law x (D.2.2.2 q).1 (D.2.2.2 q).2 ∧ A'.2.2 = A.2.2 ∧ (∀ i, ¬ i = 394 → A'.2.1 i = A.2.1 i) ∧ (∀ i k, ¬ (i = 367 ∧ k = 44) → A'.1 i k = A.1 i k)) := hpC.all (fun f d => hW176 a1 a2 hM hsd hs1 hq h1 h2 hx hw (fun r A' h => h))
