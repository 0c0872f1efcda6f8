theorem hofi {y : Int32} {v : Int} (h : y.toInt = v) : (Int32.ofInt v).toInt = v := by
  subst h
  rw [Int32.ofInt_toInt]
theorem hW14 {g d f : Nat} {A : hs_A} {V : Nat → Int} {T : Nat} {ns : List Nat} {D : hg_D} {zz q : Nat} {x : Nat → Int32} (hT : hTT T) (a1 a3 a4 : Int32) (hM : hcM V T A ns D [] zz) (hq : q < 4) (h1 : a1.toInt = (q : Int)) (hx : ∀ i, i < 9 → A.2.1 324 i = x i) (hw : hgw_wl (D.2.2.2 q)) {P : Option Value → hs_A → Prop} (hP : ∀ (r : Option Value) (A' : hs_A), (∃ z : Int32, r = some (.int z) ∧ z = hgw_law (hgx x a3 a4) (D.2.2.2 q).1 (D.2.2.2 q).2 ∧ A'.1 = A.1 ∧ A'.2.2 = A.2.2 ∧ (∀ i, ¬ i = 324 → ¬ i = T + 8 → A'.2.1 i = A.2.1 i) ∧ ∀ i, i < 9 → A'.2.1 324 i = hgx x a3 a4 i) → P r A') : hpa (f, g) d (some (.int)) hm_t14 0 [.ref (T + 5), .int a1, .ref 325, .int a3, .int a4, .retAddr 0, .retAddr 0, .retAddr 0, .retAddr 0, .retAddr 0, .retAddr 0] [] A P := by
  have k0 := hk_0
  have k1 := hk_1
  have k16 := hk_16
  have k2 := hk_2
  have k3 := hk_3
  have k4294967295 := hk_4294967295
  have k5 := hk_5
  have k6 := hk_6
  have k7 := hk_7
  have k9 := hk_9
  have hT9 : T ≤ 11 := by rcases hT with rfl | rfl <;> omega
  have hzz0 := hM.1.1
  have hiq : a1.toNatClampNeg = q := by have := hn_cn (j := a1) (by omega); omega
  obtain ⟨f0, b1, b2, b3, -⟩ := hM.2.1 q hq
  have hnil := hg_nil
  have L21 : ∀ (f : Nat) (x21_5 : Int32) (x21_6 : Int32) (x21_7 : Value) (x21_8 : Value) (x21_9 : Value) (x21_10 : Value) (A21 : hs_A) (l21 : hg_C) (i21 : Nat) (s21 : List Int32) (l5 : x21_5.toInt = (s21.length : Int)) (l6 : x21_6.toInt = (i21 : Int)) (sg21 : hg_seg (A.2.1 (T + 5)) i21 l21) (zl : i21 + l21.length ≤ zz) (ok21 : hgw_ok (hgx x a3 a4) l21 i21 s21 (hgw_law (hgx x a3 a4) (D.2.2.2 q).1 (D.2.2.2 q).2)) (pl21 : hgw_pl (A21.2.1 (T + 8)) s21) (FR21 : A21.1 = A.1 ∧ A21.2.2 = A.2.2 ∧ (∀ i, ¬ i = 324 → ¬ i = T + 8 → A21.2.1 i = A.2.1 i) ∧ ∀ i, i < 9 → A21.2.1 324 i = hgx x a3 a4 i), hpa (f, g) d (some (.int)) hm_t14 21 [.ref (T + 5), .int a1, .ref 325, .int a3, .int a4, .int x21_5, .int x21_6, x21_7, x21_8, x21_9, x21_10] [] A21 P := by
    intro f
    induction f with
    | zero => intros; exact hpa.zero
    | succ f ih21 =>
      intro x21_5 x21_6 x21_7 x21_8 x21_9 x21_10 A21 l21 i21 s21 l5 l6 sg21 zl ok21 pl21 FR21
      have xlt := Int32.toInt_lt x21_5
      have zlt := Int32.toInt_lt (A21.1 (T + 4) 4)
      have hzz : (A21.1 (T + 4) 4).toInt = (zz : Int) := by rw [FR21.1]; exact hM.1.1
      have FR21x := FR21.2.2.1 (T + 5) (by omega) (by omega)
      obtain ⟨k, v, l', rfl, hc⟩ := ok21.cases
      have hll : ((k, v) :: l').length = l'.length + 1 := rfl
      have sg1 := sg21.1
      have sg2 := sg21.2
      rcases hc with ⟨rfl, hs, ok⟩ | ⟨rfl, hv, hs, ok⟩ | ⟨hk, b, a, r, rfl, ok⟩ | ⟨rfl, b, a, m, L2, rfl, rfl, rfl, ok⟩ | ⟨rfl, b, r, rfl, ok⟩
      ·
        refine hpa_iloadS (by rfl) rfl ?_
        refine hpj_zlt (by rfl) rfl (fun q1 => False.elim (by omega)) (fun q1 => ?_)
        refine hpa_iload (by rfl) rfl ?_
        refine hpa_aload_n (by rfl) rfl ?_
        refine hpj_getK (by rfl) (hsT4 hT) (by rfl) rfl ?_
        refine hpj_cge (by rfl) rfl rfl (fun q2 => False.elim (by omega)) (fun q2 => ?_)
        refine hpa_aload_n (by rfl) rfl ?_
        refine hpa_get (v := .ref (T + 6)) (by rfl) (hsT4 hT) (by rfl) (hvT hT (by omega)) ?_
        refine hpa_iload (by rfl) rfl ?_
        refine hpx_iald (by rfl) (hsT5 hT) (fun h0v3 h1v3 v3 ev3 => ?_)
        rw [show (x21_6).toNatClampNeg = i21 by have := hn_cn (j := x21_6) (by omega); omega, FR21x] at ev3
        have tsv3 : v3.toInt = 8 * v + ((0 : Nat) : Int) := by rw [← ev3]; exact sg1
        obtain ⟨dav3, dbv3⟩ := hg_dec tsv3 (by omega)
        refine hpa_bipush (by rfl) rfl ?_
        refine hpa_iand (by rfl) ?_
        refine hpa_s1 (by rfl) (Or.inr ⟨_, rfl, rfl⟩) rfl ?_
        refine hpa_aload_n (by rfl) rfl ?_
        refine hpa_get (v := .ref (T + 6)) (by rfl) (hsT4 hT) (by rfl) (hvT hT (by omega)) ?_
        refine hpa_iload (by rfl) rfl ?_
        refine hpx_iald (by rfl) (hsT5 hT) (fun h0v4 h1v4 v4 ev4 => ?_)
        rw [show (x21_6).toNatClampNeg = i21 by have := hn_cn (j := x21_6) (by omega); omega, FR21x] at ev4
        have tsv4 : v4.toInt = 8 * v + ((0 : Nat) : Int) := by rw [← ev4]; exact sg1
        obtain ⟨dav4, dbv4⟩ := hg_dec tsv4 (by omega)
        refine hpa_iconst (by rfl) rfl ?_
        refine hpa_ishr (by rfl) ?_
        refine hpa_s1 (by rfl) (Or.inr ⟨_, rfl, rfl⟩) rfl ?_
        refine hpa_iload (by rfl) rfl ?_
        refine hpj_zeq (by rfl) rfl (fun q5 => ?_) (fun q5 => False.elim (by omega))
        refine hpa_iload (by rfl) rfl ?_
        refine hpa_bipush (by rfl) rfl ?_
        refine hpj_cge (by rfl) rfl hk_16 (fun q6 => False.elim (by omega)) (fun q6 => ?_)
        refine hpa_iload (by rfl) rfl ?_
        refine hpa_iconst (by rfl) rfl ?_
        refine hpj_cne (by rfl) rfl hk_1 (fun q7 => ?_) (fun q7 => False.elim (by omega))
        refine hpa_aload_n (by rfl) rfl ?_
        refine hpa_get (v := .ref (T + 9)) (by rfl) (hsT4 hT) (by rfl) (hvT hT (by omega)) ?_
        refine hpa_iload (by rfl) rfl ?_
        refine hpa_iload (by rfl) rfl ?_
        refine hpj_zne (by rfl) rfl (fun q8 => False.elim (by omega)) (fun q8 => ?_)
        refine hpa_iload (by rfl) rfl ?_
        refine hpa_goto (by rfl) ?_
        refine hpx_iast (by rfl) (hsT8 hT) (fun A9 h0A9 h1A9 eA9 fA9 gA9 => ?_)
        rw [show (x21_5).toNatClampNeg = (s21).length by have := hn_cn (j := x21_5) (by omega); omega] at fA9
        have plA9 : hgw_pl (A9.2.1 (T + 8)) ((Int32.ofInt v :: s21)) := ⟨by rw [fA9, hup1]; exact Int32.toInt_inj.mp (dbv4.trans (hofi dbv4).symm), pl21.mv (fun j hj => by rw [fA9, hup2 (by omega)])⟩
        have FRA9 : A9.1 = A.1 ∧ A9.2.2 = A.2.2 ∧ (∀ i, ¬ i = 324 → ¬ i = T + 8 → A9.2.1 i = A.2.1 i) ∧ ∀ i, i < 9 → A9.2.1 324 i = hgx x a3 a4 i := ⟨eA9.trans FR21.1, gA9.trans FR21.2.1, fun i h1 h2 => by rw [← FR21.2.2.1 i h1 h2, fA9]; funext j; exact hup2 (by omega), fun i hi => by rw [fA9, hup2 (by omega)]; exact FR21.2.2.2 i hi⟩
        refine hpj_iinc (by rfl) rfl rfl hk_1 (by omega) (by omega) (fun _ => rfl) (fun z10 ez10 => ?_)
        refine hpa_goto (by rfl) ?_
        refine hpj_iinc (by rfl) rfl rfl hk_1 (by omega) (by omega) (fun _ => rfl) (fun z11 ez11 => ?_)
        refine hpa_goto (by rfl) ?_
        exact ih21 z10 z11 (.int (v3 &&& (Int32.ofNat 7))) (.int (v4 >>> ((Int32.ofNat 3) &&& 31))) (x21_9) (x21_10) A9 l' (i21 + 1) ((Int32.ofInt v :: s21)) (by show _ = ((s21.length + 1 : Nat) : Int); omega) (by omega) sg2 (by omega) ok plA9 FRA9
      ·
        refine hpa_iloadS (by rfl) rfl ?_
        refine hpj_zlt (by rfl) rfl (fun q12 => False.elim (by omega)) (fun q12 => ?_)
        refine hpa_iload (by rfl) rfl ?_
        refine hpa_aload_n (by rfl) rfl ?_
        refine hpj_getK (by rfl) (hsT4 hT) (by rfl) rfl ?_
        refine hpj_cge (by rfl) rfl rfl (fun q13 => False.elim (by omega)) (fun q13 => ?_)
        refine hpa_aload_n (by rfl) rfl ?_
        refine hpa_get (v := .ref (T + 6)) (by rfl) (hsT4 hT) (by rfl) (hvT hT (by omega)) ?_
        refine hpa_iload (by rfl) rfl ?_
        refine hpx_iald (by rfl) (hsT5 hT) (fun h0v14 h1v14 v14 ev14 => ?_)
        rw [show (x21_6).toNatClampNeg = i21 by have := hn_cn (j := x21_6) (by omega); omega, FR21x] at ev14
        have tsv14 : v14.toInt = 8 * v + ((1 : Nat) : Int) := by rw [← ev14]; exact sg1
        obtain ⟨dav14, dbv14⟩ := hg_dec tsv14 (by omega)
        refine hpa_bipush (by rfl) rfl ?_
        refine hpa_iand (by rfl) ?_
        refine hpa_s1 (by rfl) (Or.inr ⟨_, rfl, rfl⟩) rfl ?_
        refine hpa_aload_n (by rfl) rfl ?_
        refine hpa_get (v := .ref (T + 6)) (by rfl) (hsT4 hT) (by rfl) (hvT hT (by omega)) ?_
        refine hpa_iload (by rfl) rfl ?_
        refine hpx_iald (by rfl) (hsT5 hT) (fun h0v15 h1v15 v15 ev15 => ?_)
        rw [show (x21_6).toNatClampNeg = i21 by have := hn_cn (j := x21_6) (by omega); omega, FR21x] at ev15
        have tsv15 : v15.toInt = 8 * v + ((1 : Nat) : Int) := by rw [← ev15]; exact sg1
        obtain ⟨dav15, dbv15⟩ := hg_dec tsv15 (by omega)
        refine hpa_iconst (by rfl) rfl ?_
        refine hpa_ishr (by rfl) ?_
        refine hpa_s1 (by rfl) (Or.inr ⟨_, rfl, rfl⟩) rfl ?_
        refine hpa_iload (by rfl) rfl ?_
        refine hpj_zeq (by rfl) rfl (fun q16 => False.elim (by omega)) (fun q16 => ?_)
        refine hpa_iload (by rfl) rfl ?_
        refine hpa_iconst (by rfl) rfl ?_
        refine hpj_cne (by rfl) rfl hk_1 (fun q17 => False.elim (by omega)) (fun q17 => ?_)
        refine hpa_iload (by rfl) rfl ?_
        refine hpa_bipush (by rfl) rfl ?_
        refine hpj_cge (by rfl) rfl hk_16 (fun q18 => False.elim (by omega)) (fun q18 => ?_)
        refine hpa_iload (by rfl) rfl ?_
        refine hpa_iconst (by rfl) rfl ?_
        refine hpj_cne (by rfl) rfl hk_1 (fun q19 => False.elim (by omega)) (fun q19 => ?_)
        refine hpa_iload (by rfl) rfl ?_
        refine hpa_bipush (by rfl) rfl ?_
        refine hpj_clt (by rfl) rfl hk_9 (fun q20 => ?_) (fun q20 => False.elim (by omega))
        refine hpa_aload_n (by rfl) rfl ?_
        refine hpa_get (v := .ref (T + 9)) (by rfl) (hsT4 hT) (by rfl) (hvT hT (by omega)) ?_
        refine hpa_iload (by rfl) rfl ?_
        refine hpa_iload (by rfl) rfl ?_
        refine hpj_zne (by rfl) rfl (fun q21 => ?_) (fun q21 => False.elim (by omega))
        refine hpa_aload_n (by rfl) rfl ?_
        refine hpa_iload (by rfl) rfl ?_
        refine hpx_iald (by rfl) (by rfl) (fun h0v22 h1v22 v22 ev22 => ?_)
        have lxv22 : v22 = hgx x a3 a4 v.toNat := by rw [← ev22, show ((v15 >>> ((Int32.ofNat 3) &&& 31))).toNatClampNeg = v.toNat by have := hn_cn (j := (v15 >>> ((Int32.ofNat 3) &&& 31))) (by omega); omega]; exact FR21.2.2.2 v.toNat (by omega)
        refine hpx_iast (by rfl) (hsT8 hT) (fun A23 h0A23 h1A23 eA23 fA23 gA23 => ?_)
        rw [show (x21_5).toNatClampNeg = (s21).length by have := hn_cn (j := x21_5) (by omega); omega] at fA23
        have plA23 : hgw_pl (A23.2.1 (T + 8)) ((hgx x a3 a4 v.toNat :: s21)) := ⟨by rw [fA23, hup1]; exact lxv22, pl21.mv (fun j hj => by rw [fA23, hup2 (by omega)])⟩
        have FRA23 : A23.1 = A.1 ∧ A23.2.2 = A.2.2 ∧ (∀ i, ¬ i = 324 → ¬ i = T + 8 → A23.2.1 i = A.2.1 i) ∧ ∀ i, i < 9 → A23.2.1 324 i = hgx x a3 a4 i := ⟨eA23.trans FR21.1, gA23.trans FR21.2.1, fun i h1 h2 => by rw [← FR21.2.2.1 i h1 h2, fA23]; funext j; exact hup2 (by omega), fun i hi => by rw [fA23, hup2 (by omega)]; exact FR21.2.2.2 i hi⟩
        refine hpj_iinc (by rfl) rfl rfl hk_1 (by omega) (by omega) (fun _ => rfl) (fun z24 ez24 => ?_)
        refine hpa_goto (by rfl) ?_
        refine hpj_iinc (by rfl) rfl rfl hk_1 (by omega) (by omega) (fun _ => rfl) (fun z25 ez25 => ?_)
        refine hpa_goto (by rfl) ?_
        exact ih21 z24 z25 (.int (v14 &&& (Int32.ofNat 7))) (.int (v15 >>> ((Int32.ofNat 3) &&& 31))) (x21_9) (x21_10) A23 l' (i21 + 1) ((hgx x a3 a4 v.toNat :: s21)) (by show _ = ((s21.length + 1 : Nat) : Int); omega) (by omega) sg2 (by omega) ok plA23 FRA23
      ·
        have hl2 : (b :: a :: r).length = r.length + 2 := rfl
        have hk4 : k = 2 ∨ k = 3 ∨ k = 4 ∨ k = 5 := by omega
        rcases hk4 with rfl | rfl | rfl | rfl
        ·
          rcases ok with ⟨o1, -, -⟩ | ⟨-, ok⟩
          · omega
          refine hpa_iloadS (by rfl) rfl ?_
          refine hpj_zlt (by rfl) rfl (fun q26 => False.elim (by omega)) (fun q26 => ?_)
          refine hpa_iload (by rfl) rfl ?_
          refine hpa_aload_n (by rfl) rfl ?_
          refine hpj_getK (by rfl) (hsT4 hT) (by rfl) rfl ?_
          refine hpj_cge (by rfl) rfl rfl (fun q27 => False.elim (by omega)) (fun q27 => ?_)
          refine hpa_aload_n (by rfl) rfl ?_
          refine hpa_get (v := .ref (T + 6)) (by rfl) (hsT4 hT) (by rfl) (hvT hT (by omega)) ?_
          refine hpa_iload (by rfl) rfl ?_
          refine hpx_iald (by rfl) (hsT5 hT) (fun h0v28 h1v28 v28 ev28 => ?_)
          rw [show (x21_6).toNatClampNeg = i21 by have := hn_cn (j := x21_6) (by omega); omega, FR21x] at ev28
          have tsv28 : v28.toInt = 8 * v + ((2 : Nat) : Int) := by rw [← ev28]; exact sg1
          obtain ⟨dav28, dbv28⟩ := hg_dec tsv28 (by omega)
          refine hpa_bipush (by rfl) rfl ?_
          refine hpa_iand (by rfl) ?_
          refine hpa_s1 (by rfl) (Or.inr ⟨_, rfl, rfl⟩) rfl ?_
          refine hpa_aload_n (by rfl) rfl ?_
          refine hpa_get (v := .ref (T + 6)) (by rfl) (hsT4 hT) (by rfl) (hvT hT (by omega)) ?_
          refine hpa_iload (by rfl) rfl ?_
          refine hpx_iald (by rfl) (hsT5 hT) (fun h0v29 h1v29 v29 ev29 => ?_)
          rw [show (x21_6).toNatClampNeg = i21 by have := hn_cn (j := x21_6) (by omega); omega, FR21x] at ev29
          have tsv29 : v29.toInt = 8 * v + ((2 : Nat) : Int) := by rw [← ev29]; exact sg1
          obtain ⟨dav29, dbv29⟩ := hg_dec tsv29 (by omega)
          refine hpa_iconst (by rfl) rfl ?_
          refine hpa_ishr (by rfl) ?_
          refine hpa_s1 (by rfl) (Or.inr ⟨_, rfl, rfl⟩) rfl ?_
          refine hpa_iload (by rfl) rfl ?_
          refine hpj_zeq (by rfl) rfl (fun q30 => False.elim (by omega)) (fun q30 => ?_)
          refine hpa_iload (by rfl) rfl ?_
          refine hpa_iconst (by rfl) rfl ?_
          refine hpj_cne (by rfl) rfl hk_1 (fun q31 => ?_) (fun q31 => False.elim (by omega))
          refine hpa_iload (by rfl) rfl ?_
          refine hpa_bipush (by rfl) rfl ?_
          refine hpj_cne (by rfl) rfl hk_7 (fun q32 => ?_) (fun q32 => False.elim (by omega))
          refine hpa_iload (by rfl) rfl ?_
          refine hpa_iconst (by rfl) rfl ?_
          refine hpj_clt (by rfl) rfl hk_2 (fun q33 => False.elim (by omega)) (fun q33 => ?_)
          refine hpa_iload (by rfl) rfl ?_
          refine hpa_iconst (by rfl) rfl ?_
          refine hpj_cne (by rfl) rfl hk_5 (fun q34 => ?_) (fun q34 => False.elim (by omega))
          refine hpj_iinc (by rfl) rfl rfl hk_4294967295 (by omega) (by omega) (fun _ => rfl) (fun z35 ez35 => ?_)
          refine hpa_aload_n (by rfl) rfl ?_
          refine hpa_get (v := .ref (T + 9)) (by rfl) (hsT4 hT) (by rfl) (hvT hT (by omega)) ?_
          refine hpa_iload (by rfl) rfl ?_
          refine hpa_iconst (by rfl) rfl ?_
          refine hpj_isub (by rfl) rfl hk_1 (by omega) (by omega) (fun z36 ez36 => ?_)
          refine hpx_iald (by rfl) (hsT8 hT) (fun h0v37 h1v37 v37 ev37 => ?_)
          have lpv37 : v37 = a := by rw [← ev37, show (z36).toNatClampNeg = r.length by have := hn_cn (j := z36) (by omega); omega]; exact pl21.2.1
          have lqv37 := congrArg Int32.toInt lpv37
          refine hpa_s1 (by rfl) (Or.inr ⟨_, rfl, rfl⟩) rfl ?_
          refine hpa_aload_n (by rfl) rfl ?_
          refine hpa_get (v := .ref (T + 9)) (by rfl) (hsT4 hT) (by rfl) (hvT hT (by omega)) ?_
          refine hpa_iload (by rfl) rfl ?_
          refine hpx_iald (by rfl) (hsT8 hT) (fun h0v38 h1v38 v38 ev38 => ?_)
          have lpv38 : v38 = b := by rw [← ev38, show (z35).toNatClampNeg = r.length + 1 by have := hn_cn (j := z35) (by omega); omega]; exact pl21.1
          have lqv38 := congrArg Int32.toInt lpv38
          refine hpa_s1 (by rfl) (Or.inr ⟨_, rfl, rfl⟩) rfl ?_
          refine hpa_iload (by rfl) rfl ?_
          refine hpa_tabIn (by rfl) (by omega) (by omega) (by rw [dav28]; rfl) (tgt := 224) (by rfl) ?_
          refine hpa_aload_n (by rfl) rfl ?_
          refine hpa_get (v := .ref (T + 9)) (by rfl) (hsT4 hT) (by rfl) (hvT hT (by omega)) ?_
          refine hpa_iload (by rfl) rfl ?_
          refine hpa_iconst (by rfl) rfl ?_
          refine hpj_isub (by rfl) rfl hk_1 (by omega) (by omega) (fun z39 ez39 => ?_)
          refine hpa_iload (by rfl) rfl ?_
          refine hpa_iload (by rfl) rfl ?_
          refine hpa_iadd (by rfl) ?_
          refine hpx_iast (by rfl) (hsT8 hT) (fun A40 h0A40 h1A40 eA40 fA40 gA40 => ?_)
          rw [show (z39).toNatClampNeg = (r).length by have := hn_cn (j := z39) (by omega); omega] at fA40
          have plA40 : hgw_pl (A40.2.1 (T + 8)) ((hgv_ap 2 a b :: r)) := ⟨by rw [fA40, hup1]; exact (by rw [lpv37, lpv38]; rfl), pl21.2.2.mv (fun j hj => by rw [fA40, hup2 (by omega)])⟩
          have FRA40 : A40.1 = A.1 ∧ A40.2.2 = A.2.2 ∧ (∀ i, ¬ i = 324 → ¬ i = T + 8 → A40.2.1 i = A.2.1 i) ∧ ∀ i, i < 9 → A40.2.1 324 i = hgx x a3 a4 i := ⟨eA40.trans FR21.1, gA40.trans FR21.2.1, fun i h1 h2 => by rw [← FR21.2.2.1 i h1 h2, fA40]; funext j; exact hup2 (by omega), fun i hi => by rw [fA40, hup2 (by omega)]; exact FR21.2.2.2 i hi⟩
          refine hpa_goto (by rfl) ?_
          refine hpj_iinc (by rfl) rfl rfl hk_1 (by omega) (by omega) (fun _ => rfl) (fun z41 ez41 => ?_)
          refine hpa_goto (by rfl) ?_
          exact ih21 z35 z41 (.int (v28 &&& (Int32.ofNat 7))) (.int (v29 >>> ((Int32.ofNat 3) &&& 31))) (.int v37) (.int v38) A40 l' (i21 + 1) ((hgv_ap 2 a b :: r)) (by show _ = ((r.length + 1 : Nat) : Int); omega) (by omega) sg2 (by omega) ok plA40 FRA40
        ·
          rcases ok with ⟨o1, -, -⟩ | ⟨-, ok⟩
          · omega
          refine hpa_iloadS (by rfl) rfl ?_
          refine hpj_zlt (by rfl) rfl (fun q42 => False.elim (by omega)) (fun q42 => ?_)
          refine hpa_iload (by rfl) rfl ?_
          refine hpa_aload_n (by rfl) rfl ?_
          refine hpj_getK (by rfl) (hsT4 hT) (by rfl) rfl ?_
          refine hpj_cge (by rfl) rfl rfl (fun q43 => False.elim (by omega)) (fun q43 => ?_)
          refine hpa_aload_n (by rfl) rfl ?_
          refine hpa_get (v := .ref (T + 6)) (by rfl) (hsT4 hT) (by rfl) (hvT hT (by omega)) ?_
          refine hpa_iload (by rfl) rfl ?_
          refine hpx_iald (by rfl) (hsT5 hT) (fun h0v44 h1v44 v44 ev44 => ?_)
          rw [show (x21_6).toNatClampNeg = i21 by have := hn_cn (j := x21_6) (by omega); omega, FR21x] at ev44
          have tsv44 : v44.toInt = 8 * v + ((3 : Nat) : Int) := by rw [← ev44]; exact sg1
          obtain ⟨dav44, dbv44⟩ := hg_dec tsv44 (by omega)
          refine hpa_bipush (by rfl) rfl ?_
          refine hpa_iand (by rfl) ?_
          refine hpa_s1 (by rfl) (Or.inr ⟨_, rfl, rfl⟩) rfl ?_
          refine hpa_aload_n (by rfl) rfl ?_
          refine hpa_get (v := .ref (T + 6)) (by rfl) (hsT4 hT) (by rfl) (hvT hT (by omega)) ?_
          refine hpa_iload (by rfl) rfl ?_
          refine hpx_iald (by rfl) (hsT5 hT) (fun h0v45 h1v45 v45 ev45 => ?_)
          rw [show (x21_6).toNatClampNeg = i21 by have := hn_cn (j := x21_6) (by omega); omega, FR21x] at ev45
          have tsv45 : v45.toInt = 8 * v + ((3 : Nat) : Int) := by rw [← ev45]; exact sg1
          obtain ⟨dav45, dbv45⟩ := hg_dec tsv45 (by omega)
          refine hpa_iconst (by rfl) rfl ?_
          refine hpa_ishr (by rfl) ?_
          refine hpa_s1 (by rfl) (Or.inr ⟨_, rfl, rfl⟩) rfl ?_
          refine hpa_iload (by rfl) rfl ?_
          refine hpj_zeq (by rfl) rfl (fun q46 => False.elim (by omega)) (fun q46 => ?_)
          refine hpa_iload (by rfl) rfl ?_
          refine hpa_iconst (by rfl) rfl ?_
          refine hpj_cne (by rfl) rfl hk_1 (fun q47 => ?_) (fun q47 => False.elim (by omega))
          refine hpa_iload (by rfl) rfl ?_
          refine hpa_bipush (by rfl) rfl ?_
          refine hpj_cne (by rfl) rfl hk_7 (fun q48 => ?_) (fun q48 => False.elim (by omega))
          refine hpa_iload (by rfl) rfl ?_
          refine hpa_iconst (by rfl) rfl ?_
          refine hpj_clt (by rfl) rfl hk_2 (fun q49 => False.elim (by omega)) (fun q49 => ?_)
          refine hpa_iload (by rfl) rfl ?_
          refine hpa_iconst (by rfl) rfl ?_
          refine hpj_cne (by rfl) rfl hk_5 (fun q50 => ?_) (fun q50 => False.elim (by omega))
          refine hpj_iinc (by rfl) rfl rfl hk_4294967295 (by omega) (by omega) (fun _ => rfl) (fun z51 ez51 => ?_)
          refine hpa_aload_n (by rfl) rfl ?_
          refine hpa_get (v := .ref (T + 9)) (by rfl) (hsT4 hT) (by rfl) (hvT hT (by omega)) ?_
          refine hpa_iload (by rfl) rfl ?_
          refine hpa_iconst (by rfl) rfl ?_
          refine hpj_isub (by rfl) rfl hk_1 (by omega) (by omega) (fun z52 ez52 => ?_)
          refine hpx_iald (by rfl) (hsT8 hT) (fun h0v53 h1v53 v53 ev53 => ?_)
          have lpv53 : v53 = a := by rw [← ev53, show (z52).toNatClampNeg = r.length by have := hn_cn (j := z52) (by omega); omega]; exact pl21.2.1
          have lqv53 := congrArg Int32.toInt lpv53
          refine hpa_s1 (by rfl) (Or.inr ⟨_, rfl, rfl⟩) rfl ?_
          refine hpa_aload_n (by rfl) rfl ?_
          refine hpa_get (v := .ref (T + 9)) (by rfl) (hsT4 hT) (by rfl) (hvT hT (by omega)) ?_
          refine hpa_iload (by rfl) rfl ?_
          refine hpx_iald (by rfl) (hsT8 hT) (fun h0v54 h1v54 v54 ev54 => ?_)
          have lpv54 : v54 = b := by rw [← ev54, show (z51).toNatClampNeg = r.length + 1 by have := hn_cn (j := z51) (by omega); omega]; exact pl21.1
          have lqv54 := congrArg Int32.toInt lpv54
          refine hpa_s1 (by rfl) (Or.inr ⟨_, rfl, rfl⟩) rfl ?_
          refine hpa_iload (by rfl) rfl ?_
          refine hpa_tabIn (by rfl) (by omega) (by omega) (by rw [dav44]; rfl) (tgt := 241) (by rfl) ?_
          refine hpa_aload_n (by rfl) rfl ?_
          refine hpa_get (v := .ref (T + 9)) (by rfl) (hsT4 hT) (by rfl) (hvT hT (by omega)) ?_
          refine hpa_iload (by rfl) rfl ?_
          refine hpa_iconst (by rfl) rfl ?_
          refine hpj_isub (by rfl) rfl hk_1 (by omega) (by omega) (fun z55 ez55 => ?_)
          refine hpa_iload (by rfl) rfl ?_
          refine hpa_iload (by rfl) rfl ?_
          refine hpa_isub (by rfl) ?_
          refine hpx_iast (by rfl) (hsT8 hT) (fun A56 h0A56 h1A56 eA56 fA56 gA56 => ?_)
          rw [show (z55).toNatClampNeg = (r).length by have := hn_cn (j := z55) (by omega); omega] at fA56
          have plA56 : hgw_pl (A56.2.1 (T + 8)) ((hgv_ap 3 a b :: r)) := ⟨by rw [fA56, hup1]; exact (by rw [lpv53, lpv54]; rfl), pl21.2.2.mv (fun j hj => by rw [fA56, hup2 (by omega)])⟩
          have FRA56 : A56.1 = A.1 ∧ A56.2.2 = A.2.2 ∧ (∀ i, ¬ i = 324 → ¬ i = T + 8 → A56.2.1 i = A.2.1 i) ∧ ∀ i, i < 9 → A56.2.1 324 i = hgx x a3 a4 i := ⟨eA56.trans FR21.1, gA56.trans FR21.2.1, fun i h1 h2 => by rw [← FR21.2.2.1 i h1 h2, fA56]; funext j; exact hup2 (by omega), fun i hi => by rw [fA56, hup2 (by omega)]; exact FR21.2.2.2 i hi⟩
          refine hpa_goto (by rfl) ?_
          refine hpj_iinc (by rfl) rfl rfl hk_1 (by omega) (by omega) (fun _ => rfl) (fun z57 ez57 => ?_)
          refine hpa_goto (by rfl) ?_
          exact ih21 z51 z57 (.int (v44 &&& (Int32.ofNat 7))) (.int (v45 >>> ((Int32.ofNat 3) &&& 31))) (.int v53) (.int v54) A56 l' (i21 + 1) ((hgv_ap 3 a b :: r)) (by show _ = ((r.length + 1 : Nat) : Int); omega) (by omega) sg2 (by omega) ok plA56 FRA56
        ·
          rcases ok with ⟨o1, -, -⟩ | ⟨-, ok⟩
          · omega
          refine hpa_iloadS (by rfl) rfl ?_
          refine hpj_zlt (by rfl) rfl (fun q58 => False.elim (by omega)) (fun q58 => ?_)
          refine hpa_iload (by rfl) rfl ?_
          refine hpa_aload_n (by rfl) rfl ?_
          refine hpj_getK (by rfl) (hsT4 hT) (by rfl) rfl ?_
          refine hpj_cge (by rfl) rfl rfl (fun q59 => False.elim (by omega)) (fun q59 => ?_)
          refine hpa_aload_n (by rfl) rfl ?_
          refine hpa_get (v := .ref (T + 6)) (by rfl) (hsT4 hT) (by rfl) (hvT hT (by omega)) ?_
          refine hpa_iload (by rfl) rfl ?_
          refine hpx_iald (by rfl) (hsT5 hT) (fun h0v60 h1v60 v60 ev60 => ?_)
          rw [show (x21_6).toNatClampNeg = i21 by have := hn_cn (j := x21_6) (by omega); omega, FR21x] at ev60
          have tsv60 : v60.toInt = 8 * v + ((4 : Nat) : Int) := by rw [← ev60]; exact sg1
          obtain ⟨dav60, dbv60⟩ := hg_dec tsv60 (by omega)
          refine hpa_bipush (by rfl) rfl ?_
          refine hpa_iand (by rfl) ?_
          refine hpa_s1 (by rfl) (Or.inr ⟨_, rfl, rfl⟩) rfl ?_
          refine hpa_aload_n (by rfl) rfl ?_
          refine hpa_get (v := .ref (T + 6)) (by rfl) (hsT4 hT) (by rfl) (hvT hT (by omega)) ?_
          refine hpa_iload (by rfl) rfl ?_
          refine hpx_iald (by rfl) (hsT5 hT) (fun h0v61 h1v61 v61 ev61 => ?_)
          rw [show (x21_6).toNatClampNeg = i21 by have := hn_cn (j := x21_6) (by omega); omega, FR21x] at ev61
          have tsv61 : v61.toInt = 8 * v + ((4 : Nat) : Int) := by rw [← ev61]; exact sg1
          obtain ⟨dav61, dbv61⟩ := hg_dec tsv61 (by omega)
          refine hpa_iconst (by rfl) rfl ?_
          refine hpa_ishr (by rfl) ?_
          refine hpa_s1 (by rfl) (Or.inr ⟨_, rfl, rfl⟩) rfl ?_
          refine hpa_iload (by rfl) rfl ?_
          refine hpj_zeq (by rfl) rfl (fun q62 => False.elim (by omega)) (fun q62 => ?_)
          refine hpa_iload (by rfl) rfl ?_
          refine hpa_iconst (by rfl) rfl ?_
          refine hpj_cne (by rfl) rfl hk_1 (fun q63 => ?_) (fun q63 => False.elim (by omega))
          refine hpa_iload (by rfl) rfl ?_
          refine hpa_bipush (by rfl) rfl ?_
          refine hpj_cne (by rfl) rfl hk_7 (fun q64 => ?_) (fun q64 => False.elim (by omega))
          refine hpa_iload (by rfl) rfl ?_
          refine hpa_iconst (by rfl) rfl ?_
          refine hpj_clt (by rfl) rfl hk_2 (fun q65 => False.elim (by omega)) (fun q65 => ?_)
          refine hpa_iload (by rfl) rfl ?_
          refine hpa_iconst (by rfl) rfl ?_
          refine hpj_cne (by rfl) rfl hk_5 (fun q66 => ?_) (fun q66 => False.elim (by omega))
          refine hpj_iinc (by rfl) rfl rfl hk_4294967295 (by omega) (by omega) (fun _ => rfl) (fun z67 ez67 => ?_)
          refine hpa_aload_n (by rfl) rfl ?_
          refine hpa_get (v := .ref (T + 9)) (by rfl) (hsT4 hT) (by rfl) (hvT hT (by omega)) ?_
          refine hpa_iload (by rfl) rfl ?_
          refine hpa_iconst (by rfl) rfl ?_
          refine hpj_isub (by rfl) rfl hk_1 (by omega) (by omega) (fun z68 ez68 => ?_)
          refine hpx_iald (by rfl) (hsT8 hT) (fun h0v69 h1v69 v69 ev69 => ?_)
          have lpv69 : v69 = a := by rw [← ev69, show (z68).toNatClampNeg = r.length by have := hn_cn (j := z68) (by omega); omega]; exact pl21.2.1
          have lqv69 := congrArg Int32.toInt lpv69
          refine hpa_s1 (by rfl) (Or.inr ⟨_, rfl, rfl⟩) rfl ?_
          refine hpa_aload_n (by rfl) rfl ?_
          refine hpa_get (v := .ref (T + 9)) (by rfl) (hsT4 hT) (by rfl) (hvT hT (by omega)) ?_
          refine hpa_iload (by rfl) rfl ?_
          refine hpx_iald (by rfl) (hsT8 hT) (fun h0v70 h1v70 v70 ev70 => ?_)
          have lpv70 : v70 = b := by rw [← ev70, show (z67).toNatClampNeg = r.length + 1 by have := hn_cn (j := z67) (by omega); omega]; exact pl21.1
          have lqv70 := congrArg Int32.toInt lpv70
          refine hpa_s1 (by rfl) (Or.inr ⟨_, rfl, rfl⟩) rfl ?_
          refine hpa_iload (by rfl) rfl ?_
          refine hpa_tabIn (by rfl) (by omega) (by omega) (by rw [dav60]; rfl) (tgt := 258) (by rfl) ?_
          refine hpa_aload_n (by rfl) rfl ?_
          refine hpa_get (v := .ref (T + 9)) (by rfl) (hsT4 hT) (by rfl) (hvT hT (by omega)) ?_
          refine hpa_iload (by rfl) rfl ?_
          refine hpa_iconst (by rfl) rfl ?_
          refine hpj_isub (by rfl) rfl hk_1 (by omega) (by omega) (fun z71 ez71 => ?_)
          refine hpa_iload (by rfl) rfl ?_
          refine hpa_iload (by rfl) rfl ?_
          refine hpa_imul (by rfl) ?_
          refine hpx_iast (by rfl) (hsT8 hT) (fun A72 h0A72 h1A72 eA72 fA72 gA72 => ?_)
          rw [show (z71).toNatClampNeg = (r).length by have := hn_cn (j := z71) (by omega); omega] at fA72
          have plA72 : hgw_pl (A72.2.1 (T + 8)) ((hgv_ap 4 a b :: r)) := ⟨by rw [fA72, hup1]; exact (by rw [lpv69, lpv70]; rfl), pl21.2.2.mv (fun j hj => by rw [fA72, hup2 (by omega)])⟩
          have FRA72 : A72.1 = A.1 ∧ A72.2.2 = A.2.2 ∧ (∀ i, ¬ i = 324 → ¬ i = T + 8 → A72.2.1 i = A.2.1 i) ∧ ∀ i, i < 9 → A72.2.1 324 i = hgx x a3 a4 i := ⟨eA72.trans FR21.1, gA72.trans FR21.2.1, fun i h1 h2 => by rw [← FR21.2.2.1 i h1 h2, fA72]; funext j; exact hup2 (by omega), fun i hi => by rw [fA72, hup2 (by omega)]; exact FR21.2.2.2 i hi⟩
          refine hpa_goto (by rfl) ?_
          refine hpj_iinc (by rfl) rfl rfl hk_1 (by omega) (by omega) (fun _ => rfl) (fun z73 ez73 => ?_)
          refine hpa_goto (by rfl) ?_
          exact ih21 z67 z73 (.int (v60 &&& (Int32.ofNat 7))) (.int (v61 >>> ((Int32.ofNat 3) &&& 31))) (.int v69) (.int v70) A72 l' (i21 + 1) ((hgv_ap 4 a b :: r)) (by show _ = ((r.length + 1 : Nat) : Int); omega) (by omega) sg2 (by omega) ok plA72 FRA72
        ·
          rcases ok with ⟨-, o2, o3⟩ | ⟨o1, ok⟩
          ·
            have hb0z : b.toInt = 0 := by rw [o2]; rfl
            refine hpa_iloadS (by rfl) rfl ?_
            refine hpj_zlt (by rfl) rfl (fun q74 => False.elim (by omega)) (fun q74 => ?_)
            refine hpa_iload (by rfl) rfl ?_
            refine hpa_aload_n (by rfl) rfl ?_
            refine hpj_getK (by rfl) (hsT4 hT) (by rfl) rfl ?_
            refine hpj_cge (by rfl) rfl rfl (fun q75 => False.elim (by omega)) (fun q75 => ?_)
            refine hpa_aload_n (by rfl) rfl ?_
            refine hpa_get (v := .ref (T + 6)) (by rfl) (hsT4 hT) (by rfl) (hvT hT (by omega)) ?_
            refine hpa_iload (by rfl) rfl ?_
            refine hpx_iald (by rfl) (hsT5 hT) (fun h0v76 h1v76 v76 ev76 => ?_)
            rw [show (x21_6).toNatClampNeg = i21 by have := hn_cn (j := x21_6) (by omega); omega, FR21x] at ev76
            have tsv76 : v76.toInt = 8 * v + ((5 : Nat) : Int) := by rw [← ev76]; exact sg1
            obtain ⟨dav76, dbv76⟩ := hg_dec tsv76 (by omega)
            refine hpa_bipush (by rfl) rfl ?_
            refine hpa_iand (by rfl) ?_
            refine hpa_s1 (by rfl) (Or.inr ⟨_, rfl, rfl⟩) rfl ?_
            refine hpa_aload_n (by rfl) rfl ?_
            refine hpa_get (v := .ref (T + 6)) (by rfl) (hsT4 hT) (by rfl) (hvT hT (by omega)) ?_
            refine hpa_iload (by rfl) rfl ?_
            refine hpx_iald (by rfl) (hsT5 hT) (fun h0v77 h1v77 v77 ev77 => ?_)
            rw [show (x21_6).toNatClampNeg = i21 by have := hn_cn (j := x21_6) (by omega); omega, FR21x] at ev77
            have tsv77 : v77.toInt = 8 * v + ((5 : Nat) : Int) := by rw [← ev77]; exact sg1
            obtain ⟨dav77, dbv77⟩ := hg_dec tsv77 (by omega)
            refine hpa_iconst (by rfl) rfl ?_
            refine hpa_ishr (by rfl) ?_
            refine hpa_s1 (by rfl) (Or.inr ⟨_, rfl, rfl⟩) rfl ?_
            refine hpa_iload (by rfl) rfl ?_
            refine hpj_zeq (by rfl) rfl (fun q78 => False.elim (by omega)) (fun q78 => ?_)
            refine hpa_iload (by rfl) rfl ?_
            refine hpa_iconst (by rfl) rfl ?_
            refine hpj_cne (by rfl) rfl hk_1 (fun q79 => ?_) (fun q79 => False.elim (by omega))
            refine hpa_iload (by rfl) rfl ?_
            refine hpa_bipush (by rfl) rfl ?_
            refine hpj_cne (by rfl) rfl hk_7 (fun q80 => ?_) (fun q80 => False.elim (by omega))
            refine hpa_iload (by rfl) rfl ?_
            refine hpa_iconst (by rfl) rfl ?_
            refine hpj_clt (by rfl) rfl hk_2 (fun q81 => False.elim (by omega)) (fun q81 => ?_)
            refine hpa_iload (by rfl) rfl ?_
            refine hpa_iconst (by rfl) rfl ?_
            refine hpj_cne (by rfl) rfl hk_5 (fun q82 => False.elim (by omega)) (fun q82 => ?_)
            refine hpa_aload_n (by rfl) rfl ?_
            refine hpa_get (v := .ref (T + 9)) (by rfl) (hsT4 hT) (by rfl) (hvT hT (by omega)) ?_
            refine hpa_iload (by rfl) rfl ?_
            refine hpa_iconst (by rfl) rfl ?_
            refine hpj_isub (by rfl) rfl hk_1 (by omega) (by omega) (fun z83 ez83 => ?_)
            refine hpx_iald (by rfl) (hsT8 hT) (fun h0v84 h1v84 v84 ev84 => ?_)
            have lpv84 : v84 = b := by rw [← ev84, show (z83).toNatClampNeg = r.length + 1 by have := hn_cn (j := z83) (by omega); omega]; exact pl21.1
            have lqv84 := congrArg Int32.toInt lpv84
            refine hpj_zne (by rfl) rfl (fun q85 => False.elim (by omega)) (fun q85 => ?_)
            refine hpa_iconst (by rfl) rfl ?_
            exact hpa_ireturn (by rfl) rfl (hP _ _ ⟨_, rfl, o3.symm, FR21⟩)
          ·
            have hb0 : ¬ b.toInt = 0 := fun w => o1 ⟨rfl, Int32.toInt_inj.mp w⟩
            refine hpa_iloadS (by rfl) rfl ?_
            refine hpj_zlt (by rfl) rfl (fun q86 => False.elim (by omega)) (fun q86 => ?_)
            refine hpa_iload (by rfl) rfl ?_
            refine hpa_aload_n (by rfl) rfl ?_
            refine hpj_getK (by rfl) (hsT4 hT) (by rfl) rfl ?_
            refine hpj_cge (by rfl) rfl rfl (fun q87 => False.elim (by omega)) (fun q87 => ?_)
            refine hpa_aload_n (by rfl) rfl ?_
            refine hpa_get (v := .ref (T + 6)) (by rfl) (hsT4 hT) (by rfl) (hvT hT (by omega)) ?_
            refine hpa_iload (by rfl) rfl ?_
            refine hpx_iald (by rfl) (hsT5 hT) (fun h0v88 h1v88 v88 ev88 => ?_)
            rw [show (x21_6).toNatClampNeg = i21 by have := hn_cn (j := x21_6) (by omega); omega, FR21x] at ev88
            have tsv88 : v88.toInt = 8 * v + ((5 : Nat) : Int) := by rw [← ev88]; exact sg1
            obtain ⟨dav88, dbv88⟩ := hg_dec tsv88 (by omega)
            refine hpa_bipush (by rfl) rfl ?_
            refine hpa_iand (by rfl) ?_
            refine hpa_s1 (by rfl) (Or.inr ⟨_, rfl, rfl⟩) rfl ?_
            refine hpa_aload_n (by rfl) rfl ?_
            refine hpa_get (v := .ref (T + 6)) (by rfl) (hsT4 hT) (by rfl) (hvT hT (by omega)) ?_
            refine hpa_iload (by rfl) rfl ?_
            refine hpx_iald (by rfl) (hsT5 hT) (fun h0v89 h1v89 v89 ev89 => ?_)
            rw [show (x21_6).toNatClampNeg = i21 by have := hn_cn (j := x21_6) (by omega); omega, FR21x] at ev89
            have tsv89 : v89.toInt = 8 * v + ((5 : Nat) : Int) := by rw [← ev89]; exact sg1
            obtain ⟨dav89, dbv89⟩ := hg_dec tsv89 (by omega)
            refine hpa_iconst (by rfl) rfl ?_
            refine hpa_ishr (by rfl) ?_
            refine hpa_s1 (by rfl) (Or.inr ⟨_, rfl, rfl⟩) rfl ?_
            refine hpa_iload (by rfl) rfl ?_
            refine hpj_zeq (by rfl) rfl (fun q90 => False.elim (by omega)) (fun q90 => ?_)
            refine hpa_iload (by rfl) rfl ?_
            refine hpa_iconst (by rfl) rfl ?_
            refine hpj_cne (by rfl) rfl hk_1 (fun q91 => ?_) (fun q91 => False.elim (by omega))
            refine hpa_iload (by rfl) rfl ?_
            refine hpa_bipush (by rfl) rfl ?_
            refine hpj_cne (by rfl) rfl hk_7 (fun q92 => ?_) (fun q92 => False.elim (by omega))
            refine hpa_iload (by rfl) rfl ?_
            refine hpa_iconst (by rfl) rfl ?_
            refine hpj_clt (by rfl) rfl hk_2 (fun q93 => False.elim (by omega)) (fun q93 => ?_)
            refine hpa_iload (by rfl) rfl ?_
            refine hpa_iconst (by rfl) rfl ?_
            refine hpj_cne (by rfl) rfl hk_5 (fun q94 => False.elim (by omega)) (fun q94 => ?_)
            refine hpa_aload_n (by rfl) rfl ?_
            refine hpa_get (v := .ref (T + 9)) (by rfl) (hsT4 hT) (by rfl) (hvT hT (by omega)) ?_
            refine hpa_iload (by rfl) rfl ?_
            refine hpa_iconst (by rfl) rfl ?_
            refine hpj_isub (by rfl) rfl hk_1 (by omega) (by omega) (fun z95 ez95 => ?_)
            refine hpx_iald (by rfl) (hsT8 hT) (fun h0v96 h1v96 v96 ev96 => ?_)
            have lpv96 : v96 = b := by rw [← ev96, show (z95).toNatClampNeg = r.length + 1 by have := hn_cn (j := z95) (by omega); omega]; exact pl21.1
            have lqv96 := congrArg Int32.toInt lpv96
            refine hpj_zne (by rfl) rfl (fun q97 => ?_) (fun q97 => False.elim (by omega))
            refine hpj_iinc (by rfl) rfl rfl hk_4294967295 (by omega) (by omega) (fun _ => rfl) (fun z98 ez98 => ?_)
            refine hpa_aload_n (by rfl) rfl ?_
            refine hpa_get (v := .ref (T + 9)) (by rfl) (hsT4 hT) (by rfl) (hvT hT (by omega)) ?_
            refine hpa_iload (by rfl) rfl ?_
            refine hpa_iconst (by rfl) rfl ?_
            refine hpj_isub (by rfl) rfl hk_1 (by omega) (by omega) (fun z99 ez99 => ?_)
            refine hpx_iald (by rfl) (hsT8 hT) (fun h0v100 h1v100 v100 ev100 => ?_)
            have lpv100 : v100 = a := by rw [← ev100, show (z99).toNatClampNeg = r.length by have := hn_cn (j := z99) (by omega); omega]; exact pl21.2.1
            have lqv100 := congrArg Int32.toInt lpv100
            refine hpa_s1 (by rfl) (Or.inr ⟨_, rfl, rfl⟩) rfl ?_
            refine hpa_aload_n (by rfl) rfl ?_
            refine hpa_get (v := .ref (T + 9)) (by rfl) (hsT4 hT) (by rfl) (hvT hT (by omega)) ?_
            refine hpa_iload (by rfl) rfl ?_
            refine hpx_iald (by rfl) (hsT8 hT) (fun h0v101 h1v101 v101 ev101 => ?_)
            have lpv101 : v101 = b := by rw [← ev101, show (z98).toNatClampNeg = r.length + 1 by have := hn_cn (j := z98) (by omega); omega]; exact pl21.1
            have lqv101 := congrArg Int32.toInt lpv101
            refine hpa_s1 (by rfl) (Or.inr ⟨_, rfl, rfl⟩) rfl ?_
            refine hpa_iload (by rfl) rfl ?_
            refine hpa_tabIn (by rfl) (by omega) (by omega) (by rw [dav88]; rfl) (tgt := 275) (by rfl) ?_
            refine hpa_aload_n (by rfl) rfl ?_
            refine hpa_get (v := .ref (T + 9)) (by rfl) (hsT4 hT) (by rfl) (hvT hT (by omega)) ?_
            refine hpa_iload (by rfl) rfl ?_
            refine hpa_iconst (by rfl) rfl ?_
            refine hpj_isub (by rfl) rfl hk_1 (by omega) (by omega) (fun z102 ez102 => ?_)
            refine hpa_iload (by rfl) rfl ?_
            refine hpa_iload (by rfl) rfl ?_
            refine hpa_idiv (by rfl) (fun w => hb0 (by rw [← lpv101, w]; rfl)) ?_
            refine hpx_iast (by rfl) (hsT8 hT) (fun A103 h0A103 h1A103 eA103 fA103 gA103 => ?_)
            rw [show (z102).toNatClampNeg = (r).length by have := hn_cn (j := z102) (by omega); omega] at fA103
            have plA103 : hgw_pl (A103.2.1 (T + 8)) ((hgv_ap 5 a b :: r)) := ⟨by rw [fA103, hup1]; exact (by rw [lpv100, lpv101]; rfl), pl21.2.2.mv (fun j hj => by rw [fA103, hup2 (by omega)])⟩
            have FRA103 : A103.1 = A.1 ∧ A103.2.2 = A.2.2 ∧ (∀ i, ¬ i = 324 → ¬ i = T + 8 → A103.2.1 i = A.2.1 i) ∧ ∀ i, i < 9 → A103.2.1 324 i = hgx x a3 a4 i := ⟨eA103.trans FR21.1, gA103.trans FR21.2.1, fun i h1 h2 => by rw [← FR21.2.2.1 i h1 h2, fA103]; funext j; exact hup2 (by omega), fun i hi => by rw [fA103, hup2 (by omega)]; exact FR21.2.2.2 i hi⟩
            refine hpa_goto (by rfl) ?_
            refine hpj_iinc (by rfl) rfl rfl hk_1 (by omega) (by omega) (fun _ => rfl) (fun z104 ez104 => ?_)
            refine hpa_goto (by rfl) ?_
            exact ih21 z98 z104 (.int (v88 &&& (Int32.ofNat 7))) (.int (v89 >>> ((Int32.ofNat 3) &&& 31))) (.int v100) (.int v101) A103 l' (i21 + 1) ((hgv_ap 5 a b :: r)) (by show _ = ((r.length + 1 : Nat) : Int); omega) (by omega) sg2 (by omega) ok plA103 FRA103
      ·
        have hl2 : ([b, a] : List Int32).length = 2 := rfl
        have hlm : (m ++ L2).length = m.length + L2.length := List.length_append
        rcases ok with ⟨ol, ok⟩ | ⟨ol, ok⟩
        ·
          refine hpa_iloadS (by rfl) rfl ?_
          refine hpj_zlt (by rfl) rfl (fun q105 => False.elim (by omega)) (fun q105 => ?_)
          refine hpa_iload (by rfl) rfl ?_
          refine hpa_aload_n (by rfl) rfl ?_
          refine hpj_getK (by rfl) (hsT4 hT) (by rfl) rfl ?_
          refine hpj_cge (by rfl) rfl rfl (fun q106 => False.elim (by omega)) (fun q106 => ?_)
          refine hpa_aload_n (by rfl) rfl ?_
          refine hpa_get (v := .ref (T + 6)) (by rfl) (hsT4 hT) (by rfl) (hvT hT (by omega)) ?_
          refine hpa_iload (by rfl) rfl ?_
          refine hpx_iald (by rfl) (hsT5 hT) (fun h0v107 h1v107 v107 ev107 => ?_)
          rw [show (x21_6).toNatClampNeg = i21 by have := hn_cn (j := x21_6) (by omega); omega, FR21x] at ev107
          have tsv107 : v107.toInt = 8 * ((i21 + 1 + m.length : Nat) : Int) + ((6 : Nat) : Int) := by rw [← ev107]; exact sg1
          obtain ⟨dav107, dbv107⟩ := hg_dec tsv107 (by omega)
          refine hpa_bipush (by rfl) rfl ?_
          refine hpa_iand (by rfl) ?_
          refine hpa_s1 (by rfl) (Or.inr ⟨_, rfl, rfl⟩) rfl ?_
          refine hpa_aload_n (by rfl) rfl ?_
          refine hpa_get (v := .ref (T + 6)) (by rfl) (hsT4 hT) (by rfl) (hvT hT (by omega)) ?_
          refine hpa_iload (by rfl) rfl ?_
          refine hpx_iald (by rfl) (hsT5 hT) (fun h0v108 h1v108 v108 ev108 => ?_)
          rw [show (x21_6).toNatClampNeg = i21 by have := hn_cn (j := x21_6) (by omega); omega, FR21x] at ev108
          have tsv108 : v108.toInt = 8 * ((i21 + 1 + m.length : Nat) : Int) + ((6 : Nat) : Int) := by rw [← ev108]; exact sg1
          obtain ⟨dav108, dbv108⟩ := hg_dec tsv108 (by omega)
          refine hpa_iconst (by rfl) rfl ?_
          refine hpa_ishr (by rfl) ?_
          refine hpa_s1 (by rfl) (Or.inr ⟨_, rfl, rfl⟩) rfl ?_
          refine hpa_iload (by rfl) rfl ?_
          refine hpj_zeq (by rfl) rfl (fun q109 => False.elim (by omega)) (fun q109 => ?_)
          refine hpa_iload (by rfl) rfl ?_
          refine hpa_iconst (by rfl) rfl ?_
          refine hpj_cne (by rfl) rfl hk_1 (fun q110 => ?_) (fun q110 => False.elim (by omega))
          refine hpa_iload (by rfl) rfl ?_
          refine hpa_bipush (by rfl) rfl ?_
          refine hpj_cne (by rfl) rfl hk_7 (fun q111 => ?_) (fun q111 => False.elim (by omega))
          refine hpa_iload (by rfl) rfl ?_
          refine hpa_iconst (by rfl) rfl ?_
          refine hpj_clt (by rfl) rfl hk_2 (fun q112 => False.elim (by omega)) (fun q112 => ?_)
          refine hpa_iload (by rfl) rfl ?_
          refine hpa_iconst (by rfl) rfl ?_
          refine hpj_cne (by rfl) rfl hk_5 (fun q113 => ?_) (fun q113 => False.elim (by omega))
          refine hpj_iinc (by rfl) rfl rfl hk_4294967295 (by omega) (by omega) (fun _ => rfl) (fun z114 ez114 => ?_)
          refine hpa_aload_n (by rfl) rfl ?_
          refine hpa_get (v := .ref (T + 9)) (by rfl) (hsT4 hT) (by rfl) (hvT hT (by omega)) ?_
          refine hpa_iload (by rfl) rfl ?_
          refine hpa_iconst (by rfl) rfl ?_
          refine hpj_isub (by rfl) rfl hk_1 (by omega) (by omega) (fun z115 ez115 => ?_)
          refine hpx_iald (by rfl) (hsT8 hT) (fun h0v116 h1v116 v116 ev116 => ?_)
          have lpv116 : v116 = a := by rw [← ev116, show (z115).toNatClampNeg = 0 by have := hn_cn (j := z115) (by omega); omega]; exact pl21.2.1
          have lqv116 := congrArg Int32.toInt lpv116
          refine hpa_s1 (by rfl) (Or.inr ⟨_, rfl, rfl⟩) rfl ?_
          refine hpa_aload_n (by rfl) rfl ?_
          refine hpa_get (v := .ref (T + 9)) (by rfl) (hsT4 hT) (by rfl) (hvT hT (by omega)) ?_
          refine hpa_iload (by rfl) rfl ?_
          refine hpx_iald (by rfl) (hsT8 hT) (fun h0v117 h1v117 v117 ev117 => ?_)
          have lpv117 : v117 = b := by rw [← ev117, show (z114).toNatClampNeg = 1 by have := hn_cn (j := z114) (by omega); omega]; exact pl21.1
          have lqv117 := congrArg Int32.toInt lpv117
          refine hpa_s1 (by rfl) (Or.inr ⟨_, rfl, rfl⟩) rfl ?_
          refine hpa_iload (by rfl) rfl ?_
          refine hpa_tabOut (by rfl) (by omega) (tgt := 292) (by rfl) ?_
          refine hpj_iinc (by rfl) rfl rfl hk_4294967295 (by omega) (by omega) (fun _ => rfl) (fun z118 ez118 => ?_)
          refine hpa_iload (by rfl) rfl ?_
          refine hpa_iload (by rfl) rfl ?_
          refine hpj_clt (by rfl) rfl rfl (fun q119 => ?_) (fun q119 => False.elim (by omega))
          refine hpj_iinc (by rfl) rfl rfl hk_1 (by omega) (by omega) (fun _ => rfl) (fun z120 ez120 => ?_)
          refine hpa_goto (by rfl) ?_
          exact ih21 z118 z120 (.int (v107 &&& (Int32.ofNat 7))) (.int (v108 >>> ((Int32.ofNat 3) &&& 31))) (.int v116) (.int v117) A21 (m ++ L2) (i21 + 1) [] (by show _ = (0 : Int); omega) (by omega) sg2 (by omega) ok trivial FR21
        ·
          refine hpa_iloadS (by rfl) rfl ?_
          refine hpj_zlt (by rfl) rfl (fun q121 => False.elim (by omega)) (fun q121 => ?_)
          refine hpa_iload (by rfl) rfl ?_
          refine hpa_aload_n (by rfl) rfl ?_
          refine hpj_getK (by rfl) (hsT4 hT) (by rfl) rfl ?_
          refine hpj_cge (by rfl) rfl rfl (fun q122 => False.elim (by omega)) (fun q122 => ?_)
          refine hpa_aload_n (by rfl) rfl ?_
          refine hpa_get (v := .ref (T + 6)) (by rfl) (hsT4 hT) (by rfl) (hvT hT (by omega)) ?_
          refine hpa_iload (by rfl) rfl ?_
          refine hpx_iald (by rfl) (hsT5 hT) (fun h0v123 h1v123 v123 ev123 => ?_)
          rw [show (x21_6).toNatClampNeg = i21 by have := hn_cn (j := x21_6) (by omega); omega, FR21x] at ev123
          have tsv123 : v123.toInt = 8 * ((i21 + 1 + m.length : Nat) : Int) + ((6 : Nat) : Int) := by rw [← ev123]; exact sg1
          obtain ⟨dav123, dbv123⟩ := hg_dec tsv123 (by omega)
          refine hpa_bipush (by rfl) rfl ?_
          refine hpa_iand (by rfl) ?_
          refine hpa_s1 (by rfl) (Or.inr ⟨_, rfl, rfl⟩) rfl ?_
          refine hpa_aload_n (by rfl) rfl ?_
          refine hpa_get (v := .ref (T + 6)) (by rfl) (hsT4 hT) (by rfl) (hvT hT (by omega)) ?_
          refine hpa_iload (by rfl) rfl ?_
          refine hpx_iald (by rfl) (hsT5 hT) (fun h0v124 h1v124 v124 ev124 => ?_)
          rw [show (x21_6).toNatClampNeg = i21 by have := hn_cn (j := x21_6) (by omega); omega, FR21x] at ev124
          have tsv124 : v124.toInt = 8 * ((i21 + 1 + m.length : Nat) : Int) + ((6 : Nat) : Int) := by rw [← ev124]; exact sg1
          obtain ⟨dav124, dbv124⟩ := hg_dec tsv124 (by omega)
          refine hpa_iconst (by rfl) rfl ?_
          refine hpa_ishr (by rfl) ?_
          refine hpa_s1 (by rfl) (Or.inr ⟨_, rfl, rfl⟩) rfl ?_
          refine hpa_iload (by rfl) rfl ?_
          refine hpj_zeq (by rfl) rfl (fun q125 => False.elim (by omega)) (fun q125 => ?_)
          refine hpa_iload (by rfl) rfl ?_
          refine hpa_iconst (by rfl) rfl ?_
          refine hpj_cne (by rfl) rfl hk_1 (fun q126 => ?_) (fun q126 => False.elim (by omega))
          refine hpa_iload (by rfl) rfl ?_
          refine hpa_bipush (by rfl) rfl ?_
          refine hpj_cne (by rfl) rfl hk_7 (fun q127 => ?_) (fun q127 => False.elim (by omega))
          refine hpa_iload (by rfl) rfl ?_
          refine hpa_iconst (by rfl) rfl ?_
          refine hpj_clt (by rfl) rfl hk_2 (fun q128 => False.elim (by omega)) (fun q128 => ?_)
          refine hpa_iload (by rfl) rfl ?_
          refine hpa_iconst (by rfl) rfl ?_
          refine hpj_cne (by rfl) rfl hk_5 (fun q129 => ?_) (fun q129 => False.elim (by omega))
          refine hpj_iinc (by rfl) rfl rfl hk_4294967295 (by omega) (by omega) (fun _ => rfl) (fun z130 ez130 => ?_)
          refine hpa_aload_n (by rfl) rfl ?_
          refine hpa_get (v := .ref (T + 9)) (by rfl) (hsT4 hT) (by rfl) (hvT hT (by omega)) ?_
          refine hpa_iload (by rfl) rfl ?_
          refine hpa_iconst (by rfl) rfl ?_
          refine hpj_isub (by rfl) rfl hk_1 (by omega) (by omega) (fun z131 ez131 => ?_)
          refine hpx_iald (by rfl) (hsT8 hT) (fun h0v132 h1v132 v132 ev132 => ?_)
          have lpv132 : v132 = a := by rw [← ev132, show (z131).toNatClampNeg = 0 by have := hn_cn (j := z131) (by omega); omega]; exact pl21.2.1
          have lqv132 := congrArg Int32.toInt lpv132
          refine hpa_s1 (by rfl) (Or.inr ⟨_, rfl, rfl⟩) rfl ?_
          refine hpa_aload_n (by rfl) rfl ?_
          refine hpa_get (v := .ref (T + 9)) (by rfl) (hsT4 hT) (by rfl) (hvT hT (by omega)) ?_
          refine hpa_iload (by rfl) rfl ?_
          refine hpx_iald (by rfl) (hsT8 hT) (fun h0v133 h1v133 v133 ev133 => ?_)
          have lpv133 : v133 = b := by rw [← ev133, show (z130).toNatClampNeg = 1 by have := hn_cn (j := z130) (by omega); omega]; exact pl21.1
          have lqv133 := congrArg Int32.toInt lpv133
          refine hpa_s1 (by rfl) (Or.inr ⟨_, rfl, rfl⟩) rfl ?_
          refine hpa_iload (by rfl) rfl ?_
          refine hpa_tabOut (by rfl) (by omega) (tgt := 292) (by rfl) ?_
          refine hpj_iinc (by rfl) rfl rfl hk_4294967295 (by omega) (by omega) (fun _ => rfl) (fun z134 ez134 => ?_)
          refine hpa_iload (by rfl) rfl ?_
          refine hpa_iload (by rfl) rfl ?_
          refine hpj_clt (by rfl) rfl rfl (fun q135 => False.elim (by omega)) (fun q135 => ?_)
          refine hpa_iload (by rfl) rfl ?_
          refine hpa_iload (by rfl) rfl ?_
          refine hpj_cle (by rfl) rfl rfl (fun q136 => False.elim (by omega)) (fun q136 => ?_)
          refine hpa_iload (by rfl) rfl ?_
          refine hpa_iconst (by rfl) rfl ?_
          refine hpj_isub (by rfl) rfl hk_1 (by omega) (by omega) (fun z137 ez137 => ?_)
          refine hpa_s1 (by rfl) (Or.inr ⟨_, rfl, rfl⟩) rfl ?_
          refine hpj_iinc (by rfl) rfl rfl hk_1 (by omega) (by omega) (fun _ => rfl) (fun z138 ez138 => ?_)
          refine hpa_goto (by rfl) ?_
          exact ih21 z134 z138 (.int (v123 &&& (Int32.ofNat 7))) (.int (v124 >>> ((Int32.ofNat 3) &&& 31))) (.int v132) (.int v133) A21 L2 (i21 + 1 + m.length) [] (by show _ = (0 : Int); omega) (by omega) ((hg_seg_app m L2 _).mp sg2).2 (by omega) ok trivial FR21
      ·
        have hl2 : (b :: r).length = r.length + 1 := rfl
        refine hpa_iloadS (by rfl) rfl ?_
        refine hpj_zlt (by rfl) rfl (fun q139 => False.elim (by omega)) (fun q139 => ?_)
        refine hpa_iload (by rfl) rfl ?_
        refine hpa_aload_n (by rfl) rfl ?_
        refine hpj_getK (by rfl) (hsT4 hT) (by rfl) rfl ?_
        refine hpj_cge (by rfl) rfl rfl (fun q140 => False.elim (by omega)) (fun q140 => ?_)
        refine hpa_aload_n (by rfl) rfl ?_
        refine hpa_get (v := .ref (T + 6)) (by rfl) (hsT4 hT) (by rfl) (hvT hT (by omega)) ?_
        refine hpa_iload (by rfl) rfl ?_
        refine hpx_iald (by rfl) (hsT5 hT) (fun h0v141 h1v141 v141 ev141 => ?_)
        rw [show (x21_6).toNatClampNeg = i21 by have := hn_cn (j := x21_6) (by omega); omega, FR21x] at ev141
        have tsv141 : v141.toInt = 8 * v + ((7 : Nat) : Int) := by rw [← ev141]; exact sg1
        obtain ⟨dav141, dbv141⟩ := hg_dec tsv141 (by omega)
        refine hpa_bipush (by rfl) rfl ?_
        refine hpa_iand (by rfl) ?_
        refine hpa_s1 (by rfl) (Or.inr ⟨_, rfl, rfl⟩) rfl ?_
        refine hpa_aload_n (by rfl) rfl ?_
        refine hpa_get (v := .ref (T + 6)) (by rfl) (hsT4 hT) (by rfl) (hvT hT (by omega)) ?_
        refine hpa_iload (by rfl) rfl ?_
        refine hpx_iald (by rfl) (hsT5 hT) (fun h0v142 h1v142 v142 ev142 => ?_)
        rw [show (x21_6).toNatClampNeg = i21 by have := hn_cn (j := x21_6) (by omega); omega, FR21x] at ev142
        have tsv142 : v142.toInt = 8 * v + ((7 : Nat) : Int) := by rw [← ev142]; exact sg1
        obtain ⟨dav142, dbv142⟩ := hg_dec tsv142 (by omega)
        refine hpa_iconst (by rfl) rfl ?_
        refine hpa_ishr (by rfl) ?_
        refine hpa_s1 (by rfl) (Or.inr ⟨_, rfl, rfl⟩) rfl ?_
        refine hpa_iload (by rfl) rfl ?_
        refine hpj_zeq (by rfl) rfl (fun q143 => False.elim (by omega)) (fun q143 => ?_)
        refine hpa_iload (by rfl) rfl ?_
        refine hpa_iconst (by rfl) rfl ?_
        refine hpj_cne (by rfl) rfl hk_1 (fun q144 => ?_) (fun q144 => False.elim (by omega))
        refine hpa_iload (by rfl) rfl ?_
        refine hpa_bipush (by rfl) rfl ?_
        refine hpj_cne (by rfl) rfl hk_7 (fun q145 => False.elim (by omega)) (fun q145 => ?_)
        refine hpa_iload (by rfl) rfl ?_
        refine hpj_zle (by rfl) rfl (fun q146 => False.elim (by omega)) (fun q146 => ?_)
        refine hpa_aload_n (by rfl) rfl ?_
        refine hpa_get (v := .ref (T + 9)) (by rfl) (hsT4 hT) (by rfl) (hvT hT (by omega)) ?_
        refine hpa_iload (by rfl) rfl ?_
        refine hpa_iconst (by rfl) rfl ?_
        refine hpj_isub (by rfl) rfl hk_1 (by omega) (by omega) (fun z147 ez147 => ?_)
        refine hpx_iald (by rfl) (hsT8 hT) (fun h0v148 h1v148 v148 ev148 => ?_)
        have lpv148 : v148 = b := by rw [← ev148, show (z147).toNatClampNeg = r.length by have := hn_cn (j := z147) (by omega); omega]; exact pl21.1
        have lqv148 := congrArg Int32.toInt lpv148
        refine hpa_goto (by rfl) ?_
        exact hpa_ireturn (by rfl) rfl (hP _ _ ⟨_, rfl, lpv148.trans ok.symm, FR21⟩)
  refine hpa_aload_n (by rfl) rfl ?_
  refine hpa_iconst (by rfl) rfl ?_
  refine hpa_iload_n (by rfl) rfl ?_
  refine hpx_iast (by rfl) (by rfl) (fun A149 h0A149 h1A149 eA149 fA149 gA149 => ?_)
  rw [(show (Int32.ofNat 3).toNatClampNeg = 3 from by decide)] at fA149
  refine hpa_aload_n (by rfl) rfl ?_
  refine hpa_bipush (by rfl) rfl ?_
  refine hpa_iload (by rfl) rfl ?_
  refine hpx_iast (by rfl) (by rfl) (fun A150 h0A150 h1A150 eA150 fA150 gA150 => ?_)
  rw [(show (Int32.ofNat 6).toNatClampNeg = 6 from by decide)] at fA150
  have FR0 : A150.1 = A.1 ∧ A150.2.2 = A.2.2 ∧ (∀ i, ¬ i = 324 → ¬ i = T + 8 → A150.2.1 i = A.2.1 i) ∧ ∀ i, i < 9 → A150.2.1 324 i = hgx x a3 a4 i := ⟨eA150.trans eA149, gA150.trans gA149, fun i h1 _ => by rw [fA150, fA149]; funext j; rw [hup2 (by omega), hup2 (by omega)], fun i hi => by unfold hgx; by_cases q6 : i = 6; (rw [fA150, q6, hup1, if_neg (by omega), if_pos rfl]); rw [fA150, hup2 (by omega), fA149]; by_cases q3 : i = 3; (rw [q3, hup1, if_pos rfl]); rw [hup2 (by omega), if_neg q3, if_neg q6]; exact hx i hi⟩
  refine hpa_iconst (by rfl) rfl ?_
  refine hpa_s1 (by rfl) (Or.inr ⟨_, rfl, rfl⟩) rfl ?_
  refine hpa_aload_n (by rfl) rfl ?_
  refine hpa_get (v := .ref (T + 7)) (by rfl) (hsT4 hT) (by rfl) (hvT hT (by omega)) ?_
  refine hpa_iload_n (by rfl) rfl ?_
  refine hpx_iald (by rfl) (hsT6 hT) (fun h0v151 h1v151 v151 ev151 => ?_)
  rw [hiq, FR0.2.2.1 (T + 6) (by omega) (by omega)] at ev151
  have tvv151 : v151.toInt = (f0 : Int) := by rw [← ev151]; exact b1
  refine hpa_s1 (by rfl) (Or.inr ⟨_, rfl, rfl⟩) rfl ?_
  exact L21 _ (Int32.ofNat 0) v151 (.retAddr 0) (.retAddr 0) (.retAddr 0) (.retAddr 0) A150 (hg_law f0 (D.2.2.2 q)) f0 [] hk_0 tvv151 b3 (by omega) (hgw_ok.law hw.1 hw.2) trivial FR0
theorem hP14 {g d : Nat} {A : hs_A} {V : Nat → Int} {T : Nat} {ns : List Nat} {D : hg_D} {zz q : Nat} {x : Nat → Int32} (hT : hTT T) (a1 a3 a4 : Int32) (hM : hcM V T A ns D [] zz) (hq : q < 4) (h1 : a1.toInt = (q : Int)) (hx : ∀ i, i < 9 → A.2.1 324 i = x i) (hw : hgw_wl (D.2.2.2 q)) : hpC g d 14 hm_m14 [.ref (T + 5), .int a1, .ref 325, .int a3, .int a4] A (fun r A' => ∃ z : Int32, r = some (.int z) ∧ z = hgw_law (hgx x a3 a4) (D.2.2.2 q).1 (D.2.2.2 q).2 ∧ A'.1 = A.1 ∧ A'.2.2 = A.2.2 ∧ (∀ i, ¬ i = 324 → ¬ i = T + 8 → A'.2.1 i = A.2.1 i) ∧ ∀ i, i < 9 → A'.2.1 324 i = hgx x a3 a4 i) := hpC.all (fun f d => hW14 hT a1 a3 a4 hM hq h1 hx hw (fun r A' h => h))
