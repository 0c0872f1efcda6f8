theorem hW59 {g d f : Nat} {A : hs_A} {B : Nat → Int} {n i : Nat} (a1 a2 : Int32) (hA : hcTp B n A) (h1 : a1.toInt = (i : Int)) (h2 : a2.toInt = (n : Int)) (hi : i ≤ n) {P : Option Value → hs_A → Prop} (hP : ∀ (r : Option Value) (A' : hs_A), (A = A' ∧ ∃ z : Int32, r = some (.int z) ∧ z.toInt = (ht_run B n ht_bl i : Int)) → P r A') : hpa (f, g) d (some (.int)) hm_t59 0 [.ref 2, .int a1, .int a2, .retAddr 0, .retAddr 0] [] A P := by
  have k1 := hk_1
  have k10 := hk_10
  have k13 := hk_13
  have k32 := hk_32
  have k9 := hk_9
  have L2 : ∀ (f : Nat) (x2_3 : Int32) (x2_4 : Value) (lo : (i : Int) ≤ x2_3.toInt) (hh : x2_3.toInt ≤ (n : Int)) (run : ht_run B n ht_bl (x2_3.toInt).toNat = ht_run B n ht_bl i), hpa (f, g) d (some (.int)) hm_t59 2 [.ref 2, .int a1, .int a2, .int x2_3, x2_4] [] A P := by
    intro f
    induction f with
    | zero => intros; exact hpa.zero
    | succ f ih2 =>
      intro x2_3 x2_4 lo hh run
      refine hpa_iload_nS (by rfl) rfl ?_
      refine hpa_iload_n (by rfl) rfl ?_
      refine hpj_cge (by rfl) rfl rfl (fun q1 => ?_) (fun q1 => ?_)
      ·
        refine hpa_iload_n (by rfl) rfl ?_
        exact hpa_ireturn (by rfl) rfl (hP _ _ ⟨rfl, _, rfl, by have r := run; rw [ht_run_stop B n (fun q => absurd q.1 (by omega))] at r; omega⟩)
      ·
        refine hpa_aload_n (by rfl) rfl ?_
        refine hpa_iload_n (by rfl) rfl ?_
        refine hpx_bald (by rfl) (by rfl) (fun h0v2 h1v2 v2 ev2 => ?_)
        have tv2 : v2.toInt = B (x2_3.toInt).toNat := by rw [← ev2]; exact hA (x2_3.toInt).toNat (by omega)
        refine hpa_s1 (by rfl) (Or.inr ⟨_, rfl, rfl⟩) rfl ?_
        refine hpa_iload (by rfl) rfl ?_
        refine hpa_bipush (by rfl) rfl ?_
        refine hpj_ceq (by rfl) rfl hk_9 (fun q3 => ?_) (fun q3 => ?_)
        ·
          refine hpj_iinc (by rfl) rfl rfl hk_1 (by omega) (by omega) (fun _ => rfl) (fun z4 ez4 => ?_)
          refine hpa_goto (by rfl) ?_
          exact ih2 z4 (.int v2) (by omega) (by omega) (by rw [show z4.toInt.toNat = x2_3.toInt.toNat + 1 by omega, ← ht_run_go B n (by omega) (ht_bl_iff.mpr (by omega))]; exact run)
        ·
          refine hpa_iload (by rfl) rfl ?_
          refine hpa_bipush (by rfl) rfl ?_
          refine hpj_ceq (by rfl) rfl hk_10 (fun q5 => ?_) (fun q5 => ?_)
          ·
            refine hpj_iinc (by rfl) rfl rfl hk_1 (by omega) (by omega) (fun _ => rfl) (fun z6 ez6 => ?_)
            refine hpa_goto (by rfl) ?_
            exact ih2 z6 (.int v2) (by omega) (by omega) (by rw [show z6.toInt.toNat = x2_3.toInt.toNat + 1 by omega, ← ht_run_go B n (by omega) (ht_bl_iff.mpr (by omega))]; exact run)
          ·
            refine hpa_iload (by rfl) rfl ?_
            refine hpa_bipush (by rfl) rfl ?_
            refine hpj_ceq (by rfl) rfl hk_13 (fun q7 => ?_) (fun q7 => ?_)
            ·
              refine hpj_iinc (by rfl) rfl rfl hk_1 (by omega) (by omega) (fun _ => rfl) (fun z8 ez8 => ?_)
              refine hpa_goto (by rfl) ?_
              exact ih2 z8 (.int v2) (by omega) (by omega) (by rw [show z8.toInt.toNat = x2_3.toInt.toNat + 1 by omega, ← ht_run_go B n (by omega) (ht_bl_iff.mpr (by omega))]; exact run)
            ·
              refine hpa_iload (by rfl) rfl ?_
              refine hpa_bipush (by rfl) rfl ?_
              refine hpj_ceq (by rfl) rfl hk_32 (fun q9 => ?_) (fun q9 => ?_)
              ·
                refine hpj_iinc (by rfl) rfl rfl hk_1 (by omega) (by omega) (fun _ => rfl) (fun z10 ez10 => ?_)
                refine hpa_goto (by rfl) ?_
                exact ih2 z10 (.int v2) (by omega) (by omega) (by rw [show z10.toInt.toNat = x2_3.toInt.toNat + 1 by omega, ← ht_run_go B n (by omega) (ht_bl_iff.mpr (by omega))]; exact run)
              ·
                refine hpa_iload_n (by rfl) rfl ?_
                exact hpa_ireturn (by rfl) rfl (hP _ _ ⟨rfl, _, rfl, by have r := run; rw [ht_run_stop B n (fun q => absurd (ht_bl_iff.mp q.2) (by omega))] at r; omega⟩)
  refine hpa_iload_n (by rfl) rfl ?_
  refine hpa_s1 (by rfl) (Or.inl ⟨_, rfl, rfl⟩) rfl ?_
  exact L2 _ a1 (.retAddr 0) (by omega) (by omega) (by rw [show a1.toInt.toNat = i by omega])
theorem hP59 {g d : Nat} {A : hs_A} {B : Nat → Int} {n i : Nat} (a1 a2 : Int32) (hA : hcTp B n A) (h1 : a1.toInt = (i : Int)) (h2 : a2.toInt = (n : Int)) (hi : i ≤ n) : hpC g d 59 hm_m59 [.ref 2, .int a1, .int a2] A (fun r A' => A = A' ∧ ∃ z : Int32, r = some (.int z) ∧ z.toInt = (ht_run B n ht_bl i : Int)) := hpC.all (fun f d => hW59 a1 a2 hA h1 h2 hi (fun r A' h => h))
theorem hW62 {g d f : Nat} {A : hs_A} {B : Nat → Int} {n p e : Nat} (a1 a2 : Int32) (hA : hcTp B n A) (h1 : a1.toInt = (p : Int)) (h2 : a2.toInt = (e : Int)) (hpe : p ≤ e) (hen : e ≤ n) (hn : n ≤ 2000) {P : Option Value → hs_A → Prop} (hP : ∀ (r : Option Value) (A' : hs_A), (A = A' ∧ ∃ z : Int32, r = some (.int z) ∧ ((z.toInt = -1 ∧ ht_ix (ht_sub B p e) ht_ws 0 = none) ∨ (∃ k : Nat, z.toInt = (k : Int) ∧ ht_ix (ht_sub B p e) ht_ws 0 = some k))) → P r A') : hpa (f, g) d (some (.int)) hm_t62 0 [.ref 2, .int a1, .int a2, .retAddr 0, .retAddr 0, .retAddr 0, .retAddr 0, .retAddr 0] [] A P := by
  have k0 := hk_0
  have k1 := hk_1
  have k32 := hk_32
  have k4294967295 := hk_4294967295
  have L11 : ∀ (f : Nat) (x11_3 : Int32) (x11_4 : Int32) (x11_5 : Int32) (x11_6 : Int32) (x11_7 : Value) (lo : 0 ≤ x11_6.toInt) (hh : x11_6.toInt ≤ 102) (kk : x11_3.toInt = (hw_k (x11_6.toInt).toNat : Int)) (oo : x11_4.toInt = (p : Int) + (hw_o (x11_6.toInt).toNat : Int)) (aa : (x11_5.toInt = 1 ∧ hw_AL B p (e - p) (hw_k (x11_6.toInt).toNat) (hw_o (x11_6.toInt).toNat)) ∨ (x11_5.toInt = 0 ∧ ¬ hw_AL B p (e - p) (hw_k (x11_6.toInt).toNat) (hw_o (x11_6.toInt).toNat))) (no : ∀ k, k < hw_k (x11_6.toInt).toNat → ht_ws[k]? ≠ some (ht_sub B p e)), hpa (f, g) d (some (.int)) hm_t62 11 [.ref 2, .int a1, .int a2, .int x11_3, .int x11_4, .int x11_5, .int x11_6, x11_7] [] A P := by
    intro f
    induction f with
    | zero => intros; exact hpa.zero
    | succ f ih11 =>
      intro x11_3 x11_4 x11_5 x11_6 x11_7 lo hh kk oo aa no
      rcases aa with ⟨z5, al⟩ | ⟨z5, al⟩
      ·
        refine hpa_iloadS (by rfl) rfl ?_
        refine hpa_ldcS (k := 1) (by rfl) rfl ?_
        refine hpj_strLen (by rfl) (by rfl) (fun z1 ez1 => ?_)
        refine hpj_cge (by rfl) rfl rfl (fun q2 => ?_) (fun q2 => ?_)
        ·
          refine hpa_iconst (by rfl) rfl ?_
          exact hpa_ireturn (by rfl) rfl (hP _ _ ⟨rfl, _, rfl, Or.inl ⟨hk_4294967295, ht_ix_none (fun k hk => no k (by rw [show x11_6.toInt.toNat = 102 by omega, show hw_k 102 = 20 by decide +kernel]; exact hk))⟩⟩)
        ·
          refine hpa_ldcS (k := 1) (by rfl) rfl ?_
          refine hpa_iload (by rfl) rfl ?_
          obtain ⟨hb, hb8, hk20, ho99, hst⟩ := hw_step (i := x11_6.toInt.toNat) (by omega)
          refine hpa_strChar (k := 1) (by rfl) (by rfl) (hn_ix0 rfl (by omega)) hb ?_
          have tb := hn_c (n := ((hc_txt 1).getD x11_6.toInt.toNat 0)) rfl (by omega)
          rcases hst with ⟨hb32, hs1, hs2, hs3⟩ | ⟨hb32, hs1, hs2, hs3⟩
          ·
            refine hpa_s1 (by rfl) (Or.inr ⟨_, rfl, rfl⟩) rfl ?_
            refine hpa_iload (by rfl) rfl ?_
            refine hpa_bipush (by rfl) rfl ?_
            refine hpj_ceq (by rfl) rfl hk_32 (fun q3 => False.elim (by omega)) (fun q3 => ?_)
            refine hpa_iload (by rfl) rfl ?_
            refine hpj_zeq (by rfl) rfl (fun q4 => False.elim (by omega)) (fun q4 => ?_)
            refine hpa_iload (by rfl) rfl ?_
            refine hpa_iload_n (by rfl) rfl ?_
            refine hpj_cge (by rfl) rfl rfl (fun q5 => ?_) (fun q5 => ?_)
            ·
              refine hpa_iconst (by rfl) rfl ?_
              refine hpa_s1 (by rfl) (Or.inr ⟨_, rfl, rfl⟩) rfl ?_
              refine hpj_iinc (by rfl) rfl rfl hk_1 (by omega) (by omega) (fun _ => rfl) (fun z6 ez6 => ?_)
              refine hpa_goto (by rfl) ?_
              refine hpj_iinc (by rfl) rfl rfl hk_1 (by omega) (by omega) (fun _ => rfl) (fun z7 ez7 => ?_)
              refine hpa_goto (by rfl) ?_
              exact ih11 x11_3 z6 (Int32.ofNat 0) z7 (.int (Int32.ofNat ((hc_txt 1).getD x11_6.toInt.toNat 0))) (by omega) (by omega) (by rw [show z7.toInt.toNat = x11_6.toInt.toNat + 1 by omega, hs1]; omega) (by rw [show z7.toInt.toNat = x11_6.toInt.toNat + 1 by omega, hs2]; omega) (Or.inr ⟨hk_0, by rw [show z7.toInt.toNat = x11_6.toInt.toNat + 1 by omega, hs1, hs2]; exact hw_alm (by omega)⟩) (fun k hk => no k (by rw [show z7.toInt.toNat = x11_6.toInt.toNat + 1 by omega, hs1] at hk; exact hk))
            ·
              refine hpa_aload_n (by rfl) rfl ?_
              refine hpa_iload (by rfl) rfl ?_
              refine hpx_bald (by rfl) (by rfl) (fun h0v8 h1v8 v8 ev8 => ?_)
              have tv8 : v8.toInt = B (x11_4.toInt).toNat := by rw [← ev8]; exact hA (x11_4.toInt).toNat (by omega)
              rw [show (x11_4.toInt).toNat = p + hw_o x11_6.toInt.toNat by omega] at tv8
              refine hpa_iload (by rfl) rfl ?_
              refine hpj_cne (by rfl) rfl rfl (fun q9 => ?_) (fun q9 => ?_)
              ·
                refine hpa_iconst (by rfl) rfl ?_
                refine hpa_s1 (by rfl) (Or.inr ⟨_, rfl, rfl⟩) rfl ?_
                refine hpj_iinc (by rfl) rfl rfl hk_1 (by omega) (by omega) (fun _ => rfl) (fun z10 ez10 => ?_)
                refine hpa_goto (by rfl) ?_
                refine hpj_iinc (by rfl) rfl rfl hk_1 (by omega) (by omega) (fun _ => rfl) (fun z11 ez11 => ?_)
                refine hpa_goto (by rfl) ?_
                exact ih11 x11_3 z10 (Int32.ofNat 0) z11 (.int (Int32.ofNat ((hc_txt 1).getD x11_6.toInt.toNat 0))) (by omega) (by omega) (by rw [show z11.toInt.toNat = x11_6.toInt.toNat + 1 by omega, hs1]; omega) (by rw [show z11.toInt.toNat = x11_6.toInt.toNat + 1 by omega, hs2]; omega) (Or.inr ⟨hk_0, by rw [show z11.toInt.toNat = x11_6.toInt.toNat + 1 by omega, hs1, hs2]; exact hw_alc (by omega)⟩) (fun k hk => no k (by rw [show z11.toInt.toNat = x11_6.toInt.toNat + 1 by omega, hs1] at hk; exact hk))
              ·
                refine hpa_iconst (by rfl) rfl ?_
                refine hpa_goto (by rfl) ?_
                refine hpa_s1 (by rfl) (Or.inr ⟨_, rfl, rfl⟩) rfl ?_
                refine hpj_iinc (by rfl) rfl rfl hk_1 (by omega) (by omega) (fun _ => rfl) (fun z12 ez12 => ?_)
                refine hpa_goto (by rfl) ?_
                refine hpj_iinc (by rfl) rfl rfl hk_1 (by omega) (by omega) (fun _ => rfl) (fun z13 ez13 => ?_)
                refine hpa_goto (by rfl) ?_
                exact ih11 x11_3 z12 (Int32.ofNat 1) z13 (.int (Int32.ofNat ((hc_txt 1).getD x11_6.toInt.toNat 0))) (by omega) (by omega) (by rw [show z13.toInt.toNat = x11_6.toInt.toNat + 1 by omega, hs1]; omega) (by rw [show z13.toInt.toNat = x11_6.toInt.toNat + 1 by omega, hs2]; omega) (Or.inl ⟨hk_1, by rw [show z13.toInt.toNat = x11_6.toInt.toNat + 1 by omega, hs1, hs2]; exact hw_al1 al (by omega) (by omega)⟩) (fun k hk => no k (by rw [show z13.toInt.toNat = x11_6.toInt.toNat + 1 by omega, hs1] at hk; exact hk))
          ·
            refine hpa_s1 (by rfl) (Or.inr ⟨_, rfl, rfl⟩) rfl ?_
            refine hpa_iload (by rfl) rfl ?_
            refine hpa_bipush (by rfl) rfl ?_
            refine hpj_ceq (by rfl) rfl hk_32 (fun q14 => ?_) (fun q14 => False.elim (by omega))
            refine hpa_iload (by rfl) rfl ?_
            refine hpj_zeq (by rfl) rfl (fun q15 => False.elim (by omega)) (fun q15 => ?_)
            refine hpa_iload (by rfl) rfl ?_
            refine hpa_iload_n (by rfl) rfl ?_
            refine hpj_cne (by rfl) rfl rfl (fun q16 => ?_) (fun q16 => ?_)
            ·
              refine hpj_iinc (by rfl) rfl rfl hk_1 (by omega) (by omega) (fun _ => rfl) (fun z17 ez17 => ?_)
              refine hpa_iload_n (by rfl) rfl ?_
              refine hpa_s1 (by rfl) (Or.inr ⟨_, rfl, rfl⟩) rfl ?_
              refine hpa_iconst (by rfl) rfl ?_
              refine hpa_s1 (by rfl) (Or.inr ⟨_, rfl, rfl⟩) rfl ?_
              refine hpj_iinc (by rfl) rfl rfl hk_1 (by omega) (by omega) (fun _ => rfl) (fun z18 ez18 => ?_)
              refine hpa_goto (by rfl) ?_
              exact ih11 z17 a1 (Int32.ofNat 1) z18 (.int (Int32.ofNat ((hc_txt 1).getD x11_6.toInt.toNat 0))) (by omega) (by omega) (by rw [show z18.toInt.toNat = x11_6.toInt.toNat + 1 by omega, hs1]; omega) (by rw [show z18.toInt.toNat = x11_6.toInt.toNat + 1 by omega, hs2]; omega) (Or.inl ⟨hk_1, by rw [show z18.toInt.toNat = x11_6.toInt.toNat + 1 by omega, hs1, hs2]; exact hw_all⟩) (fun k hk => by rw [show z18.toInt.toNat = x11_6.toInt.toNat + 1 by omega, hs1] at hk; by_cases qk : k = hw_k x11_6.toInt.toNat; (subst qk; exact fun w => absurd ((hw_eq hk20 hs3 hpe).mp w).1 (by omega)); exact no k (by omega))
            ·
              refine hpa_iload_n (by rfl) rfl ?_
              exact hpa_ireturn (by rfl) rfl (hP _ _ ⟨rfl, _, rfl, Or.inr ⟨_, kk, by rw [ht_ix_some no ((hw_eq hk20 hs3 hpe).mpr ⟨by omega, al⟩), Nat.zero_add]⟩⟩)
      ·
        refine hpa_iloadS (by rfl) rfl ?_
        refine hpa_ldcS (k := 1) (by rfl) rfl ?_
        refine hpj_strLen (by rfl) (by rfl) (fun z19 ez19 => ?_)
        refine hpj_cge (by rfl) rfl rfl (fun q20 => ?_) (fun q20 => ?_)
        ·
          refine hpa_iconst (by rfl) rfl ?_
          exact hpa_ireturn (by rfl) rfl (hP _ _ ⟨rfl, _, rfl, Or.inl ⟨hk_4294967295, ht_ix_none (fun k hk => no k (by rw [show x11_6.toInt.toNat = 102 by omega, show hw_k 102 = 20 by decide +kernel]; exact hk))⟩⟩)
        ·
          refine hpa_ldcS (k := 1) (by rfl) rfl ?_
          refine hpa_iload (by rfl) rfl ?_
          obtain ⟨hb, hb8, hk20, ho99, hst⟩ := hw_step (i := x11_6.toInt.toNat) (by omega)
          refine hpa_strChar (k := 1) (by rfl) (by rfl) (hn_ix0 rfl (by omega)) hb ?_
          have tb := hn_c (n := ((hc_txt 1).getD x11_6.toInt.toNat 0)) rfl (by omega)
          rcases hst with ⟨hb32, hs1, hs2, hs3⟩ | ⟨hb32, hs1, hs2, hs3⟩
          ·
            refine hpa_s1 (by rfl) (Or.inr ⟨_, rfl, rfl⟩) rfl ?_
            refine hpa_iload (by rfl) rfl ?_
            refine hpa_bipush (by rfl) rfl ?_
            refine hpj_ceq (by rfl) rfl hk_32 (fun q21 => False.elim (by omega)) (fun q21 => ?_)
            refine hpa_iload (by rfl) rfl ?_
            refine hpj_zeq (by rfl) rfl (fun q22 => ?_) (fun q22 => False.elim (by omega))
            refine hpa_iconst (by rfl) rfl ?_
            refine hpa_s1 (by rfl) (Or.inr ⟨_, rfl, rfl⟩) rfl ?_
            refine hpj_iinc (by rfl) rfl rfl hk_1 (by omega) (by omega) (fun _ => rfl) (fun z23 ez23 => ?_)
            refine hpa_goto (by rfl) ?_
            refine hpj_iinc (by rfl) rfl rfl hk_1 (by omega) (by omega) (fun _ => rfl) (fun z24 ez24 => ?_)
            refine hpa_goto (by rfl) ?_
            exact ih11 x11_3 z23 (Int32.ofNat 0) z24 (.int (Int32.ofNat ((hc_txt 1).getD x11_6.toInt.toNat 0))) (by omega) (by omega) (by rw [show z24.toInt.toNat = x11_6.toInt.toNat + 1 by omega, hs1]; omega) (by rw [show z24.toInt.toNat = x11_6.toInt.toNat + 1 by omega, hs2]; omega) (Or.inr ⟨hk_0, by rw [show z24.toInt.toNat = x11_6.toInt.toNat + 1 by omega, hs1, hs2]; exact hw_al0 al⟩) (fun k hk => no k (by rw [show z24.toInt.toNat = x11_6.toInt.toNat + 1 by omega, hs1] at hk; exact hk))
          ·
            refine hpa_s1 (by rfl) (Or.inr ⟨_, rfl, rfl⟩) rfl ?_
            refine hpa_iload (by rfl) rfl ?_
            refine hpa_bipush (by rfl) rfl ?_
            refine hpj_ceq (by rfl) rfl hk_32 (fun q25 => ?_) (fun q25 => False.elim (by omega))
            refine hpa_iload (by rfl) rfl ?_
            refine hpj_zeq (by rfl) rfl (fun q26 => ?_) (fun q26 => False.elim (by omega))
            refine hpj_iinc (by rfl) rfl rfl hk_1 (by omega) (by omega) (fun _ => rfl) (fun z27 ez27 => ?_)
            refine hpa_iload_n (by rfl) rfl ?_
            refine hpa_s1 (by rfl) (Or.inr ⟨_, rfl, rfl⟩) rfl ?_
            refine hpa_iconst (by rfl) rfl ?_
            refine hpa_s1 (by rfl) (Or.inr ⟨_, rfl, rfl⟩) rfl ?_
            refine hpj_iinc (by rfl) rfl rfl hk_1 (by omega) (by omega) (fun _ => rfl) (fun z28 ez28 => ?_)
            refine hpa_goto (by rfl) ?_
            exact ih11 z27 a1 (Int32.ofNat 1) z28 (.int (Int32.ofNat ((hc_txt 1).getD x11_6.toInt.toNat 0))) (by omega) (by omega) (by rw [show z28.toInt.toNat = x11_6.toInt.toNat + 1 by omega, hs1]; omega) (by rw [show z28.toInt.toNat = x11_6.toInt.toNat + 1 by omega, hs2]; omega) (Or.inl ⟨hk_1, by rw [show z28.toInt.toNat = x11_6.toInt.toNat + 1 by omega, hs1, hs2]; exact hw_all⟩) (fun k hk => by rw [show z28.toInt.toNat = x11_6.toInt.toNat + 1 by omega, hs1] at hk; by_cases qk : k = hw_k x11_6.toInt.toNat; (subst qk; exact fun w => al (((hw_eq hk20 hs3 hpe).mp w).2)); exact no k (by omega))
  refine hpa_iconst (by rfl) rfl ?_
  refine hpa_s1 (by rfl) (Or.inl ⟨_, rfl, rfl⟩) rfl ?_
  refine hpa_iload_n (by rfl) rfl ?_
  refine hpa_s1 (by rfl) (Or.inr ⟨_, rfl, rfl⟩) rfl ?_
  refine hpa_iconst (by rfl) rfl ?_
  refine hpa_s1 (by rfl) (Or.inr ⟨_, rfl, rfl⟩) rfl ?_
  refine hpa_iconst (by rfl) rfl ?_
  refine hpa_s1 (by rfl) (Or.inr ⟨_, rfl, rfl⟩) rfl ?_
  exact L11 _ (Int32.ofNat 0) a1 (Int32.ofNat 1) (Int32.ofNat 0) (.retAddr 0) (by omega) (by omega) (by rw [hk_0]; exact hk_0) (by rw [hk_0]; show _ = (p : Int) + ((0 : Nat) : Int); omega) (Or.inl ⟨hk_1, by rw [hk_0]; exact hw_all⟩) (fun k hk => absurd hk (by rw [hk_0]; exact Nat.not_lt_zero k))
theorem hP62 {g d : Nat} {A : hs_A} {B : Nat → Int} {n p e : Nat} (a1 a2 : Int32) (hA : hcTp B n A) (h1 : a1.toInt = (p : Int)) (h2 : a2.toInt = (e : Int)) (hpe : p ≤ e) (hen : e ≤ n) (hn : n ≤ 2000) : hpC g d 62 hm_m62 [.ref 2, .int a1, .int a2] A (fun r A' => A = A' ∧ ∃ z : Int32, r = some (.int z) ∧ ((z.toInt = -1 ∧ ht_ix (ht_sub B p e) ht_ws 0 = none) ∨ (∃ k : Nat, z.toInt = (k : Int) ∧ ht_ix (ht_sub B p e) ht_ws 0 = some k))) := hpC.all (fun f d => hW62 a1 a2 hA h1 h2 hpe hen hn (fun r A' h => h))
theorem hW61 {g d f : Nat} {A : hs_A} {B : Nat → Int} {n p j : Nat} (a1 a2 : Int32) (hA : hcTp B n A) (h1 : a1.toInt = (p : Int)) (h2 : a2.toInt = (n : Int)) (hp : p < n) (hn : n ≤ 2000) (hl : ht_le (B p) = true) (hj : (A.1 21 3).toInt = (j : Int)) (hv0 : A.2.2.1 23 j = 0) {P : Option Value → hs_A → Prop} (hP : ∀ (r : Option Value) (A' : hs_A), (∃ z : Int32, r = some (.int z) ∧ z.toInt = (ht_end B n p : Int) ∧ hcG B n A A' p j) → P r A') : hpa (f, g) d (some (.int)) hm_t61 0 [.ref 22, .ref 2, .int a1, .int a2, .retAddr 0, .retAddr 0] [] A P := by
  have k1 := hk_1
  have k122 := hk_122
  have k20 := hk_20
  have k23 := hk_23
  have k4294967295 := hk_4294967295
  have k5 := hk_5
  have k8 := hk_8
  have k97 := hk_97
  have L3 : ∀ (f : Nat) (x3_4 : Int32) (A3 : hs_A) (v3 : Int64) (e3 : A3.1 = A.1) (f3 : A3.2.1 = A.2.1) (g3 : A3.2.2.1 = hs_upL A.2.2.1 23 j v3) (r3 : A3.2.2.2 = A.2.2.2) (lo : (p : Int) ≤ x3_4.toInt) (hh : x3_4.toInt ≤ (n : Int)) (hall : ∀ i, p ≤ i → i < (x3_4.toInt).toNat → ht_le (B i) = true) (run : ht_run B n ht_le (x3_4.toInt).toNat = ht_run B n ht_le p) (c3 : x3_4.toInt - (p : Int) ≤ 8 → v3.toInt = ht_g 32 96 (ht_rv B p ((x3_4.toInt).toNat - p))), hpa (f, g) d (some (.int)) hm_t61 3 [.ref 22, .ref 2, .int a1, .int a2, .int x3_4, .retAddr 0] [] A3 P := by
    intro f
    induction f with
    | zero => intros; exact hpa.zero
    | succ f ih3 =>
      intro x3_4 A3 v3 e3 f3 g3 r3 lo hh hall run c3
      have hjw : (A3.1 21 3).toInt = (j : Int) := by rw [e3]; exact hj
      have hiw : (A3.1 21 3).toNatClampNeg = j := by have := hn_cn (j := A3.1 21 3) (by omega); omega
      have hA3 : hcTp B n A3 := fun i hi => by rw [f3]; exact hA i hi
      refine hpa_iloadS (by rfl) rfl ?_
      refine hpa_iload_n (by rfl) rfl ?_
      refine hpj_cge (by rfl) rfl rfl (fun q1 => ?_) (fun q1 => ?_)
      ·
        have hend : ht_run B n ht_le p = x3_4.toInt.toNat := by rw [← run]; exact ht_run_stop B n (fun w => absurd w.1 (by omega))
        refine hpa_iload (by rfl) rfl ?_
        refine hpa_iload_n (by rfl) rfl ?_
        refine hpj_isub (by rfl) rfl rfl (by omega) (by omega) (fun z2 ez2 => ?_)
        refine hpa_bipush (by rfl) rfl ?_
        refine hpj_cle (by rfl) rfl hk_8 (fun q3 => ?_) (fun q3 => ?_)
        ·
          refine hpa_aload_n (by rfl) rfl ?_
          refine hpa_iload_n (by rfl) rfl ?_
          refine hpa_iload (by rfl) rfl ?_
          refine hpa_call2 (by rfl) (by decide) (by rfl) (by rfl) (by rfl) (hP62 a1 x3_4 hA3 h1 (show x3_4.toInt = ((x3_4.toInt.toNat : Nat) : Int) by omega) (by omega) (by omega) hn) ?_
          rintro _ _ ⟨rfl, z5, rfl, (⟨fz_A4, nx_A4⟩ | sx_A4)⟩
          ·
            refine hpa_s1 (by rfl) (Or.inr ⟨_, rfl, rfl⟩) rfl ?_
            refine hpa_aload_n (by rfl) rfl ?_
            refine hpa_get (v := .ref 23) (by rfl) (by rfl) (by rfl) rfl ?_
            refine hpa_aload_n (by rfl) rfl ?_
            refine hpj_getK (by rfl) (by rfl) (by rfl) rfl ?_
            refine hpa_iload (by rfl) rfl ?_
            refine hpa_iconst (by rfl) rfl ?_
            refine hpj_cne (by rfl) rfl hk_4294967295 (fun q6 => False.elim (by omega)) (fun q6 => ?_)
            refine hpa_bipush (by rfl) rfl ?_
            refine hpa_goto (by rfl) ?_
            refine hpx_iast (by rfl) (by rfl) (fun A7 h0A7 h1A7 eA7 fA7 gA7 => ?_)
            refine hpa_iload (by rfl) rfl ?_
            have hkd : ht_kind B n p = 20 := by rw [ht_kind_le hp hl, if_pos (by omega), hend, nx_A4]
            exact hpa_ireturn (by rfl) rfl (hP _ _ ⟨_, rfl, by rw [ht_end_le' hp hl]; omega, (Int32.ofNat 20), v3, by rw [eA7, e3], by rw [fA7, f3, hiw], by rw [gA7, g3], by rw [gA7, r3], by rw [hkd]; exact hk_20, fun _ => by rw [ht_end_le' hp hl, hend]; exact c3 (by omega), (fun q => absurd (((ht_kind_rng (B := B) (n := n) p).2.2.2.2 q).2.1) (fun w => w hl))⟩)
          ·
            obtain ⟨kw, sx1, sx2⟩ := sx_A4
            refine hpa_s1 (by rfl) (Or.inr ⟨_, rfl, rfl⟩) rfl ?_
            refine hpa_aload_n (by rfl) rfl ?_
            refine hpa_get (v := .ref 23) (by rfl) (by rfl) (by rfl) rfl ?_
            refine hpa_aload_n (by rfl) rfl ?_
            refine hpj_getK (by rfl) (by rfl) (by rfl) rfl ?_
            refine hpa_iload (by rfl) rfl ?_
            refine hpa_iconst (by rfl) rfl ?_
            refine hpj_cne (by rfl) rfl hk_4294967295 (fun q8 => ?_) (fun q8 => False.elim (by omega))
            refine hpa_iload (by rfl) rfl ?_
            refine hpx_iast (by rfl) (by rfl) (fun A9 h0A9 h1A9 eA9 fA9 gA9 => ?_)
            refine hpa_iload (by rfl) rfl ?_
            have hkd : ht_kind B n p = z5.toInt := by rw [ht_kind_le hp hl, if_pos (by omega), hend, sx2]; exact sx1.symm
            exact hpa_ireturn (by rfl) rfl (hP _ _ ⟨_, rfl, by rw [ht_end_le' hp hl]; omega, z5, v3, by rw [eA9, e3], by rw [fA9, f3, hiw], by rw [gA9, g3], by rw [gA9, r3], by rw [hkd], fun _ => by rw [ht_end_le' hp hl, hend]; exact c3 (by omega), (fun q => absurd (((ht_kind_rng (B := B) (n := n) p).2.2.2.2 q).2.1) (fun w => w hl))⟩)
        ·
          refine hpa_aload_n (by rfl) rfl ?_
          refine hpa_get (v := .ref 23) (by rfl) (by rfl) (by rfl) rfl ?_
          refine hpa_aload_n (by rfl) rfl ?_
          refine hpj_getK (by rfl) (by rfl) (by rfl) rfl ?_
          refine hpa_bipush (by rfl) rfl ?_
          refine hpx_iast (by rfl) (by rfl) (fun A10 h0A10 h1A10 eA10 fA10 gA10 => ?_)
          refine hpa_goto (by rfl) ?_
          refine hpa_iload (by rfl) rfl ?_
          have hkd : ht_kind B n p = 23 := by rw [ht_kind_le hp hl, if_neg (by omega)]
          exact hpa_ireturn (by rfl) rfl (hP _ _ ⟨_, rfl, by rw [ht_end_le' hp hl]; omega, (Int32.ofNat 23), v3, by rw [eA10, e3], by rw [fA10, f3, hiw], by rw [gA10, g3], by rw [gA10, r3], by rw [hkd]; exact hk_23, fun q => absurd q (by omega), (fun q => absurd (((ht_kind_rng (B := B) (n := n) p).2.2.2.2 q).2.1) (fun w => w hl))⟩)
      ·
        refine hpa_aload_n (by rfl) rfl ?_
        refine hpa_iload (by rfl) rfl ?_
        refine hpx_bald (by rfl) (by rfl) (fun h0v11 h1v11 v11 ev11 => ?_)
        rw [f3] at ev11
        have tv11 : v11.toInt = B (x3_4.toInt).toNat := by rw [← ev11]; exact hA (x3_4.toInt).toNat (by omega)
        refine hpa_bipush (by rfl) rfl ?_
        refine hpj_clt (by rfl) rfl hk_97 (fun q12 => ?_) (fun q12 => ?_)
        ·
          have hend : ht_run B n ht_le p = x3_4.toInt.toNat := by rw [← run]; exact ht_run_stop B n (fun w => absurd (ht_le_iff.mp w.2) (by omega))
          refine hpa_iload (by rfl) rfl ?_
          refine hpa_iload_n (by rfl) rfl ?_
          refine hpj_isub (by rfl) rfl rfl (by omega) (by omega) (fun z13 ez13 => ?_)
          refine hpa_bipush (by rfl) rfl ?_
          refine hpj_cle (by rfl) rfl hk_8 (fun q14 => ?_) (fun q14 => ?_)
          ·
            refine hpa_aload_n (by rfl) rfl ?_
            refine hpa_iload_n (by rfl) rfl ?_
            refine hpa_iload (by rfl) rfl ?_
            refine hpa_call2 (by rfl) (by decide) (by rfl) (by rfl) (by rfl) (hP62 a1 x3_4 hA3 h1 (show x3_4.toInt = ((x3_4.toInt.toNat : Nat) : Int) by omega) (by omega) (by omega) hn) ?_
            rintro _ _ ⟨rfl, z16, rfl, (⟨fz_A15, nx_A15⟩ | sx_A15)⟩
            ·
              refine hpa_s1 (by rfl) (Or.inr ⟨_, rfl, rfl⟩) rfl ?_
              refine hpa_aload_n (by rfl) rfl ?_
              refine hpa_get (v := .ref 23) (by rfl) (by rfl) (by rfl) rfl ?_
              refine hpa_aload_n (by rfl) rfl ?_
              refine hpj_getK (by rfl) (by rfl) (by rfl) rfl ?_
              refine hpa_iload (by rfl) rfl ?_
              refine hpa_iconst (by rfl) rfl ?_
              refine hpj_cne (by rfl) rfl hk_4294967295 (fun q17 => False.elim (by omega)) (fun q17 => ?_)
              refine hpa_bipush (by rfl) rfl ?_
              refine hpa_goto (by rfl) ?_
              refine hpx_iast (by rfl) (by rfl) (fun A18 h0A18 h1A18 eA18 fA18 gA18 => ?_)
              refine hpa_iload (by rfl) rfl ?_
              have hkd : ht_kind B n p = 20 := by rw [ht_kind_le hp hl, if_pos (by omega), hend, nx_A15]
              exact hpa_ireturn (by rfl) rfl (hP _ _ ⟨_, rfl, by rw [ht_end_le' hp hl]; omega, (Int32.ofNat 20), v3, by rw [eA18, e3], by rw [fA18, f3, hiw], by rw [gA18, g3], by rw [gA18, r3], by rw [hkd]; exact hk_20, fun _ => by rw [ht_end_le' hp hl, hend]; exact c3 (by omega), (fun q => absurd (((ht_kind_rng (B := B) (n := n) p).2.2.2.2 q).2.1) (fun w => w hl))⟩)
            ·
              obtain ⟨kw, sx1, sx2⟩ := sx_A15
              refine hpa_s1 (by rfl) (Or.inr ⟨_, rfl, rfl⟩) rfl ?_
              refine hpa_aload_n (by rfl) rfl ?_
              refine hpa_get (v := .ref 23) (by rfl) (by rfl) (by rfl) rfl ?_
              refine hpa_aload_n (by rfl) rfl ?_
              refine hpj_getK (by rfl) (by rfl) (by rfl) rfl ?_
              refine hpa_iload (by rfl) rfl ?_
              refine hpa_iconst (by rfl) rfl ?_
              refine hpj_cne (by rfl) rfl hk_4294967295 (fun q19 => ?_) (fun q19 => False.elim (by omega))
              refine hpa_iload (by rfl) rfl ?_
              refine hpx_iast (by rfl) (by rfl) (fun A20 h0A20 h1A20 eA20 fA20 gA20 => ?_)
              refine hpa_iload (by rfl) rfl ?_
              have hkd : ht_kind B n p = z16.toInt := by rw [ht_kind_le hp hl, if_pos (by omega), hend, sx2]; exact sx1.symm
              exact hpa_ireturn (by rfl) rfl (hP _ _ ⟨_, rfl, by rw [ht_end_le' hp hl]; omega, z16, v3, by rw [eA20, e3], by rw [fA20, f3, hiw], by rw [gA20, g3], by rw [gA20, r3], by rw [hkd], fun _ => by rw [ht_end_le' hp hl, hend]; exact c3 (by omega), (fun q => absurd (((ht_kind_rng (B := B) (n := n) p).2.2.2.2 q).2.1) (fun w => w hl))⟩)
          ·
            refine hpa_aload_n (by rfl) rfl ?_
            refine hpa_get (v := .ref 23) (by rfl) (by rfl) (by rfl) rfl ?_
            refine hpa_aload_n (by rfl) rfl ?_
            refine hpj_getK (by rfl) (by rfl) (by rfl) rfl ?_
            refine hpa_bipush (by rfl) rfl ?_
            refine hpx_iast (by rfl) (by rfl) (fun A21 h0A21 h1A21 eA21 fA21 gA21 => ?_)
            refine hpa_goto (by rfl) ?_
            refine hpa_iload (by rfl) rfl ?_
            have hkd : ht_kind B n p = 23 := by rw [ht_kind_le hp hl, if_neg (by omega)]
            exact hpa_ireturn (by rfl) rfl (hP _ _ ⟨_, rfl, by rw [ht_end_le' hp hl]; omega, (Int32.ofNat 23), v3, by rw [eA21, e3], by rw [fA21, f3, hiw], by rw [gA21, g3], by rw [gA21, r3], by rw [hkd]; exact hk_23, fun q => absurd q (by omega), (fun q => absurd (((ht_kind_rng (B := B) (n := n) p).2.2.2.2 q).2.1) (fun w => w hl))⟩)
        ·
          refine hpa_aload_n (by rfl) rfl ?_
          refine hpa_iload (by rfl) rfl ?_
          refine hpx_bald (by rfl) (by rfl) (fun h0v22 h1v22 v22 ev22 => ?_)
          rw [f3] at ev22
          have tv22 : v22.toInt = B (x3_4.toInt).toNat := by rw [← ev22]; exact hA (x3_4.toInt).toNat (by omega)
          refine hpa_bipush (by rfl) rfl ?_
          refine hpj_cgt (by rfl) rfl hk_122 (fun q23 => ?_) (fun q23 => ?_)
          ·
            have hend : ht_run B n ht_le p = x3_4.toInt.toNat := by rw [← run]; exact ht_run_stop B n (fun w => absurd (ht_le_iff.mp w.2) (by omega))
            refine hpa_iload (by rfl) rfl ?_
            refine hpa_iload_n (by rfl) rfl ?_
            refine hpj_isub (by rfl) rfl rfl (by omega) (by omega) (fun z24 ez24 => ?_)
            refine hpa_bipush (by rfl) rfl ?_
            refine hpj_cle (by rfl) rfl hk_8 (fun q25 => ?_) (fun q25 => ?_)
            ·
              refine hpa_aload_n (by rfl) rfl ?_
              refine hpa_iload_n (by rfl) rfl ?_
              refine hpa_iload (by rfl) rfl ?_
              refine hpa_call2 (by rfl) (by decide) (by rfl) (by rfl) (by rfl) (hP62 a1 x3_4 hA3 h1 (show x3_4.toInt = ((x3_4.toInt.toNat : Nat) : Int) by omega) (by omega) (by omega) hn) ?_
              rintro _ _ ⟨rfl, z27, rfl, (⟨fz_A26, nx_A26⟩ | sx_A26)⟩
              ·
                refine hpa_s1 (by rfl) (Or.inr ⟨_, rfl, rfl⟩) rfl ?_
                refine hpa_aload_n (by rfl) rfl ?_
                refine hpa_get (v := .ref 23) (by rfl) (by rfl) (by rfl) rfl ?_
                refine hpa_aload_n (by rfl) rfl ?_
                refine hpj_getK (by rfl) (by rfl) (by rfl) rfl ?_
                refine hpa_iload (by rfl) rfl ?_
                refine hpa_iconst (by rfl) rfl ?_
                refine hpj_cne (by rfl) rfl hk_4294967295 (fun q28 => False.elim (by omega)) (fun q28 => ?_)
                refine hpa_bipush (by rfl) rfl ?_
                refine hpa_goto (by rfl) ?_
                refine hpx_iast (by rfl) (by rfl) (fun A29 h0A29 h1A29 eA29 fA29 gA29 => ?_)
                refine hpa_iload (by rfl) rfl ?_
                have hkd : ht_kind B n p = 20 := by rw [ht_kind_le hp hl, if_pos (by omega), hend, nx_A26]
                exact hpa_ireturn (by rfl) rfl (hP _ _ ⟨_, rfl, by rw [ht_end_le' hp hl]; omega, (Int32.ofNat 20), v3, by rw [eA29, e3], by rw [fA29, f3, hiw], by rw [gA29, g3], by rw [gA29, r3], by rw [hkd]; exact hk_20, fun _ => by rw [ht_end_le' hp hl, hend]; exact c3 (by omega), (fun q => absurd (((ht_kind_rng (B := B) (n := n) p).2.2.2.2 q).2.1) (fun w => w hl))⟩)
              ·
                obtain ⟨kw, sx1, sx2⟩ := sx_A26
                refine hpa_s1 (by rfl) (Or.inr ⟨_, rfl, rfl⟩) rfl ?_
                refine hpa_aload_n (by rfl) rfl ?_
                refine hpa_get (v := .ref 23) (by rfl) (by rfl) (by rfl) rfl ?_
                refine hpa_aload_n (by rfl) rfl ?_
                refine hpj_getK (by rfl) (by rfl) (by rfl) rfl ?_
                refine hpa_iload (by rfl) rfl ?_
                refine hpa_iconst (by rfl) rfl ?_
                refine hpj_cne (by rfl) rfl hk_4294967295 (fun q30 => ?_) (fun q30 => False.elim (by omega))
                refine hpa_iload (by rfl) rfl ?_
                refine hpx_iast (by rfl) (by rfl) (fun A31 h0A31 h1A31 eA31 fA31 gA31 => ?_)
                refine hpa_iload (by rfl) rfl ?_
                have hkd : ht_kind B n p = z27.toInt := by rw [ht_kind_le hp hl, if_pos (by omega), hend, sx2]; exact sx1.symm
                exact hpa_ireturn (by rfl) rfl (hP _ _ ⟨_, rfl, by rw [ht_end_le' hp hl]; omega, z27, v3, by rw [eA31, e3], by rw [fA31, f3, hiw], by rw [gA31, g3], by rw [gA31, r3], by rw [hkd], fun _ => by rw [ht_end_le' hp hl, hend]; exact c3 (by omega), (fun q => absurd (((ht_kind_rng (B := B) (n := n) p).2.2.2.2 q).2.1) (fun w => w hl))⟩)
            ·
              refine hpa_aload_n (by rfl) rfl ?_
              refine hpa_get (v := .ref 23) (by rfl) (by rfl) (by rfl) rfl ?_
              refine hpa_aload_n (by rfl) rfl ?_
              refine hpj_getK (by rfl) (by rfl) (by rfl) rfl ?_
              refine hpa_bipush (by rfl) rfl ?_
              refine hpx_iast (by rfl) (by rfl) (fun A32 h0A32 h1A32 eA32 fA32 gA32 => ?_)
              refine hpa_goto (by rfl) ?_
              refine hpa_iload (by rfl) rfl ?_
              have hkd : ht_kind B n p = 23 := by rw [ht_kind_le hp hl, if_neg (by omega)]
              exact hpa_ireturn (by rfl) rfl (hP _ _ ⟨_, rfl, by rw [ht_end_le' hp hl]; omega, (Int32.ofNat 23), v3, by rw [eA32, e3], by rw [fA32, f3, hiw], by rw [gA32, g3], by rw [gA32, r3], by rw [hkd]; exact hk_23, fun q => absurd q (by omega), (fun q => absurd (((ht_kind_rng (B := B) (n := n) p).2.2.2.2 q).2.1) (fun w => w hl))⟩)
          ·
            refine hpa_aload_n (by rfl) rfl ?_
            refine hpa_get (v := .ref 24) (by rfl) (by rfl) (by rfl) rfl ?_
            refine hpa_aload_n (by rfl) rfl ?_
            refine hpj_getK (by rfl) (by rfl) (by rfl) rfl ?_
            refine hpa_aload_n (by rfl) rfl ?_
            refine hpa_get (v := .ref 24) (by rfl) (by rfl) (by rfl) rfl ?_
            refine hpa_aload_n (by rfl) rfl ?_
            refine hpj_getK (by rfl) (by rfl) (by rfl) rfl ?_
            refine hpx_lald (by rfl) (by rfl) (fun h0v33 h1v33 v33 ev33 => ?_)
            rw [hiw, g3, hupL1] at ev33
            subst ev33
            refine hpa_iconst (by rfl) rfl ?_
            refine hpa_lshl (by rfl) ?_
            refine hpa_aload_n (by rfl) rfl ?_
            refine hpa_iload (by rfl) rfl ?_
            refine hpx_bald (by rfl) (by rfl) (fun h0v34 h1v34 v34 ev34 => ?_)
            rw [f3] at ev34
            have tv34 : v34.toInt = B (x3_4.toInt).toNat := by rw [← ev34]; exact hA (x3_4.toInt).toNat (by omega)
            refine hpa_bipush (by rfl) rfl ?_
            refine hpj_isub (by rfl) rfl hk_97 (by omega) (by omega) (fun z35 ez35 => ?_)
            refine hpa_iconst (by rfl) rfl ?_
            refine hpj_iadd (by rfl) rfl hk_1 (by omega) (by omega) (fun z36 ez36 => ?_)
            refine hpa_i2l (by rfl) ?_
            refine hpa_lor (by rfl) ?_
            have hbd : x3_4.toInt - (p : Int) ≤ 7 → 0 ≤ v3.toInt ∧ v3.toInt < 32 ^ (x3_4.toInt.toNat - p) := fun h8 => by
              have hb := ht_g_bd (b := 32) (z := 96) (by omega) (l := ht_rv B p (x3_4.toInt.toNat - p)) (fun c hc => by obtain ⟨i, i1, i2, rfl⟩ := ht_rv_mem hc; have := ht_le_iff.mp (hall i i1 (by omega)); omega)
              rw [ht_rv_len, ← c3 (by omega)] at hb
              exact hb
            refine hpx_last (by rfl) (by rfl) (fun A37 h0A37 h1A37 eA37 fA37 gA37 iA37 => ?_)
            have hcl : x3_4.toInt - (p : Int) ≤ 7 → (((v3 <<< ((Int32.ofNat 5).toInt64 &&& 63)) ||| (z36).toInt64)).toInt = 32 * v3.toInt + (B x3_4.toInt.toNat - 96) := fun h8 => by
              have hb := hbd h8
              have hb2 : (32 : Int) ^ (x3_4.toInt.toNat - p) ≤ 32 ^ 7 := hpowk (by omega) (by omega)
              have hor := h64or (x := v3) (y := z36) hb.1 (by omega) (by omega) (by omega)
              omega
            refine hpj_iinc (by rfl) rfl rfl hk_1 (by omega) (by omega) (fun _ => rfl) (fun z38 ez38 => ?_)
            refine hpa_goto (by rfl) ?_
            exact ih3 z38 A37 ((v3 <<< ((Int32.ofNat 5).toInt64 &&& 63)) ||| (z36).toInt64) (eA37.trans e3) (fA37.trans f3) (by rw [gA37, g3, hiw, hupLL]) (iA37.trans r3) (by omega) (by omega) (fun i h1 h2 => by rw [show z38.toInt.toNat = x3_4.toInt.toNat + 1 by omega] at h2; by_cases qi : i = x3_4.toInt.toNat; (subst qi; exact ht_le_iff.mpr ⟨by omega, by omega⟩); exact hall i h1 (by omega)) (by rw [show z38.toInt.toNat = x3_4.toInt.toNat + 1 by omega, ← ht_run_go B n (by omega) (ht_le_iff.mpr ⟨by omega, by omega⟩)]; exact run) (fun h8 => by rw [show z38.toInt.toNat = x3_4.toInt.toNat + 1 by omega, show x3_4.toInt.toNat + 1 - p = (x3_4.toInt.toNat - p) + 1 by omega]; show _ = 32 * ht_g 32 96 (ht_rv B p (x3_4.toInt.toNat - p)) + (B (p + (x3_4.toInt.toNat - p)) - 96); rw [show p + (x3_4.toInt.toNat - p) = x3_4.toInt.toNat by omega, ← c3 (by omega)]; exact (hcl (by omega)))
  refine hpa_iload_n (by rfl) rfl ?_
  refine hpa_s1 (by rfl) (Or.inr ⟨_, rfl, rfl⟩) rfl ?_
  exact L3 _ a1 A 0 rfl rfl (hupL0 hv0) rfl (by omega) (by omega) (fun i h1 h2 => absurd h2 (by omega)) (by rw [show a1.toInt.toNat = p by omega]) (fun _ => by rw [show a1.toInt.toNat - p = 0 by omega]; show (0 : Int64).toInt = 0; decide)
theorem hP61 {g d : Nat} {A : hs_A} {B : Nat → Int} {n p j : Nat} (a1 a2 : Int32) (hA : hcTp B n A) (h1 : a1.toInt = (p : Int)) (h2 : a2.toInt = (n : Int)) (hp : p < n) (hn : n ≤ 2000) (hl : ht_le (B p) = true) (hj : (A.1 21 3).toInt = (j : Int)) (hv0 : A.2.2.1 23 j = 0) : hpC g d 61 hm_m61 [.ref 22, .ref 2, .int a1, .int a2] A (fun r A' => ∃ z : Int32, r = some (.int z) ∧ z.toInt = (ht_end B n p : Int) ∧ hcG B n A A' p j) := hpC.all (fun f d => hW61 a1 a2 hA h1 h2 hp hn hl hj hv0 (fun r A' h => h))
theorem hW63 {g d f : Nat} {A : hs_A} {B : Nat → Int} {n p j : Nat} (a1 a2 : Int32) (hA : hcTp B n A) (h1 : a1.toInt = (p : Int)) (h2 : a2.toInt = (n : Int)) (hp : p < n) (hn : n ≤ 2000) (hnl : ¬ ht_le (B p) = true) (hl : ht_di (B p) = true) (hj : (A.1 21 3).toInt = (j : Int)) (hv0 : A.2.2.1 23 j = 0) {P : Option Value → hs_A → Prop} (hP : ∀ (r : Option Value) (A' : hs_A), (∃ z : Int32, r = some (.int z) ∧ z.toInt = (ht_end B n p : Int) ∧ hcG B n A A' p j) → P r A') : hpa (f, g) d (some (.int)) hm_t63 0 [.ref 22, .ref 2, .int a1, .int a2, .retAddr 0] [] A P := by
  have k1 := hk_1
  have k21 := hk_21
  have k23 := hk_23
  have k4 := hk_4
  have k48 := hk_48
  have k57 := hk_57
  have L3 : ∀ (f : Nat) (x3_4 : Int32) (A3 : hs_A) (v3 : Int64) (e3 : A3.1 = A.1) (f3 : A3.2.1 = A.2.1) (g3 : A3.2.2.1 = hs_upL A.2.2.1 23 j v3) (r3 : A3.2.2.2 = A.2.2.2) (lo : (p : Int) ≤ x3_4.toInt) (hh : x3_4.toInt ≤ (n : Int)) (hall : ∀ i, p ≤ i → i < (x3_4.toInt).toNat → ht_di (B i) = true) (run : ht_run B n ht_di (x3_4.toInt).toNat = ht_run B n ht_di p) (c3 : x3_4.toInt - (p : Int) ≤ 4 → v3.toInt = ht_g 10 48 (ht_rv B p ((x3_4.toInt).toNat - p))), hpa (f, g) d (some (.int)) hm_t63 3 [.ref 22, .ref 2, .int a1, .int a2, .int x3_4] [] A3 P := by
    intro f
    induction f with
    | zero => intros; exact hpa.zero
    | succ f ih3 =>
      intro x3_4 A3 v3 e3 f3 g3 r3 lo hh hall run c3
      have hjw : (A3.1 21 3).toInt = (j : Int) := by rw [e3]; exact hj
      have hiw : (A3.1 21 3).toNatClampNeg = j := by have := hn_cn (j := A3.1 21 3) (by omega); omega
      refine hpa_iloadS (by rfl) rfl ?_
      refine hpa_iload_n (by rfl) rfl ?_
      refine hpj_cge (by rfl) rfl rfl (fun q1 => ?_) (fun q1 => ?_)
      ·
        have hend : ht_run B n ht_di p = x3_4.toInt.toNat := by rw [← run]; exact ht_run_stop B n (fun w => absurd w.1 (by omega))
        refine hpa_aload_n (by rfl) rfl ?_
        refine hpa_get (v := .ref 23) (by rfl) (by rfl) (by rfl) rfl ?_
        refine hpa_aload_n (by rfl) rfl ?_
        refine hpj_getK (by rfl) (by rfl) (by rfl) rfl ?_
        refine hpa_iload (by rfl) rfl ?_
        refine hpa_iload_n (by rfl) rfl ?_
        refine hpj_isub (by rfl) rfl rfl (by omega) (by omega) (fun z2 ez2 => ?_)
        refine hpa_iconst (by rfl) rfl ?_
        refine hpj_cle (by rfl) rfl hk_4 (fun q3 => ?_) (fun q3 => ?_)
        ·
          refine hpa_bipush (by rfl) rfl ?_
          refine hpx_iast (by rfl) (by rfl) (fun A4 h0A4 h1A4 eA4 fA4 gA4 => ?_)
          refine hpa_iload (by rfl) rfl ?_
          have hkd : ht_kind B n p = 21 := by rw [ht_kind_di hp hnl hl, if_pos (by omega)]
          exact hpa_ireturn (by rfl) rfl (hP _ _ ⟨_, rfl, by rw [ht_end_di hp hnl hl]; omega, (Int32.ofNat 21), v3, by rw [eA4, e3], by rw [fA4, f3, hiw], by rw [gA4, g3], by rw [gA4, r3], by rw [hkd]; exact hk_21, fun q => absurd q (by omega), fun _ => by rw [ht_end_di hp hnl hl, hend]; exact c3 (by omega)⟩)
        ·
          refine hpa_bipush (by rfl) rfl ?_
          refine hpa_goto (by rfl) ?_
          refine hpx_iast (by rfl) (by rfl) (fun A5 h0A5 h1A5 eA5 fA5 gA5 => ?_)
          refine hpa_iload (by rfl) rfl ?_
          have hkd : ht_kind B n p = 23 := by rw [ht_kind_di hp hnl hl, if_neg (by omega)]
          exact hpa_ireturn (by rfl) rfl (hP _ _ ⟨_, rfl, by rw [ht_end_di hp hnl hl]; omega, (Int32.ofNat 23), v3, by rw [eA5, e3], by rw [fA5, f3, hiw], by rw [gA5, g3], by rw [gA5, r3], by rw [hkd]; exact hk_23, fun q => absurd q (by omega), fun q => absurd q (by omega)⟩)
      ·
        refine hpa_aload_n (by rfl) rfl ?_
        refine hpa_iload (by rfl) rfl ?_
        refine hpx_bald (by rfl) (by rfl) (fun h0v6 h1v6 v6 ev6 => ?_)
        rw [f3] at ev6
        have tv6 : v6.toInt = B (x3_4.toInt).toNat := by rw [← ev6]; exact hA (x3_4.toInt).toNat (by omega)
        refine hpa_bipush (by rfl) rfl ?_
        refine hpj_clt (by rfl) rfl hk_48 (fun q7 => ?_) (fun q7 => ?_)
        ·
          have hend : ht_run B n ht_di p = x3_4.toInt.toNat := by rw [← run]; exact ht_run_stop B n (fun w => absurd (ht_di_iff.mp w.2) (by omega))
          refine hpa_aload_n (by rfl) rfl ?_
          refine hpa_get (v := .ref 23) (by rfl) (by rfl) (by rfl) rfl ?_
          refine hpa_aload_n (by rfl) rfl ?_
          refine hpj_getK (by rfl) (by rfl) (by rfl) rfl ?_
          refine hpa_iload (by rfl) rfl ?_
          refine hpa_iload_n (by rfl) rfl ?_
          refine hpj_isub (by rfl) rfl rfl (by omega) (by omega) (fun z8 ez8 => ?_)
          refine hpa_iconst (by rfl) rfl ?_
          refine hpj_cle (by rfl) rfl hk_4 (fun q9 => ?_) (fun q9 => ?_)
          ·
            refine hpa_bipush (by rfl) rfl ?_
            refine hpx_iast (by rfl) (by rfl) (fun A10 h0A10 h1A10 eA10 fA10 gA10 => ?_)
            refine hpa_iload (by rfl) rfl ?_
            have hkd : ht_kind B n p = 21 := by rw [ht_kind_di hp hnl hl, if_pos (by omega)]
            exact hpa_ireturn (by rfl) rfl (hP _ _ ⟨_, rfl, by rw [ht_end_di hp hnl hl]; omega, (Int32.ofNat 21), v3, by rw [eA10, e3], by rw [fA10, f3, hiw], by rw [gA10, g3], by rw [gA10, r3], by rw [hkd]; exact hk_21, fun q => absurd q (by omega), fun _ => by rw [ht_end_di hp hnl hl, hend]; exact c3 (by omega)⟩)
          ·
            refine hpa_bipush (by rfl) rfl ?_
            refine hpa_goto (by rfl) ?_
            refine hpx_iast (by rfl) (by rfl) (fun A11 h0A11 h1A11 eA11 fA11 gA11 => ?_)
            refine hpa_iload (by rfl) rfl ?_
            have hkd : ht_kind B n p = 23 := by rw [ht_kind_di hp hnl hl, if_neg (by omega)]
            exact hpa_ireturn (by rfl) rfl (hP _ _ ⟨_, rfl, by rw [ht_end_di hp hnl hl]; omega, (Int32.ofNat 23), v3, by rw [eA11, e3], by rw [fA11, f3, hiw], by rw [gA11, g3], by rw [gA11, r3], by rw [hkd]; exact hk_23, fun q => absurd q (by omega), fun q => absurd q (by omega)⟩)
        ·
          refine hpa_aload_n (by rfl) rfl ?_
          refine hpa_iload (by rfl) rfl ?_
          refine hpx_bald (by rfl) (by rfl) (fun h0v12 h1v12 v12 ev12 => ?_)
          rw [f3] at ev12
          have tv12 : v12.toInt = B (x3_4.toInt).toNat := by rw [← ev12]; exact hA (x3_4.toInt).toNat (by omega)
          refine hpa_bipush (by rfl) rfl ?_
          refine hpj_cgt (by rfl) rfl hk_57 (fun q13 => ?_) (fun q13 => ?_)
          ·
            have hend : ht_run B n ht_di p = x3_4.toInt.toNat := by rw [← run]; exact ht_run_stop B n (fun w => absurd (ht_di_iff.mp w.2) (by omega))
            refine hpa_aload_n (by rfl) rfl ?_
            refine hpa_get (v := .ref 23) (by rfl) (by rfl) (by rfl) rfl ?_
            refine hpa_aload_n (by rfl) rfl ?_
            refine hpj_getK (by rfl) (by rfl) (by rfl) rfl ?_
            refine hpa_iload (by rfl) rfl ?_
            refine hpa_iload_n (by rfl) rfl ?_
            refine hpj_isub (by rfl) rfl rfl (by omega) (by omega) (fun z14 ez14 => ?_)
            refine hpa_iconst (by rfl) rfl ?_
            refine hpj_cle (by rfl) rfl hk_4 (fun q15 => ?_) (fun q15 => ?_)
            ·
              refine hpa_bipush (by rfl) rfl ?_
              refine hpx_iast (by rfl) (by rfl) (fun A16 h0A16 h1A16 eA16 fA16 gA16 => ?_)
              refine hpa_iload (by rfl) rfl ?_
              have hkd : ht_kind B n p = 21 := by rw [ht_kind_di hp hnl hl, if_pos (by omega)]
              exact hpa_ireturn (by rfl) rfl (hP _ _ ⟨_, rfl, by rw [ht_end_di hp hnl hl]; omega, (Int32.ofNat 21), v3, by rw [eA16, e3], by rw [fA16, f3, hiw], by rw [gA16, g3], by rw [gA16, r3], by rw [hkd]; exact hk_21, fun q => absurd q (by omega), fun _ => by rw [ht_end_di hp hnl hl, hend]; exact c3 (by omega)⟩)
            ·
              refine hpa_bipush (by rfl) rfl ?_
              refine hpa_goto (by rfl) ?_
              refine hpx_iast (by rfl) (by rfl) (fun A17 h0A17 h1A17 eA17 fA17 gA17 => ?_)
              refine hpa_iload (by rfl) rfl ?_
              have hkd : ht_kind B n p = 23 := by rw [ht_kind_di hp hnl hl, if_neg (by omega)]
              exact hpa_ireturn (by rfl) rfl (hP _ _ ⟨_, rfl, by rw [ht_end_di hp hnl hl]; omega, (Int32.ofNat 23), v3, by rw [eA17, e3], by rw [fA17, f3, hiw], by rw [gA17, g3], by rw [gA17, r3], by rw [hkd]; exact hk_23, fun q => absurd q (by omega), fun q => absurd q (by omega)⟩)
          ·
            refine hpa_aload_n (by rfl) rfl ?_
            refine hpa_get (v := .ref 24) (by rfl) (by rfl) (by rfl) rfl ?_
            refine hpa_aload_n (by rfl) rfl ?_
            refine hpj_getK (by rfl) (by rfl) (by rfl) rfl ?_
            refine hpa_aload_n (by rfl) rfl ?_
            refine hpa_get (v := .ref 24) (by rfl) (by rfl) (by rfl) rfl ?_
            refine hpa_aload_n (by rfl) rfl ?_
            refine hpj_getK (by rfl) (by rfl) (by rfl) rfl ?_
            refine hpx_lald (by rfl) (by rfl) (fun h0v18 h1v18 v18 ev18 => ?_)
            rw [hiw, g3, hupL1] at ev18
            subst ev18
            refine hpa_ldc2_w (by rfl) rfl ?_
            refine hpa_lmul (by rfl) ?_
            refine hpa_aload_n (by rfl) rfl ?_
            refine hpa_iload (by rfl) rfl ?_
            refine hpx_bald (by rfl) (by rfl) (fun h0v19 h1v19 v19 ev19 => ?_)
            rw [f3] at ev19
            have tv19 : v19.toInt = B (x3_4.toInt).toNat := by rw [← ev19]; exact hA (x3_4.toInt).toNat (by omega)
            refine hpa_i2l (by rfl) ?_
            refine hpa_ladd (by rfl) ?_
            refine hpa_ldc2_w (by rfl) rfl ?_
            refine hpa_lsub (by rfl) ?_
            have hbd : x3_4.toInt - (p : Int) ≤ 3 → 0 ≤ v3.toInt ∧ v3.toInt < 10 ^ (x3_4.toInt.toNat - p) := fun h8 => by
              have hb := ht_g_bd (b := 10) (z := 48) (by omega) (l := ht_rv B p (x3_4.toInt.toNat - p)) (fun c hc => by obtain ⟨i, i1, i2, rfl⟩ := ht_rv_mem hc; have := ht_di_iff.mp (hall i i1 (by omega)); omega)
              rw [ht_rv_len, ← c3 (by omega)] at hb
              exact hb
            refine hpx_last (by rfl) (by rfl) (fun A20 h0A20 h1A20 eA20 fA20 gA20 iA20 => ?_)
            have hcl : x3_4.toInt - (p : Int) ≤ 3 → ((((v3 * (Int64.ofNat 10)) + (v19).toInt64) - (Int64.ofNat 48))).toInt = 10 * v3.toInt + (B x3_4.toInt.toNat - 48) := fun h8 => by
              have hb := hbd h8
              have hb2 : (10 : Int) ^ (x3_4.toInt.toNat - p) ≤ 10 ^ 3 := hpowk (by omega) (by omega)
              have hor := h64dig (x := v3) (y := v19) hb.1 (by omega) (by omega) (by omega)
              omega
            refine hpj_iinc (by rfl) rfl rfl hk_1 (by omega) (by omega) (fun _ => rfl) (fun z21 ez21 => ?_)
            refine hpa_goto (by rfl) ?_
            exact ih3 z21 A20 (((v3 * (Int64.ofNat 10)) + (v19).toInt64) - (Int64.ofNat 48)) (eA20.trans e3) (fA20.trans f3) (by rw [gA20, g3, hiw, hupLL]) (iA20.trans r3) (by omega) (by omega) (fun i h1 h2 => by rw [show z21.toInt.toNat = x3_4.toInt.toNat + 1 by omega] at h2; by_cases qi : i = x3_4.toInt.toNat; (subst qi; exact ht_di_iff.mpr ⟨by omega, by omega⟩); exact hall i h1 (by omega)) (by rw [show z21.toInt.toNat = x3_4.toInt.toNat + 1 by omega, ← ht_run_go B n (by omega) (ht_di_iff.mpr ⟨by omega, by omega⟩)]; exact run) (fun h8 => by rw [show z21.toInt.toNat = x3_4.toInt.toNat + 1 by omega, show x3_4.toInt.toNat + 1 - p = (x3_4.toInt.toNat - p) + 1 by omega]; show _ = 10 * ht_g 10 48 (ht_rv B p (x3_4.toInt.toNat - p)) + (B (p + (x3_4.toInt.toNat - p)) - 48); rw [show p + (x3_4.toInt.toNat - p) = x3_4.toInt.toNat by omega, ← c3 (by omega)]; exact (hcl (by omega)))
  refine hpa_iload_n (by rfl) rfl ?_
  refine hpa_s1 (by rfl) (Or.inr ⟨_, rfl, rfl⟩) rfl ?_
  exact L3 _ a1 A 0 rfl rfl (hupL0 hv0) rfl (by omega) (by omega) (fun i h1 h2 => absurd h2 (by omega)) (by rw [show a1.toInt.toNat = p by omega]) (fun _ => by rw [show a1.toInt.toNat - p = 0 by omega]; show (0 : Int64).toInt = 0; decide)
theorem hP63 {g d : Nat} {A : hs_A} {B : Nat → Int} {n p j : Nat} (a1 a2 : Int32) (hA : hcTp B n A) (h1 : a1.toInt = (p : Int)) (h2 : a2.toInt = (n : Int)) (hp : p < n) (hn : n ≤ 2000) (hnl : ¬ ht_le (B p) = true) (hl : ht_di (B p) = true) (hj : (A.1 21 3).toInt = (j : Int)) (hv0 : A.2.2.1 23 j = 0) : hpC g d 63 hm_m63 [.ref 22, .ref 2, .int a1, .int a2] A (fun r A' => ∃ z : Int32, r = some (.int z) ∧ z.toInt = (ht_end B n p : Int) ∧ hcG B n A A' p j) := hpC.all (fun f d => hW63 a1 a2 hA h1 h2 hp hn hnl hl hj hv0 (fun r A' h => h))
