theorem hW28 {g d f : Nat} {A : hs_A} (a1 a2 : Int32) {P : Option Value → hs_A → Prop} (hP : ∀ (r : Option Value) (A' : hs_A), (A = A' ∧ ∃ z : Int32, r = some (.int z) ∧ z = huMx a1 a2) → P r A') : hpa (f, g) d (some (.int)) hm_t28 0 [.int a1, .int a2, .retAddr 0] [] A P := by
  have k1103515245 := hk_1103515245
  have k12345 := hk_12345
  have k15 := hk_15
  refine hpa_iload_n (by rfl) rfl ?_
  refine hpa_iload_n (by rfl) rfl ?_
  refine hpa_ixor (by rfl) ?_
  refine hpa_ldc (by rfl) rfl ?_
  refine hpa_imul (by rfl) ?_
  refine hpa_sipush (by rfl) rfl ?_
  refine hpa_iadd (by rfl) ?_
  refine hpa_s1 (by rfl) (Or.inl ⟨_, rfl, rfl⟩) rfl ?_
  refine hpa_iload_n (by rfl) rfl ?_
  refine hpa_iload_n (by rfl) rfl ?_
  refine hpa_bipush (by rfl) rfl ?_
  refine hpa_iushr (by rfl) ?_
  refine hpa_ixor (by rfl) ?_
  exact hpa_ireturn (by rfl) rfl (hP _ _ ⟨rfl, _, rfl, rfl⟩)
theorem hP28 {g d : Nat} {A : hs_A} (a1 a2 : Int32) : hpC g d 28 hm_m28 [.int a1, .int a2] A (fun r A' => A = A' ∧ ∃ z : Int32, r = some (.int z) ∧ z = huMx a1 a2) := hpC.all (fun f d => hW28 a1 a2 (fun r A' h => h))
theorem hW27 {g d f : Nat} {A : hs_A} (a1 a2 : Int32) {P : Option Value → hs_A → Prop} (hP : ∀ (r : Option Value) (A' : hs_A), (A = A' ∧ ∃ z : Int32, r = some (.int z) ∧ z = huLt a1 a2) → P r A') : hpa (f, g) d (some (.int)) hm_t27 0 [.int a1, .int a2, .retAddr 0] [] A P := by
  have k1 := hk_1
  have k100 := hk_100
  have k137 := hk_137
  refine hpa_iload_n (by rfl) rfl ?_
  refine hpa_sipush (by rfl) rfl ?_
  refine hpa_call2 (by rfl) (by decide) (by rfl) (by rfl) (by rfl) (hP28 a1 (Int32.ofNat 137)) ?_
  rintro _ _ ⟨rfl, z2, rfl, Z_A1⟩
  subst Z_A1
  refine hpa_iload_n (by rfl) rfl ?_
  refine hpa_call2 (by rfl) (by decide) (by rfl) (by rfl) (by rfl) (hP28 (huMx a1 (Int32.ofNat 137)) a2) ?_
  rintro _ _ ⟨rfl, z4, rfl, Z_A3⟩
  subst Z_A3
  refine hpa_s1 (by rfl) (Or.inl ⟨_, rfl, rfl⟩) rfl ?_
  refine hpa_iload_n (by rfl) rfl ?_
  refine hpa_iconst (by rfl) rfl ?_
  refine hpa_iushr (by rfl) ?_
  refine hpa_bipush (by rfl) rfl ?_
  refine hpa_irem (by rfl) (by decide) ?_
  exact hpa_ireturn (by rfl) rfl (hP _ _ ⟨rfl, _, rfl, rfl⟩)
theorem hP27 {g d : Nat} {A : hs_A} (a1 a2 : Int32) : hpC g d 27 hm_m27 [.int a1, .int a2] A (fun r A' => A = A' ∧ ∃ z : Int32, r = some (.int z) ∧ z = huLt a1 a2) := hpC.all (fun f d => hW27 a1 a2 (fun r A' h => h))
theorem hW23_26 {g d f : Nat} {A : hs_A} {h : Nat} (a1 a2 : Int32) (ha : a1 = Int32.ofNat h) (h10 : h < 10) {P : Option Value → hs_A → Prop} (hP : ∀ (r : Option Value) (A' : hs_A), (r = none ∧ ((A'.1 = A.1 ∧ A'.2.1 31 h = a2 ∧ A'.2.1 29 h = A.2.1 29 h ||| (a2 &&& A.2.1 27 h) ∧ ∀ i j, ¬ (i = 31 ∧ j = h) → ¬ (i = 29 ∧ j = h) → A'.2.1 i j = A.2.1 i j))) → P r A') : hpa (f, g) d none hm_t23 0 [.ref 27, .int a1, .int a2] [] A P := by
  have ch := hn_c (n := h) (z := Int32.ofNat h) rfl (by omega)
  have cah : a1.toInt = (h : Int) := by rw [ha]; exact ch
  have cih : a1.toNatClampNeg = h := by have := hn_cn (j := a1) (by omega); omega
  refine hpa_aload_n (by rfl) rfl ?_
  refine hpa_get (v := .ref 32) (by rfl) (by rfl) (by rfl) rfl ?_
  refine hpa_iload_n (by rfl) rfl ?_
  refine hpa_iload_n (by rfl) rfl ?_
  refine hpx_iast (by rfl) (by rfl) (fun A1 h0A1 h1A1 eA1 fA1 gA1 => ?_)
  rw [cih] at fA1
  refine hpa_aload_n (by rfl) rfl ?_
  refine hpa_get (v := .ref 30) (by rfl) (by rfl) (by rfl) rfl ?_
  refine hpa_iload_n (by rfl) rfl ?_
  refine hpa_dup2IR (by rfl) ?_
  refine hpx_iald (by rfl) (by rfl) (fun h0v2 h1v2 v2 ev2 => ?_)
  rw [cih] at ev2
  subst ev2
  refine hpa_iload_n (by rfl) rfl ?_
  refine hpa_aload_n (by rfl) rfl ?_
  refine hpa_get (v := .ref 28) (by rfl) (by rfl) (by rfl) rfl ?_
  refine hpa_iload_n (by rfl) rfl ?_
  refine hpx_iald (by rfl) (by rfl) (fun h0v3 h1v3 v3 ev3 => ?_)
  rw [cih] at ev3
  subst ev3
  refine hpa_iand (by rfl) ?_
  refine hpa_ior (by rfl) ?_
  refine hpx_iast (by rfl) (by rfl) (fun A4 h0A4 h1A4 eA4 fA4 gA4 => ?_)
  rw [cih] at fA4
  exact hpa_return (by rfl) rfl (hP _ _ ⟨rfl, eA4.trans eA1, by rw [fA4, hup2 (by omega), fA1, hup1], by rw [fA4, hup1, fA1, hup2 (by omega), hup2 (by omega)], fun i j h1 h2 => by rw [fA4, hup2 h2, fA1, hup2 h1]⟩)
theorem hP23_26 {g d : Nat} {A : hs_A} {h : Nat} (a1 a2 : Int32) (ha : a1 = Int32.ofNat h) (h10 : h < 10) : hpC g d 23 hm_m23 [.ref 27, .int a1, .int a2] A (fun r A' => r = none ∧ ((A'.1 = A.1 ∧ A'.2.1 31 h = a2 ∧ A'.2.1 29 h = A.2.1 29 h ||| (a2 &&& A.2.1 27 h) ∧ ∀ i j, ¬ (i = 31 ∧ j = h) → ¬ (i = 29 ∧ j = h) → A'.2.1 i j = A.2.1 i j))) := hpC.all (fun f d => hW23_26 a1 a2 ha h10 (fun r A' h => h))
def uM26_26 : Nat := 323519360143903915714511157848622935394214394224738723328456267400192
theorem hW26_26 {g d f : Nat} {A : hs_A} {T : Nat} {D : hg_D} {ro : Nat → Int32} {n : Nat} {b : Bool} (a3 a4 : Int32) (hT : hTT T) (hC : hdK T D A) (hL : hdL 26 ro n A) (hO : huO ro n) (hD : ∀ t, t < 24 → 0 ≤ D.1 t ∧ D.1 t ≤ 255) (hD2 : 0 ≤ D.2.1 ∧ D.2.1 ≤ 10000) (hb : a3.toInt = if b then 1 else 0) (hTn : (A.1 T 4).toInt = (n : Int)) (hH0 : uf_H A) {P : Option Value → hs_A → Prop} (hP : ∀ (r : Option Value) (A' : hs_A), (r = none ∧ (hdL 26 (huR D n b a4 ro) n A')) → P r A') : hpa (f, g) d none hm_t26 0 [.ref 27, .ref (T + 1), .ref 324, .int a3, .int a4, .retAddr 0, .retAddr 0, .retAddr 0] [] A P := by
  have k0 := hk_0
  have k1 := hk_1
  have k16 := hk_16
  have k4294967295 := hk_4294967295
  have hT9 : T ≤ 11 := by rcases hT with rfl | rfl <;> omega
  have h10 := hL.1
  have U0 : uf_W uM26_26 A A := uf_W.rfl
  have L15 : ∀ (f : Nat) (x15_6 : Int32) (x15_7 : Value) (A15 : hs_A) (k : Nat) (k15 : k ≤ n) (l15 : x15_6.toInt = (k : Int) - 1) (hL15 : hdL 26 (huRm D n b a4 ro k) n A15) (U15 : uf_W uM26_26 A A15) (H15 : uf_H A15), hpa (f, g) d none hm_t26 15 [.ref 27, .ref (T + 1), .ref 324, .int a3, .int a4, .int (huN D ro), .int x15_6, x15_7] [] A15 P := by
    intro f
    induction f with
    | zero => intros; exact hpa.zero
    | succ f ih15 =>
      intro x15_6 x15_7 A15 k k15 l15 hL15 U15 H15
      refine hpa_iloadS (by rfl) rfl ?_
      refine hpj_zlt (by rfl) rfl (fun q1 => ?_) (fun q1 => ?_)
      ·
        have k0 : k = 0 := by omega
        subst k0
        refine hpa_aload_n (by rfl) rfl ?_
        refine hpa_iconst (by rfl) rfl ?_
        refine hpj_putI (by rfl) (by rfl) (by rfl) (by rfl) (fun A2 eA2 fA2 => ?_)
        have UA2 := (U15).put eA2 fA2 (by decide +kernel)
        have HA2 := (H15).e (congrArg (fun q => q.2.2) fA2)
        refine hpa_aload_n (by rfl) rfl ?_
        refine hpa_dupR (by rfl) ?_
        refine hpj_getK (by rfl) (by rfl) (by rfl) rfl ?_
        refine hpa_iconst (by rfl) rfl ?_
        refine hpa_iadd (by rfl) ?_
        refine hpj_putI (by rfl) (by rfl) (by rfl) (by rfl) (fun A3 eA3 fA3 => ?_)
        have UA3 := (UA2).put eA3 fA3 (by decide +kernel)
        have HA3 := (HA2).e (congrArg (fun q => q.2.2) fA3)
        exact hpa_return (by rfl) rfl (hP _ _ ⟨rfl, hL15.over (by rw [eA3, hup1, eA2, hup2 (by omega)]) (by rw [eA3, hup2 (by omega), eA2, hup1]) (fun k hk => by rw [eA3, hup2 (by omega), eA2, hup2 (by omega)]) (fun j _ _ x _ => by rw [fA3, fA2])⟩)
      ·
        obtain ⟨h, rfl⟩ : ∃ h, k = h + 1 := ⟨k - 1, by omega⟩
        have ex15 : x15_6 = Int32.ofNat h := huI (by omega) (by omega)
        subst ex15
        have ch := hn_c (n := h) (z := Int32.ofNat h) rfl (by omega)
        have cih : (Int32.ofNat h).toNatClampNeg = h := by have := hn_cn (j := Int32.ofNat h) (by omega); omega
        have hh : h < n := by omega
        have old := huRm_old (D := D) (b := b) (s := a4) (ro := ro) h10 (by omega : h < h + 1) hh
        have hXx := fun t => huX_at (D := D) (b := b) (s := a4) (ro := ro) (t := t) h10 (by omega : h < h + 1) hh
        have hHh := huRm_H (D := D) (b := b) (s := a4) (ro := ro) h10 (by omega : h < h + 1) hh
        have oh := hO.1 h hh
        refine hpa_aload_n (by rfl) rfl ?_
        refine hpa_aload_n (by rfl) rfl ?_
        refine hpa_aload_n (by rfl) rfl ?_
        refine hpa_iload (by rfl) rfl ?_
        refine hpa_aload_n (by rfl) rfl ?_
        refine hpj_getK (by rfl) (by rfl) (by rfl) rfl ?_
        rw [show (A15.1 26 7) = ro 70 from hL15.2.2.1.1.trans (huRm_low h10 (by omega))]
        have hCA15 : hdK T D A15 := hC.uf hT U15 (by decide +kernel)
        have hTnA15 : (A15.1 T 4).toInt = (n : Int) := (congrArg Int32.toInt (hdT4 U15 hT (by decide +kernel))).trans hTn
        refine hpa_call0 (by rfl) (by rfl) (by rfl) (by rfl) (by rfl) (by rfl) (uf_C (X := ug_x133) (j := 133) rfl rfl (ug_L.cons (uf_rk_ok (by decide +kernel)) (ug_L.cons (by rcases hT with rfl | rfl <;> exact uf_rk_ok (by decide +kernel)) (ug_L.cons (uf_rk_ok (by decide +kernel)) (uf_int (uf_int uf_nil))))) H15 (hP1_26 (Int32.ofNat h) (ro 70) hT hCA15 hL15 (hO.mix h10 hD hD2) (by omega) rfl hTnA15 H15)) ?_
        rintro _ A4 ⟨⟨rfl, SS_A4, FR_A4⟩, wA4, HA4⟩
        have UA4 := (U15).trans (wA4.le (by decide +kernel : ug_wle ug_x133.2.2.2.1 uM26_26 = true))
        have hLA4 := hL15.uf hLL_26 wA4 (by decide +kernel)
        have SSA4 : hdS T D (huX (Int32.ofNat n) ro (Int32.ofNat h) (ro 70)) A4 := by rw [← hXx]; exact SS_A4
        refine hpa_iconst (by rfl) rfl ?_
        refine hpa_s1 (by rfl) (Or.inr ⟨_, rfl, rfl⟩) rfl ?_
        refine hpa_aload_n (by rfl) rfl ?_
        refine hpa_iload (by rfl) rfl ?_
        refine hpa_call0 (by rfl) (by rfl) (by rfl) (by rfl) (by rfl) (by rfl) (uf_C (X := ug_x190) (j := 190) rfl rfl (ug_L.cons (uf_rk_ok (by decide +kernel)) (uf_int uf_nil)) HA4 (hP19_26 (Int32.ofNat h) hLA4 (by omega) rfl)) ?_
        rintro _ _ ⟨⟨rfl, z6, rfl, (⟨fz_A5, HE_A5⟩ | ⟨fz_A5, HE_A5⟩)⟩, -, -⟩
        ·
          rw [hHh] at HE_A5
          have hd0 : huHd D n ro h = if h = 0 then huN D ro else huW D (huX (Int32.ofNat n) ro (Int32.ofNat h) (ro 70)) (ro (29 + h)) := by unfold huHd; rw [HE_A5]; rfl
          refine hpj_zeq (by rfl) rfl (fun q7 => False.elim (by omega)) (fun q7 => ?_)
          refine hpa_iload (by rfl) rfl ?_
          refine hpj_zne (by rfl) ch (fun q8 => ?_) (fun q8 => ?_)
          ·
            rw [if_neg (by omega)] at hd0
            refine hpa_aload_n (by rfl) rfl ?_
            refine hpa_aload_n (by rfl) rfl ?_
            refine hpa_get (v := .ref 32) (by rfl) (by rfl) (by rfl) rfl ?_
            refine hpa_iload (by rfl) rfl ?_
            refine hpa_iconst (by rfl) rfl ?_
            refine hpj_isub (by rfl) ch hk_1 (by omega) (by omega) (fun z9 ez9 => ?_)
            refine hpx_iald (by rfl) (by rfl) (fun h0v10 h1v10 v10 ev10 => ?_)
            have o63 := (huRm_old (D := D) (b := b) (s := a4) (ro := ro) h10 (by omega : h - 1 < h + 1) (by omega : h - 1 < n)).1
            rw [show (z9).toNatClampNeg = h - 1 from by have := hn_cn (j := z9) (by omega); omega] at ev10
            have lv10 := ev10.symm.trans ((hLA4.2.2.2.2 (h - 1) (by omega)).2.2.1.trans (o63.trans (by rw [show 30 + (h - 1) = 29 + h by omega] : ro (30 + (h - 1)) = ro (29 + h))))
            clear ev10
            subst lv10
            have b63 := (hO.1 (h - 1) (by omega)).2.2.1
            rw [show 30 + (h - 1) = 29 + h by omega] at b63
            have hCA4 : hdK T D A4 := hC.uf hT UA4 (by decide +kernel)
            refine hpa_call0 (by rfl) (by rfl) (by rfl) (by rfl) (by rfl) (by rfl) (uf_C (X := ug_x134) (j := 134) rfl rfl (ug_L.cons (uf_rk_ok (by decide +kernel)) (uf_int uf_nil)) HA4 (hP5 (ro (29 + h)) hT hCA4 SSA4 (by omega) (by omega) HA4)) ?_
            rintro _ A11 ⟨⟨z12, rfl, Z_A11, SS_A11, FR_A11⟩, wA11, HA11⟩
            have UA11 := (UA4).trans (wA11.le (by decide +kernel : ug_wle ug_x134.2.2.2.1 uM26_26 = true))
            have hLA11 := hLA4.uf hLL_26 wA11 (by decide +kernel)
            subst Z_A11
            refine hpa_s1 (by rfl) (Or.inr ⟨_, rfl, rfl⟩) rfl ?_
            have p7 : (huW D (huX (Int32.ofNat n) ro (Int32.ofNat h) (ro 70)) (ro (29 + h))) = huHd D n ro h := hd0.symm
            refine hpa_aload_n (by rfl) rfl ?_
            refine hpa_get (v := .ref 33) (by rfl) (by rfl) (by rfl) rfl ?_
            refine hpa_iload (by rfl) rfl ?_
            refine hpx_iald (by rfl) (by rfl) (fun h0v13 h1v13 v13 ev13 => ?_)
            rw [cih] at ev13
            have lv13 := ev13.symm.trans ((hLA11.2.2.2.2 h hh).2.2.2.trans old.2.2)
            clear ev13
            subst lv13
            refine hpj_zle (by rfl) rfl (fun q14 => ?_) (fun q14 => ?_)
            ·
              have z60 : (ro (60 + h)).toInt = 0 := by omega
              have gr0 : huGr D n ro b a4 h = if huDy D n ro b a4 h then Int32.ofInt D.2.1 else ro (60 + h) := by unfold huGr; rw [if_neg (by omega)]
              refine hpa_iload_n (by rfl) rfl ?_
              refine hpj_zeq (by rfl) rfl (fun q15 => ?_) (fun q15 => ?_)
              ·
                have bf : b = false := by cases b with | false => rfl | true => rw [if_pos rfl] at hb; exact absurd hb (by omega)
                have dy0 : huDy D n ro b a4 h = false := by unfold huDy; rw [bf, Bool.false_and]
                rw [dy0, if_neg (by decide)] at gr0
                refine hpa_aload_n (by rfl) rfl ?_
                refine hpa_iload (by rfl) rfl ?_
                refine hpa_iload (by rfl) rfl ?_
                refine hpa_call0 (by rfl) (by rfl) (by rfl) (by rfl) (by rfl) (by rfl) (uf_C (X := ug_x142) (j := 142) rfl rfl (ug_L.cons (uf_rk_ok (by decide +kernel)) (uf_int (uf_int uf_nil))) HA11 (hP23_26 (Int32.ofNat h) (huW D (huX (Int32.ofNat n) ro (Int32.ofNat h) (ro 70)) (ro (29 + h))) rfl (by omega))) ?_
                rintro _ A16 ⟨⟨rfl, CH_A16⟩, wA16, HA16⟩
                have UA16 := (UA11).trans (wA16.le (by decide +kernel : ug_wle ug_x142.2.2.2.1 uM26_26 = true))
                have had0 : A11.2.1 29 h = ro (40 + h) := (hLA11.2.2.2.2 h hh).1.2.2.trans old.2.1
                have wan0 : A11.2.1 27 h = ro h := (hLA11.2.2.2.2 h hh).1.1.trans (huRm_low h10 (by omega))
                have had1 := had0
                have wan1 := wan0
                have hLA16 : hdL 26 (huRm D n b a4 ro h) n A16 := hLA11.step hh (by rw [dy0, if_neg (by decide), CH_A16.1]) (fun k a1_ b1_ => by rw [CH_A16.1]) (CH_A16.2.1.trans p7) (by rw [CH_A16.2.2.1, p7, had1, wan1]) (by rw [CH_A16.2.2.2 32 h (by omega) (by omega), gr0, ← old.2.2]; exact (hLA11.2.2.2.2 h hh).2.2.2) (fun j x j1 j6 x10 hne => by rw [CH_A16.2.2.2 _ _ (by omega) (by omega)])
                refine hpj_iinc (by rfl) rfl ch hk_4294967295 (by omega) (by omega) (fun _ => rfl) (fun z17 ez17 => ?_)
                refine hpa_goto (by rfl) ?_
                exact ih15 z17 (.int (huW D (huX (Int32.ofNat n) ro (Int32.ofNat h) (ro 70)) (ro (29 + h)))) A16 h (by omega) (by omega) hLA16 UA16 HA16
              ·
                have bt : b = true := by cases b with | true => rfl | false => rw [if_neg (by decide)] at hb; exact absurd hb (by omega)
                refine hpa_iload (by rfl) rfl ?_
                refine hpa_bipush (by rfl) rfl ?_
                refine hpa_aload_n (by rfl) rfl ?_
                refine hpj_getK (by rfl) (by rfl) (by rfl) rfl ?_
                rw [show (A11.1 26 7) = ro 70 from hLA11.2.2.1.1.trans (huRm_low h10 (by omega))]
                refine hpa_imul (by rfl) ?_
                refine hpa_iload (by rfl) rfl ?_
                refine hpa_iadd (by rfl) ?_
                refine hpa_call2 (by rfl) (by decide) (by rfl) (by rfl) (by rfl) (uf_C (X := ug_x240) (j := 240) rfl rfl (uf_int (uf_int uf_nil)) HA11 (hP27 a4 (((Int32.ofNat 16) * (ro 70)) + (Int32.ofNat h)))) ?_
                rintro _ _ ⟨⟨rfl, z19, rfl, Z_A18⟩, -, -⟩
                subst Z_A18
                refine hpa_aload_n (by rfl) rfl ?_
                have hCA11 : hdK T D A11 := hC.uf hT UA11 (by decide +kernel)
                refine hpa_call0 (by rfl) (by rfl) (by rfl) (by rfl) (by rfl) (by rfl) (uf_C (X := ug_x192) (j := 192) rfl rfl (ug_L.cons (uf_rk_ok (by decide +kernel)) uf_nil) HA11 (hP4 hT hCA11 SS_A11.1 HA11)) ?_
                rintro _ A20 ⟨⟨z21, rfl, Z_A20, VV_A20, FR_A20⟩, wA20, HA20⟩
                have UA20 := (UA11).trans (wA20.le (by decide +kernel : ug_wle ug_x192.2.2.2.1 uM26_26 = true))
                have hLA20 := hLA11.uf hLL_26 wA20 (by decide +kernel)
                subst Z_A20
                refine hpj_cge (by rfl) rfl rfl (fun q22 => ?_) (fun q22 => ?_)
                ·
                  have dy0 : huDy D n ro b a4 h = false := by unfold huDy; rw [decide_eq_false (show ¬ (huLt a4 (Int32.ofNat 16 * ro 70 + Int32.ofNat h)).toInt < (huE D (huX (Int32.ofNat n) ro (Int32.ofNat h) (ro 70))).toInt from Int.not_lt.mpr q22), Bool.and_false, Bool.and_false]
                  rw [dy0, if_neg (by decide)] at gr0
                  refine hpa_aload_n (by rfl) rfl ?_
                  refine hpa_iload (by rfl) rfl ?_
                  refine hpa_iload (by rfl) rfl ?_
                  refine hpa_call0 (by rfl) (by rfl) (by rfl) (by rfl) (by rfl) (by rfl) (uf_C (X := ug_x142) (j := 142) rfl rfl (ug_L.cons (uf_rk_ok (by decide +kernel)) (uf_int (uf_int uf_nil))) HA20 (hP23_26 (Int32.ofNat h) (huW D (huX (Int32.ofNat n) ro (Int32.ofNat h) (ro 70)) (ro (29 + h))) rfl (by omega))) ?_
                  rintro _ A23 ⟨⟨rfl, CH_A23⟩, wA23, HA23⟩
                  have UA23 := (UA20).trans (wA23.le (by decide +kernel : ug_wle ug_x142.2.2.2.1 uM26_26 = true))
                  have had0 : A20.2.1 29 h = ro (40 + h) := (hLA20.2.2.2.2 h hh).1.2.2.trans old.2.1
                  have wan0 : A20.2.1 27 h = ro h := (hLA20.2.2.2.2 h hh).1.1.trans (huRm_low h10 (by omega))
                  have had1 := had0
                  have wan1 := wan0
                  have hLA23 : hdL 26 (huRm D n b a4 ro h) n A23 := hLA20.step hh (by rw [dy0, if_neg (by decide), CH_A23.1]) (fun k a1_ b1_ => by rw [CH_A23.1]) (CH_A23.2.1.trans p7) (by rw [CH_A23.2.2.1, p7, had1, wan1]) (by rw [CH_A23.2.2.2 32 h (by omega) (by omega), gr0, ← old.2.2]; exact (hLA20.2.2.2.2 h hh).2.2.2) (fun j x j1 j6 x10 hne => by rw [CH_A23.2.2.2 _ _ (by omega) (by omega)])
                  refine hpj_iinc (by rfl) rfl ch hk_4294967295 (by omega) (by omega) (fun _ => rfl) (fun z24 ez24 => ?_)
                  refine hpa_goto (by rfl) ?_
                  exact ih15 z24 (.int (huW D (huX (Int32.ofNat n) ro (Int32.ofNat h) (ro 70)) (ro (29 + h)))) A23 h (by omega) (by omega) hLA23 UA23 HA23
                ·
                  have dy0 : huDy D n ro b a4 h = true := by unfold huDy; rw [bt, decide_eq_true z60, decide_eq_true q22]; rfl
                  rw [dy0, if_pos rfl] at gr0
                  refine hpa_aload_n (by rfl) rfl ?_
                  refine hpa_get (v := .ref 33) (by rfl) (by rfl) (by rfl) rfl ?_
                  refine hpa_iload (by rfl) rfl ?_
                  refine hpa_aload_n (by rfl) rfl ?_
                  refine hpj_getK (by rfl) (hsT hT) (by rfl) rfl ?_
                  have hCA20 : hdK T D A20 := hC.uf hT UA20 (by decide +kernel)
                  have t6 : (A20.1 T 6) = Int32.ofInt D.2.1 := by obtain ⟨kw, V, ns, zz, k1, k2, kM, k3⟩ := hCA20; exact Int32.toInt_inj.mp (kM.2.2.1.2.1.trans (hs_ofInt hD2.1 hD2.2).symm)
                  rw [t6]
                  refine hpx_iast (by rfl) (by rfl) (fun A25 h0A25 h1A25 eA25 fA25 gA25 => ?_)
                  have UA25 := (UA20).ar eA25 fA25 gA25 (by decide +kernel)
                  have HA25 := (HA20).e (congrArg (fun q => q.2) gA25)
                  rw [cih] at fA25
                  refine hpa_aload_n (by rfl) rfl ?_
                  refine hpa_dupR (by rfl) ?_
                  refine hpj_getK (by rfl) (by rfl) (by rfl) rfl ?_
                  refine hpa_iconst (by rfl) rfl ?_
                  refine hpa_iadd (by rfl) ?_
                  refine hpj_putI (by rfl) (by rfl) (by rfl) (by rfl) (fun A26 eA26 fA26 => ?_)
                  have UA26 := (UA25).put eA26 fA26 (by decide +kernel)
                  have HA26 := (HA25).e (congrArg (fun q => q.2.2) fA26)
                  refine hpa_aload_n (by rfl) rfl ?_
                  refine hpa_iload (by rfl) rfl ?_
                  refine hpa_iload (by rfl) rfl ?_
                  refine hpa_call0 (by rfl) (by rfl) (by rfl) (by rfl) (by rfl) (by rfl) (uf_C (X := ug_x142) (j := 142) rfl rfl (ug_L.cons (uf_rk_ok (by decide +kernel)) (uf_int (uf_int uf_nil))) HA26 (hP23_26 (Int32.ofNat h) (huW D (huX (Int32.ofNat n) ro (Int32.ofNat h) (ro 70)) (ro (29 + h))) rfl (by omega))) ?_
                  rintro _ A27 ⟨⟨rfl, CH_A27⟩, wA27, HA27⟩
                  have UA27 := (UA26).trans (wA27.le (by decide +kernel : ug_wle ug_x142.2.2.2.1 uM26_26 = true))
                  have had0 : A20.2.1 29 h = ro (40 + h) := (hLA20.2.2.2.2 h hh).1.2.2.trans old.2.1
                  have wan0 : A20.2.1 27 h = ro h := (hLA20.2.2.2.2 h hh).1.1.trans (huRm_low h10 (by omega))
                  have had1 : A26.2.1 29 h = ro (40 + h) := by rw [fA26, fA25, hup2 (by omega)]; exact had0
                  have wan1 : A26.2.1 27 h = ro h := by rw [fA26, fA25, hup2 (by omega)]; exact wan0
                  have hLA27 : hdL 26 (huRm D n b a4 ro h) n A27 := hLA20.step hh (by rw [dy0, if_pos rfl, CH_A27.1, eA26, hup1, eA25]) (fun k a1_ b1_ => by rw [CH_A27.1, eA26, hup2 (by omega), eA25]) (CH_A27.2.1.trans p7) (by rw [CH_A27.2.2.1, p7, had1, wan1]) (by rw [CH_A27.2.2.2 32 h (by omega) (by omega), fA26, fA25, hup1, gr0]) (fun j x j1 j6 x10 hne => by rw [CH_A27.2.2.2 _ _ (by omega) (by omega), fA26, fA25, hup2 (by omega)])
                  refine hpj_iinc (by rfl) rfl ch hk_4294967295 (by omega) (by omega) (fun _ => rfl) (fun z28 ez28 => ?_)
                  refine hpa_goto (by rfl) ?_
                  exact ih15 z28 (.int (huW D (huX (Int32.ofNat n) ro (Int32.ofNat h) (ro 70)) (ro (29 + h)))) A27 h (by omega) (by omega) hLA27 UA27 HA27
            ·
              have gr0 : huGr D n ro b a4 h = ro (60 + h) - Int32.ofNat 1 := by unfold huGr; rw [if_pos q14]
              have dy0 : huDy D n ro b a4 h = false := by unfold huDy; rw [decide_eq_false (by omega : ¬ (ro (60 + h)).toInt = 0), Bool.false_and, Bool.and_false]
              refine hpa_aload_n (by rfl) rfl ?_
              refine hpa_get (v := .ref 33) (by rfl) (by rfl) (by rfl) rfl ?_
              refine hpa_iload (by rfl) rfl ?_
              refine hpa_dup2IR (by rfl) ?_
              refine hpx_iald (by rfl) (by rfl) (fun h0v29 h1v29 v29 ev29 => ?_)
              rw [cih] at ev29
              have lv29 := ev29.symm.trans ((hLA11.2.2.2.2 h hh).2.2.2.trans old.2.2)
              clear ev29
              subst lv29
              refine hpa_iconst (by rfl) rfl ?_
              refine hpa_isub (by rfl) ?_
              refine hpx_iast (by rfl) (by rfl) (fun A30 h0A30 h1A30 eA30 fA30 gA30 => ?_)
              have UA30 := (UA11).ar eA30 fA30 gA30 (by decide +kernel)
              have HA30 := (HA11).e (congrArg (fun q => q.2) gA30)
              rw [cih] at fA30
              refine hpa_goto (by rfl) ?_
              refine hpa_aload_n (by rfl) rfl ?_
              refine hpa_iload (by rfl) rfl ?_
              refine hpa_iload (by rfl) rfl ?_
              refine hpa_call0 (by rfl) (by rfl) (by rfl) (by rfl) (by rfl) (by rfl) (uf_C (X := ug_x142) (j := 142) rfl rfl (ug_L.cons (uf_rk_ok (by decide +kernel)) (uf_int (uf_int uf_nil))) HA30 (hP23_26 (Int32.ofNat h) (huW D (huX (Int32.ofNat n) ro (Int32.ofNat h) (ro 70)) (ro (29 + h))) rfl (by omega))) ?_
              rintro _ A31 ⟨⟨rfl, CH_A31⟩, wA31, HA31⟩
              have UA31 := (UA30).trans (wA31.le (by decide +kernel : ug_wle ug_x142.2.2.2.1 uM26_26 = true))
              have had0 : A11.2.1 29 h = ro (40 + h) := (hLA11.2.2.2.2 h hh).1.2.2.trans old.2.1
              have wan0 : A11.2.1 27 h = ro h := (hLA11.2.2.2.2 h hh).1.1.trans (huRm_low h10 (by omega))
              have had1 : A30.2.1 29 h = ro (40 + h) := by rw [fA30, hup2 (by omega)]; exact had0
              have wan1 : A30.2.1 27 h = ro h := by rw [fA30, hup2 (by omega)]; exact wan0
              have hLA31 : hdL 26 (huRm D n b a4 ro h) n A31 := hLA11.step hh (by rw [dy0, if_neg (by decide), CH_A31.1, eA30]) (fun k a1_ b1_ => by rw [CH_A31.1, eA30]) (CH_A31.2.1.trans p7) (by rw [CH_A31.2.2.1, p7, had1, wan1]) (by rw [CH_A31.2.2.2 32 h (by omega) (by omega), fA30, hup1, gr0]) (fun j x j1 j6 x10 hne => by rw [CH_A31.2.2.2 _ _ (by omega) (by omega), fA30, hup2 (by omega)])
              refine hpj_iinc (by rfl) rfl ch hk_4294967295 (by omega) (by omega) (fun _ => rfl) (fun z32 ez32 => ?_)
              refine hpa_goto (by rfl) ?_
              exact ih15 z32 (.int (huW D (huX (Int32.ofNat n) ro (Int32.ofNat h) (ro 70)) (ro (29 + h)))) A31 h (by omega) (by omega) hLA31 UA31 HA31
          ·
            rw [if_pos (by omega)] at hd0
            refine hpa_iload (by rfl) rfl ?_
            refine hpa_goto (by rfl) ?_
            refine hpa_s1 (by rfl) (Or.inr ⟨_, rfl, rfl⟩) rfl ?_
            have p7 : (huN D ro) = huHd D n ro h := hd0.symm
            refine hpa_aload_n (by rfl) rfl ?_
            refine hpa_get (v := .ref 33) (by rfl) (by rfl) (by rfl) rfl ?_
            refine hpa_iload (by rfl) rfl ?_
            refine hpx_iald (by rfl) (by rfl) (fun h0v33 h1v33 v33 ev33 => ?_)
            rw [cih] at ev33
            have lv33 := ev33.symm.trans ((hLA4.2.2.2.2 h hh).2.2.2.trans old.2.2)
            clear ev33
            subst lv33
            refine hpj_zle (by rfl) rfl (fun q34 => ?_) (fun q34 => ?_)
            ·
              have z60 : (ro (60 + h)).toInt = 0 := by omega
              have gr0 : huGr D n ro b a4 h = if huDy D n ro b a4 h then Int32.ofInt D.2.1 else ro (60 + h) := by unfold huGr; rw [if_neg (by omega)]
              refine hpa_iload_n (by rfl) rfl ?_
              refine hpj_zeq (by rfl) rfl (fun q35 => ?_) (fun q35 => ?_)
              ·
                have bf : b = false := by cases b with | false => rfl | true => rw [if_pos rfl] at hb; exact absurd hb (by omega)
                have dy0 : huDy D n ro b a4 h = false := by unfold huDy; rw [bf, Bool.false_and]
                rw [dy0, if_neg (by decide)] at gr0
                refine hpa_aload_n (by rfl) rfl ?_
                refine hpa_iload (by rfl) rfl ?_
                refine hpa_iload (by rfl) rfl ?_
                refine hpa_call0 (by rfl) (by rfl) (by rfl) (by rfl) (by rfl) (by rfl) (uf_C (X := ug_x142) (j := 142) rfl rfl (ug_L.cons (uf_rk_ok (by decide +kernel)) (uf_int (uf_int uf_nil))) HA4 (hP23_26 (Int32.ofNat h) (huN D ro) rfl (by omega))) ?_
                rintro _ A36 ⟨⟨rfl, CH_A36⟩, wA36, HA36⟩
                have UA36 := (UA4).trans (wA36.le (by decide +kernel : ug_wle ug_x142.2.2.2.1 uM26_26 = true))
                have had0 : A4.2.1 29 h = ro (40 + h) := (hLA4.2.2.2.2 h hh).1.2.2.trans old.2.1
                have wan0 : A4.2.1 27 h = ro h := (hLA4.2.2.2.2 h hh).1.1.trans (huRm_low h10 (by omega))
                have had1 := had0
                have wan1 := wan0
                have hLA36 : hdL 26 (huRm D n b a4 ro h) n A36 := hLA4.step hh (by rw [dy0, if_neg (by decide), CH_A36.1]) (fun k a1_ b1_ => by rw [CH_A36.1]) (CH_A36.2.1.trans p7) (by rw [CH_A36.2.2.1, p7, had1, wan1]) (by rw [CH_A36.2.2.2 32 h (by omega) (by omega), gr0, ← old.2.2]; exact (hLA4.2.2.2.2 h hh).2.2.2) (fun j x j1 j6 x10 hne => by rw [CH_A36.2.2.2 _ _ (by omega) (by omega)])
                refine hpj_iinc (by rfl) rfl ch hk_4294967295 (by omega) (by omega) (fun _ => rfl) (fun z37 ez37 => ?_)
                refine hpa_goto (by rfl) ?_
                exact ih15 z37 (.int (huN D ro)) A36 h (by omega) (by omega) hLA36 UA36 HA36
              ·
                have bt : b = true := by cases b with | true => rfl | false => rw [if_neg (by decide)] at hb; exact absurd hb (by omega)
                refine hpa_iload (by rfl) rfl ?_
                refine hpa_bipush (by rfl) rfl ?_
                refine hpa_aload_n (by rfl) rfl ?_
                refine hpj_getK (by rfl) (by rfl) (by rfl) rfl ?_
                rw [show (A4.1 26 7) = ro 70 from hLA4.2.2.1.1.trans (huRm_low h10 (by omega))]
                refine hpa_imul (by rfl) ?_
                refine hpa_iload (by rfl) rfl ?_
                refine hpa_iadd (by rfl) ?_
                refine hpa_call2 (by rfl) (by decide) (by rfl) (by rfl) (by rfl) (uf_C (X := ug_x240) (j := 240) rfl rfl (uf_int (uf_int uf_nil)) HA4 (hP27 a4 (((Int32.ofNat 16) * (ro 70)) + (Int32.ofNat h)))) ?_
                rintro _ _ ⟨⟨rfl, z39, rfl, Z_A38⟩, -, -⟩
                subst Z_A38
                refine hpa_aload_n (by rfl) rfl ?_
                have hCA4 : hdK T D A4 := hC.uf hT UA4 (by decide +kernel)
                refine hpa_call0 (by rfl) (by rfl) (by rfl) (by rfl) (by rfl) (by rfl) (uf_C (X := ug_x192) (j := 192) rfl rfl (ug_L.cons (uf_rk_ok (by decide +kernel)) uf_nil) HA4 (hP4 hT hCA4 SSA4.1 HA4)) ?_
                rintro _ A40 ⟨⟨z41, rfl, Z_A40, VV_A40, FR_A40⟩, wA40, HA40⟩
                have UA40 := (UA4).trans (wA40.le (by decide +kernel : ug_wle ug_x192.2.2.2.1 uM26_26 = true))
                have hLA40 := hLA4.uf hLL_26 wA40 (by decide +kernel)
                subst Z_A40
                refine hpj_cge (by rfl) rfl rfl (fun q42 => ?_) (fun q42 => ?_)
                ·
                  have dy0 : huDy D n ro b a4 h = false := by unfold huDy; rw [decide_eq_false (show ¬ (huLt a4 (Int32.ofNat 16 * ro 70 + Int32.ofNat h)).toInt < (huE D (huX (Int32.ofNat n) ro (Int32.ofNat h) (ro 70))).toInt from Int.not_lt.mpr q42), Bool.and_false, Bool.and_false]
                  rw [dy0, if_neg (by decide)] at gr0
                  refine hpa_aload_n (by rfl) rfl ?_
                  refine hpa_iload (by rfl) rfl ?_
                  refine hpa_iload (by rfl) rfl ?_
                  refine hpa_call0 (by rfl) (by rfl) (by rfl) (by rfl) (by rfl) (by rfl) (uf_C (X := ug_x142) (j := 142) rfl rfl (ug_L.cons (uf_rk_ok (by decide +kernel)) (uf_int (uf_int uf_nil))) HA40 (hP23_26 (Int32.ofNat h) (huN D ro) rfl (by omega))) ?_
                  rintro _ A43 ⟨⟨rfl, CH_A43⟩, wA43, HA43⟩
                  have UA43 := (UA40).trans (wA43.le (by decide +kernel : ug_wle ug_x142.2.2.2.1 uM26_26 = true))
                  have had0 : A40.2.1 29 h = ro (40 + h) := (hLA40.2.2.2.2 h hh).1.2.2.trans old.2.1
                  have wan0 : A40.2.1 27 h = ro h := (hLA40.2.2.2.2 h hh).1.1.trans (huRm_low h10 (by omega))
                  have had1 := had0
                  have wan1 := wan0
                  have hLA43 : hdL 26 (huRm D n b a4 ro h) n A43 := hLA40.step hh (by rw [dy0, if_neg (by decide), CH_A43.1]) (fun k a1_ b1_ => by rw [CH_A43.1]) (CH_A43.2.1.trans p7) (by rw [CH_A43.2.2.1, p7, had1, wan1]) (by rw [CH_A43.2.2.2 32 h (by omega) (by omega), gr0, ← old.2.2]; exact (hLA40.2.2.2.2 h hh).2.2.2) (fun j x j1 j6 x10 hne => by rw [CH_A43.2.2.2 _ _ (by omega) (by omega)])
                  refine hpj_iinc (by rfl) rfl ch hk_4294967295 (by omega) (by omega) (fun _ => rfl) (fun z44 ez44 => ?_)
                  refine hpa_goto (by rfl) ?_
                  exact ih15 z44 (.int (huN D ro)) A43 h (by omega) (by omega) hLA43 UA43 HA43
                ·
                  have dy0 : huDy D n ro b a4 h = true := by unfold huDy; rw [bt, decide_eq_true z60, decide_eq_true q42]; rfl
                  rw [dy0, if_pos rfl] at gr0
                  refine hpa_aload_n (by rfl) rfl ?_
                  refine hpa_get (v := .ref 33) (by rfl) (by rfl) (by rfl) rfl ?_
                  refine hpa_iload (by rfl) rfl ?_
                  refine hpa_aload_n (by rfl) rfl ?_
                  refine hpj_getK (by rfl) (hsT hT) (by rfl) rfl ?_
                  have hCA40 : hdK T D A40 := hC.uf hT UA40 (by decide +kernel)
                  have t6 : (A40.1 T 6) = Int32.ofInt D.2.1 := by obtain ⟨kw, V, ns, zz, k1, k2, kM, k3⟩ := hCA40; exact Int32.toInt_inj.mp (kM.2.2.1.2.1.trans (hs_ofInt hD2.1 hD2.2).symm)
                  rw [t6]
                  refine hpx_iast (by rfl) (by rfl) (fun A45 h0A45 h1A45 eA45 fA45 gA45 => ?_)
                  have UA45 := (UA40).ar eA45 fA45 gA45 (by decide +kernel)
                  have HA45 := (HA40).e (congrArg (fun q => q.2) gA45)
                  rw [cih] at fA45
                  refine hpa_aload_n (by rfl) rfl ?_
                  refine hpa_dupR (by rfl) ?_
                  refine hpj_getK (by rfl) (by rfl) (by rfl) rfl ?_
                  refine hpa_iconst (by rfl) rfl ?_
                  refine hpa_iadd (by rfl) ?_
                  refine hpj_putI (by rfl) (by rfl) (by rfl) (by rfl) (fun A46 eA46 fA46 => ?_)
                  have UA46 := (UA45).put eA46 fA46 (by decide +kernel)
                  have HA46 := (HA45).e (congrArg (fun q => q.2.2) fA46)
                  refine hpa_aload_n (by rfl) rfl ?_
                  refine hpa_iload (by rfl) rfl ?_
                  refine hpa_iload (by rfl) rfl ?_
                  refine hpa_call0 (by rfl) (by rfl) (by rfl) (by rfl) (by rfl) (by rfl) (uf_C (X := ug_x142) (j := 142) rfl rfl (ug_L.cons (uf_rk_ok (by decide +kernel)) (uf_int (uf_int uf_nil))) HA46 (hP23_26 (Int32.ofNat h) (huN D ro) rfl (by omega))) ?_
                  rintro _ A47 ⟨⟨rfl, CH_A47⟩, wA47, HA47⟩
                  have UA47 := (UA46).trans (wA47.le (by decide +kernel : ug_wle ug_x142.2.2.2.1 uM26_26 = true))
                  have had0 : A40.2.1 29 h = ro (40 + h) := (hLA40.2.2.2.2 h hh).1.2.2.trans old.2.1
                  have wan0 : A40.2.1 27 h = ro h := (hLA40.2.2.2.2 h hh).1.1.trans (huRm_low h10 (by omega))
                  have had1 : A46.2.1 29 h = ro (40 + h) := by rw [fA46, fA45, hup2 (by omega)]; exact had0
                  have wan1 : A46.2.1 27 h = ro h := by rw [fA46, fA45, hup2 (by omega)]; exact wan0
                  have hLA47 : hdL 26 (huRm D n b a4 ro h) n A47 := hLA40.step hh (by rw [dy0, if_pos rfl, CH_A47.1, eA46, hup1, eA45]) (fun k a1_ b1_ => by rw [CH_A47.1, eA46, hup2 (by omega), eA45]) (CH_A47.2.1.trans p7) (by rw [CH_A47.2.2.1, p7, had1, wan1]) (by rw [CH_A47.2.2.2 32 h (by omega) (by omega), fA46, fA45, hup1, gr0]) (fun j x j1 j6 x10 hne => by rw [CH_A47.2.2.2 _ _ (by omega) (by omega), fA46, fA45, hup2 (by omega)])
                  refine hpj_iinc (by rfl) rfl ch hk_4294967295 (by omega) (by omega) (fun _ => rfl) (fun z48 ez48 => ?_)
                  refine hpa_goto (by rfl) ?_
                  exact ih15 z48 (.int (huN D ro)) A47 h (by omega) (by omega) hLA47 UA47 HA47
            ·
              have gr0 : huGr D n ro b a4 h = ro (60 + h) - Int32.ofNat 1 := by unfold huGr; rw [if_pos q34]
              have dy0 : huDy D n ro b a4 h = false := by unfold huDy; rw [decide_eq_false (by omega : ¬ (ro (60 + h)).toInt = 0), Bool.false_and, Bool.and_false]
              refine hpa_aload_n (by rfl) rfl ?_
              refine hpa_get (v := .ref 33) (by rfl) (by rfl) (by rfl) rfl ?_
              refine hpa_iload (by rfl) rfl ?_
              refine hpa_dup2IR (by rfl) ?_
              refine hpx_iald (by rfl) (by rfl) (fun h0v49 h1v49 v49 ev49 => ?_)
              rw [cih] at ev49
              have lv49 := ev49.symm.trans ((hLA4.2.2.2.2 h hh).2.2.2.trans old.2.2)
              clear ev49
              subst lv49
              refine hpa_iconst (by rfl) rfl ?_
              refine hpa_isub (by rfl) ?_
              refine hpx_iast (by rfl) (by rfl) (fun A50 h0A50 h1A50 eA50 fA50 gA50 => ?_)
              have UA50 := (UA4).ar eA50 fA50 gA50 (by decide +kernel)
              have HA50 := (HA4).e (congrArg (fun q => q.2) gA50)
              rw [cih] at fA50
              refine hpa_goto (by rfl) ?_
              refine hpa_aload_n (by rfl) rfl ?_
              refine hpa_iload (by rfl) rfl ?_
              refine hpa_iload (by rfl) rfl ?_
              refine hpa_call0 (by rfl) (by rfl) (by rfl) (by rfl) (by rfl) (by rfl) (uf_C (X := ug_x142) (j := 142) rfl rfl (ug_L.cons (uf_rk_ok (by decide +kernel)) (uf_int (uf_int uf_nil))) HA50 (hP23_26 (Int32.ofNat h) (huN D ro) rfl (by omega))) ?_
              rintro _ A51 ⟨⟨rfl, CH_A51⟩, wA51, HA51⟩
              have UA51 := (UA50).trans (wA51.le (by decide +kernel : ug_wle ug_x142.2.2.2.1 uM26_26 = true))
              have had0 : A4.2.1 29 h = ro (40 + h) := (hLA4.2.2.2.2 h hh).1.2.2.trans old.2.1
              have wan0 : A4.2.1 27 h = ro h := (hLA4.2.2.2.2 h hh).1.1.trans (huRm_low h10 (by omega))
              have had1 : A50.2.1 29 h = ro (40 + h) := by rw [fA50, hup2 (by omega)]; exact had0
              have wan1 : A50.2.1 27 h = ro h := by rw [fA50, hup2 (by omega)]; exact wan0
              have hLA51 : hdL 26 (huRm D n b a4 ro h) n A51 := hLA4.step hh (by rw [dy0, if_neg (by decide), CH_A51.1, eA50]) (fun k a1_ b1_ => by rw [CH_A51.1, eA50]) (CH_A51.2.1.trans p7) (by rw [CH_A51.2.2.1, p7, had1, wan1]) (by rw [CH_A51.2.2.2 32 h (by omega) (by omega), fA50, hup1, gr0]) (fun j x j1 j6 x10 hne => by rw [CH_A51.2.2.2 _ _ (by omega) (by omega), fA50, hup2 (by omega)])
              refine hpj_iinc (by rfl) rfl ch hk_4294967295 (by omega) (by omega) (fun _ => rfl) (fun z52 ez52 => ?_)
              refine hpa_goto (by rfl) ?_
              exact ih15 z52 (.int (huN D ro)) A51 h (by omega) (by omega) hLA51 UA51 HA51
        ·
          rw [hHh] at HE_A5
          have hd0 : huHd D n ro h = Int32.ofNat 0 := by unfold huHd; rw [HE_A5]; rfl
          refine hpj_zeq (by rfl) rfl (fun q53 => ?_) (fun q53 => False.elim (by omega))
          have p7 : (Int32.ofNat 0) = huHd D n ro h := hd0.symm
          refine hpa_aload_n (by rfl) rfl ?_
          refine hpa_get (v := .ref 33) (by rfl) (by rfl) (by rfl) rfl ?_
          refine hpa_iload (by rfl) rfl ?_
          refine hpx_iald (by rfl) (by rfl) (fun h0v54 h1v54 v54 ev54 => ?_)
          rw [cih] at ev54
          have lv54 := ev54.symm.trans ((hLA4.2.2.2.2 h hh).2.2.2.trans old.2.2)
          clear ev54
          subst lv54
          refine hpj_zle (by rfl) rfl (fun q55 => ?_) (fun q55 => ?_)
          ·
            have z60 : (ro (60 + h)).toInt = 0 := by omega
            have gr0 : huGr D n ro b a4 h = if huDy D n ro b a4 h then Int32.ofInt D.2.1 else ro (60 + h) := by unfold huGr; rw [if_neg (by omega)]
            refine hpa_iload_n (by rfl) rfl ?_
            refine hpj_zeq (by rfl) rfl (fun q56 => ?_) (fun q56 => ?_)
            ·
              have bf : b = false := by cases b with | false => rfl | true => rw [if_pos rfl] at hb; exact absurd hb (by omega)
              have dy0 : huDy D n ro b a4 h = false := by unfold huDy; rw [bf, Bool.false_and]
              rw [dy0, if_neg (by decide)] at gr0
              refine hpa_aload_n (by rfl) rfl ?_
              refine hpa_iload (by rfl) rfl ?_
              refine hpa_iload (by rfl) rfl ?_
              refine hpa_call0 (by rfl) (by rfl) (by rfl) (by rfl) (by rfl) (by rfl) (uf_C (X := ug_x142) (j := 142) rfl rfl (ug_L.cons (uf_rk_ok (by decide +kernel)) (uf_int (uf_int uf_nil))) HA4 (hP23_26 (Int32.ofNat h) (Int32.ofNat 0) rfl (by omega))) ?_
              rintro _ A57 ⟨⟨rfl, CH_A57⟩, wA57, HA57⟩
              have UA57 := (UA4).trans (wA57.le (by decide +kernel : ug_wle ug_x142.2.2.2.1 uM26_26 = true))
              have had0 : A4.2.1 29 h = ro (40 + h) := (hLA4.2.2.2.2 h hh).1.2.2.trans old.2.1
              have wan0 : A4.2.1 27 h = ro h := (hLA4.2.2.2.2 h hh).1.1.trans (huRm_low h10 (by omega))
              have had1 := had0
              have wan1 := wan0
              have hLA57 : hdL 26 (huRm D n b a4 ro h) n A57 := hLA4.step hh (by rw [dy0, if_neg (by decide), CH_A57.1]) (fun k a1_ b1_ => by rw [CH_A57.1]) (CH_A57.2.1.trans p7) (by rw [CH_A57.2.2.1, p7, had1, wan1]) (by rw [CH_A57.2.2.2 32 h (by omega) (by omega), gr0, ← old.2.2]; exact (hLA4.2.2.2.2 h hh).2.2.2) (fun j x j1 j6 x10 hne => by rw [CH_A57.2.2.2 _ _ (by omega) (by omega)])
              refine hpj_iinc (by rfl) rfl ch hk_4294967295 (by omega) (by omega) (fun _ => rfl) (fun z58 ez58 => ?_)
              refine hpa_goto (by rfl) ?_
              exact ih15 z58 (.int (Int32.ofNat 0)) A57 h (by omega) (by omega) hLA57 UA57 HA57
            ·
              have bt : b = true := by cases b with | true => rfl | false => rw [if_neg (by decide)] at hb; exact absurd hb (by omega)
              refine hpa_iload (by rfl) rfl ?_
              refine hpa_bipush (by rfl) rfl ?_
              refine hpa_aload_n (by rfl) rfl ?_
              refine hpj_getK (by rfl) (by rfl) (by rfl) rfl ?_
              rw [show (A4.1 26 7) = ro 70 from hLA4.2.2.1.1.trans (huRm_low h10 (by omega))]
              refine hpa_imul (by rfl) ?_
              refine hpa_iload (by rfl) rfl ?_
              refine hpa_iadd (by rfl) ?_
              refine hpa_call2 (by rfl) (by decide) (by rfl) (by rfl) (by rfl) (uf_C (X := ug_x240) (j := 240) rfl rfl (uf_int (uf_int uf_nil)) HA4 (hP27 a4 (((Int32.ofNat 16) * (ro 70)) + (Int32.ofNat h)))) ?_
              rintro _ _ ⟨⟨rfl, z60, rfl, Z_A59⟩, -, -⟩
              subst Z_A59
              refine hpa_aload_n (by rfl) rfl ?_
              have hCA4 : hdK T D A4 := hC.uf hT UA4 (by decide +kernel)
              refine hpa_call0 (by rfl) (by rfl) (by rfl) (by rfl) (by rfl) (by rfl) (uf_C (X := ug_x192) (j := 192) rfl rfl (ug_L.cons (uf_rk_ok (by decide +kernel)) uf_nil) HA4 (hP4 hT hCA4 SSA4.1 HA4)) ?_
              rintro _ A61 ⟨⟨z62, rfl, Z_A61, VV_A61, FR_A61⟩, wA61, HA61⟩
              have UA61 := (UA4).trans (wA61.le (by decide +kernel : ug_wle ug_x192.2.2.2.1 uM26_26 = true))
              have hLA61 := hLA4.uf hLL_26 wA61 (by decide +kernel)
              subst Z_A61
              refine hpj_cge (by rfl) rfl rfl (fun q63 => ?_) (fun q63 => ?_)
              ·
                have dy0 : huDy D n ro b a4 h = false := by unfold huDy; rw [decide_eq_false (show ¬ (huLt a4 (Int32.ofNat 16 * ro 70 + Int32.ofNat h)).toInt < (huE D (huX (Int32.ofNat n) ro (Int32.ofNat h) (ro 70))).toInt from Int.not_lt.mpr q63), Bool.and_false, Bool.and_false]
                rw [dy0, if_neg (by decide)] at gr0
                refine hpa_aload_n (by rfl) rfl ?_
                refine hpa_iload (by rfl) rfl ?_
                refine hpa_iload (by rfl) rfl ?_
                refine hpa_call0 (by rfl) (by rfl) (by rfl) (by rfl) (by rfl) (by rfl) (uf_C (X := ug_x142) (j := 142) rfl rfl (ug_L.cons (uf_rk_ok (by decide +kernel)) (uf_int (uf_int uf_nil))) HA61 (hP23_26 (Int32.ofNat h) (Int32.ofNat 0) rfl (by omega))) ?_
                rintro _ A64 ⟨⟨rfl, CH_A64⟩, wA64, HA64⟩
                have UA64 := (UA61).trans (wA64.le (by decide +kernel : ug_wle ug_x142.2.2.2.1 uM26_26 = true))
                have had0 : A61.2.1 29 h = ro (40 + h) := (hLA61.2.2.2.2 h hh).1.2.2.trans old.2.1
                have wan0 : A61.2.1 27 h = ro h := (hLA61.2.2.2.2 h hh).1.1.trans (huRm_low h10 (by omega))
                have had1 := had0
                have wan1 := wan0
                have hLA64 : hdL 26 (huRm D n b a4 ro h) n A64 := hLA61.step hh (by rw [dy0, if_neg (by decide), CH_A64.1]) (fun k a1_ b1_ => by rw [CH_A64.1]) (CH_A64.2.1.trans p7) (by rw [CH_A64.2.2.1, p7, had1, wan1]) (by rw [CH_A64.2.2.2 32 h (by omega) (by omega), gr0, ← old.2.2]; exact (hLA61.2.2.2.2 h hh).2.2.2) (fun j x j1 j6 x10 hne => by rw [CH_A64.2.2.2 _ _ (by omega) (by omega)])
                refine hpj_iinc (by rfl) rfl ch hk_4294967295 (by omega) (by omega) (fun _ => rfl) (fun z65 ez65 => ?_)
                refine hpa_goto (by rfl) ?_
                exact ih15 z65 (.int (Int32.ofNat 0)) A64 h (by omega) (by omega) hLA64 UA64 HA64
              ·
                have dy0 : huDy D n ro b a4 h = true := by unfold huDy; rw [bt, decide_eq_true z60, decide_eq_true q63]; rfl
                rw [dy0, if_pos rfl] at gr0
                refine hpa_aload_n (by rfl) rfl ?_
                refine hpa_get (v := .ref 33) (by rfl) (by rfl) (by rfl) rfl ?_
                refine hpa_iload (by rfl) rfl ?_
                refine hpa_aload_n (by rfl) rfl ?_
                refine hpj_getK (by rfl) (hsT hT) (by rfl) rfl ?_
                have hCA61 : hdK T D A61 := hC.uf hT UA61 (by decide +kernel)
                have t6 : (A61.1 T 6) = Int32.ofInt D.2.1 := by obtain ⟨kw, V, ns, zz, k1, k2, kM, k3⟩ := hCA61; exact Int32.toInt_inj.mp (kM.2.2.1.2.1.trans (hs_ofInt hD2.1 hD2.2).symm)
                rw [t6]
                refine hpx_iast (by rfl) (by rfl) (fun A66 h0A66 h1A66 eA66 fA66 gA66 => ?_)
                have UA66 := (UA61).ar eA66 fA66 gA66 (by decide +kernel)
                have HA66 := (HA61).e (congrArg (fun q => q.2) gA66)
                rw [cih] at fA66
                refine hpa_aload_n (by rfl) rfl ?_
                refine hpa_dupR (by rfl) ?_
                refine hpj_getK (by rfl) (by rfl) (by rfl) rfl ?_
                refine hpa_iconst (by rfl) rfl ?_
                refine hpa_iadd (by rfl) ?_
                refine hpj_putI (by rfl) (by rfl) (by rfl) (by rfl) (fun A67 eA67 fA67 => ?_)
                have UA67 := (UA66).put eA67 fA67 (by decide +kernel)
                have HA67 := (HA66).e (congrArg (fun q => q.2.2) fA67)
                refine hpa_aload_n (by rfl) rfl ?_
                refine hpa_iload (by rfl) rfl ?_
                refine hpa_iload (by rfl) rfl ?_
                refine hpa_call0 (by rfl) (by rfl) (by rfl) (by rfl) (by rfl) (by rfl) (uf_C (X := ug_x142) (j := 142) rfl rfl (ug_L.cons (uf_rk_ok (by decide +kernel)) (uf_int (uf_int uf_nil))) HA67 (hP23_26 (Int32.ofNat h) (Int32.ofNat 0) rfl (by omega))) ?_
                rintro _ A68 ⟨⟨rfl, CH_A68⟩, wA68, HA68⟩
                have UA68 := (UA67).trans (wA68.le (by decide +kernel : ug_wle ug_x142.2.2.2.1 uM26_26 = true))
                have had0 : A61.2.1 29 h = ro (40 + h) := (hLA61.2.2.2.2 h hh).1.2.2.trans old.2.1
                have wan0 : A61.2.1 27 h = ro h := (hLA61.2.2.2.2 h hh).1.1.trans (huRm_low h10 (by omega))
                have had1 : A67.2.1 29 h = ro (40 + h) := by rw [fA67, fA66, hup2 (by omega)]; exact had0
                have wan1 : A67.2.1 27 h = ro h := by rw [fA67, fA66, hup2 (by omega)]; exact wan0
                have hLA68 : hdL 26 (huRm D n b a4 ro h) n A68 := hLA61.step hh (by rw [dy0, if_pos rfl, CH_A68.1, eA67, hup1, eA66]) (fun k a1_ b1_ => by rw [CH_A68.1, eA67, hup2 (by omega), eA66]) (CH_A68.2.1.trans p7) (by rw [CH_A68.2.2.1, p7, had1, wan1]) (by rw [CH_A68.2.2.2 32 h (by omega) (by omega), fA67, fA66, hup1, gr0]) (fun j x j1 j6 x10 hne => by rw [CH_A68.2.2.2 _ _ (by omega) (by omega), fA67, fA66, hup2 (by omega)])
                refine hpj_iinc (by rfl) rfl ch hk_4294967295 (by omega) (by omega) (fun _ => rfl) (fun z69 ez69 => ?_)
                refine hpa_goto (by rfl) ?_
                exact ih15 z69 (.int (Int32.ofNat 0)) A68 h (by omega) (by omega) hLA68 UA68 HA68
          ·
            have gr0 : huGr D n ro b a4 h = ro (60 + h) - Int32.ofNat 1 := by unfold huGr; rw [if_pos q55]
            have dy0 : huDy D n ro b a4 h = false := by unfold huDy; rw [decide_eq_false (by omega : ¬ (ro (60 + h)).toInt = 0), Bool.false_and, Bool.and_false]
            refine hpa_aload_n (by rfl) rfl ?_
            refine hpa_get (v := .ref 33) (by rfl) (by rfl) (by rfl) rfl ?_
            refine hpa_iload (by rfl) rfl ?_
            refine hpa_dup2IR (by rfl) ?_
            refine hpx_iald (by rfl) (by rfl) (fun h0v70 h1v70 v70 ev70 => ?_)
            rw [cih] at ev70
            have lv70 := ev70.symm.trans ((hLA4.2.2.2.2 h hh).2.2.2.trans old.2.2)
            clear ev70
            subst lv70
            refine hpa_iconst (by rfl) rfl ?_
            refine hpa_isub (by rfl) ?_
            refine hpx_iast (by rfl) (by rfl) (fun A71 h0A71 h1A71 eA71 fA71 gA71 => ?_)
            have UA71 := (UA4).ar eA71 fA71 gA71 (by decide +kernel)
            have HA71 := (HA4).e (congrArg (fun q => q.2) gA71)
            rw [cih] at fA71
            refine hpa_goto (by rfl) ?_
            refine hpa_aload_n (by rfl) rfl ?_
            refine hpa_iload (by rfl) rfl ?_
            refine hpa_iload (by rfl) rfl ?_
            refine hpa_call0 (by rfl) (by rfl) (by rfl) (by rfl) (by rfl) (by rfl) (uf_C (X := ug_x142) (j := 142) rfl rfl (ug_L.cons (uf_rk_ok (by decide +kernel)) (uf_int (uf_int uf_nil))) HA71 (hP23_26 (Int32.ofNat h) (Int32.ofNat 0) rfl (by omega))) ?_
            rintro _ A72 ⟨⟨rfl, CH_A72⟩, wA72, HA72⟩
            have UA72 := (UA71).trans (wA72.le (by decide +kernel : ug_wle ug_x142.2.2.2.1 uM26_26 = true))
            have had0 : A4.2.1 29 h = ro (40 + h) := (hLA4.2.2.2.2 h hh).1.2.2.trans old.2.1
            have wan0 : A4.2.1 27 h = ro h := (hLA4.2.2.2.2 h hh).1.1.trans (huRm_low h10 (by omega))
            have had1 : A71.2.1 29 h = ro (40 + h) := by rw [fA71, hup2 (by omega)]; exact had0
            have wan1 : A71.2.1 27 h = ro h := by rw [fA71, hup2 (by omega)]; exact wan0
            have hLA72 : hdL 26 (huRm D n b a4 ro h) n A72 := hLA4.step hh (by rw [dy0, if_neg (by decide), CH_A72.1, eA71]) (fun k a1_ b1_ => by rw [CH_A72.1, eA71]) (CH_A72.2.1.trans p7) (by rw [CH_A72.2.2.1, p7, had1, wan1]) (by rw [CH_A72.2.2.2 32 h (by omega) (by omega), fA71, hup1, gr0]) (fun j x j1 j6 x10 hne => by rw [CH_A72.2.2.2 _ _ (by omega) (by omega), fA71, hup2 (by omega)])
            refine hpj_iinc (by rfl) rfl ch hk_4294967295 (by omega) (by omega) (fun _ => rfl) (fun z73 ez73 => ?_)
            refine hpa_goto (by rfl) ?_
            exact ih15 z73 (.int (Int32.ofNat 0)) A72 h (by omega) (by omega) hLA72 UA72 HA72
  refine hpa_aload_n (by rfl) rfl ?_
  refine hpa_aload_n (by rfl) rfl ?_
  refine hpa_call0 (by rfl) (by rfl) (by rfl) (by rfl) (by rfl) (by rfl) (uf_C (X := ug_x111) (j := 111) rfl rfl (ug_L.cons (uf_rk_ok (by decide +kernel)) (ug_L.cons (by rcases hT with rfl | rfl <;> exact uf_rk_ok (by decide +kernel)) uf_nil)) hH0 (hP22_26 hT hC hL hO hD)) ?_
  rintro _ _ ⟨⟨rfl, z75, rfl, Z_A74, IN_A74⟩, -, -⟩
  subst Z_A74
  refine hpa_s1 (by rfl) (Or.inr ⟨_, rfl, rfl⟩) rfl ?_
  refine hpa_aload_n (by rfl) rfl ?_
  refine hpj_getK (by rfl) (by rfl) (by rfl) rfl ?_
  refine hpa_iconst (by rfl) rfl ?_
  refine hpj_isub (by rfl) hL.2.1 hk_1 (by omega) (by omega) (fun z76 ez76 => ?_)
  refine hpa_s1 (by rfl) (Or.inr ⟨_, rfl, rfl⟩) rfl ?_
  exact L15 _ z76 (.retAddr 0) A n (by omega) (by omega) (hL.mv (fun _ _ _ => rfl) (fun _ _ _ _ _ => rfl) (huRm_n h10)) U0 hH0
theorem hP26_26 {g d : Nat} {A : hs_A} {T : Nat} {D : hg_D} {ro : Nat → Int32} {n : Nat} {b : Bool} (a3 a4 : Int32) (hT : hTT T) (hC : hdK T D A) (hL : hdL 26 ro n A) (hO : huO ro n) (hD : ∀ t, t < 24 → 0 ≤ D.1 t ∧ D.1 t ≤ 255) (hD2 : 0 ≤ D.2.1 ∧ D.2.1 ≤ 10000) (hb : a3.toInt = if b then 1 else 0) (hTn : (A.1 T 4).toInt = (n : Int)) (hH0 : uf_H A) : hpC g d 26 hm_m26 [.ref 27, .ref (T + 1), .ref 324, .int a3, .int a4] A (fun r A' => r = none ∧ (hdL 26 (huR D n b a4 ro) n A')) := hpC.all (fun f d => hW26_26 a3 a4 hT hC hL hO hD hD2 hb hTn hH0 (fun r A' h => h))
theorem hW23_33 {g d f : Nat} {A : hs_A} {h : Nat} (a1 a2 : Int32) (ha : a1 = Int32.ofNat h) (h10 : h < 10) {P : Option Value → hs_A → Prop} (hP : ∀ (r : Option Value) (A' : hs_A), (r = none ∧ ((A'.1 = A.1 ∧ A'.2.1 38 h = a2 ∧ A'.2.1 36 h = A.2.1 36 h ||| (a2 &&& A.2.1 34 h) ∧ ∀ i j, ¬ (i = 38 ∧ j = h) → ¬ (i = 36 ∧ j = h) → A'.2.1 i j = A.2.1 i j))) → P r A') : hpa (f, g) d none hm_t23 0 [.ref 34, .int a1, .int a2] [] A P := by
  have ch := hn_c (n := h) (z := Int32.ofNat h) rfl (by omega)
  have cah : a1.toInt = (h : Int) := by rw [ha]; exact ch
  have cih : a1.toNatClampNeg = h := by have := hn_cn (j := a1) (by omega); omega
  refine hpa_aload_n (by rfl) rfl ?_
  refine hpa_get (v := .ref 39) (by rfl) (by rfl) (by rfl) rfl ?_
  refine hpa_iload_n (by rfl) rfl ?_
  refine hpa_iload_n (by rfl) rfl ?_
  refine hpx_iast (by rfl) (by rfl) (fun A1 h0A1 h1A1 eA1 fA1 gA1 => ?_)
  rw [cih] at fA1
  refine hpa_aload_n (by rfl) rfl ?_
  refine hpa_get (v := .ref 37) (by rfl) (by rfl) (by rfl) rfl ?_
  refine hpa_iload_n (by rfl) rfl ?_
  refine hpa_dup2IR (by rfl) ?_
  refine hpx_iald (by rfl) (by rfl) (fun h0v2 h1v2 v2 ev2 => ?_)
  rw [cih] at ev2
  subst ev2
  refine hpa_iload_n (by rfl) rfl ?_
  refine hpa_aload_n (by rfl) rfl ?_
  refine hpa_get (v := .ref 35) (by rfl) (by rfl) (by rfl) rfl ?_
  refine hpa_iload_n (by rfl) rfl ?_
  refine hpx_iald (by rfl) (by rfl) (fun h0v3 h1v3 v3 ev3 => ?_)
  rw [cih] at ev3
  subst ev3
  refine hpa_iand (by rfl) ?_
  refine hpa_ior (by rfl) ?_
  refine hpx_iast (by rfl) (by rfl) (fun A4 h0A4 h1A4 eA4 fA4 gA4 => ?_)
  rw [cih] at fA4
  exact hpa_return (by rfl) rfl (hP _ _ ⟨rfl, eA4.trans eA1, by rw [fA4, hup2 (by omega), fA1, hup1], by rw [fA4, hup1, fA1, hup2 (by omega), hup2 (by omega)], fun i j h1 h2 => by rw [fA4, hup2 h2, fA1, hup2 h1]⟩)
theorem hP23_33 {g d : Nat} {A : hs_A} {h : Nat} (a1 a2 : Int32) (ha : a1 = Int32.ofNat h) (h10 : h < 10) : hpC g d 23 hm_m23 [.ref 34, .int a1, .int a2] A (fun r A' => r = none ∧ ((A'.1 = A.1 ∧ A'.2.1 38 h = a2 ∧ A'.2.1 36 h = A.2.1 36 h ||| (a2 &&& A.2.1 34 h) ∧ ∀ i j, ¬ (i = 38 ∧ j = h) → ¬ (i = 36 ∧ j = h) → A'.2.1 i j = A.2.1 i j))) := hpC.all (fun f d => hW23_33 a1 a2 ha h10 (fun r A' h => h))
def uM26_33 : Nat := 323519642826903467118292676429563820128263776978213809322672895034368
theorem hW26_33 {g d f : Nat} {A : hs_A} {T : Nat} {D : hg_D} {ro : Nat → Int32} {n : Nat} {b : Bool} (a3 a4 : Int32) (hT : hTT T) (hC : hdK T D A) (hL : hdL 33 ro n A) (hO : huO ro n) (hD : ∀ t, t < 24 → 0 ≤ D.1 t ∧ D.1 t ≤ 255) (hD2 : 0 ≤ D.2.1 ∧ D.2.1 ≤ 10000) (hb : a3.toInt = if b then 1 else 0) (hTn : (A.1 T 4).toInt = (n : Int)) (hH0 : uf_H A) {P : Option Value → hs_A → Prop} (hP : ∀ (r : Option Value) (A' : hs_A), (r = none ∧ (hdL 33 (huR D n b a4 ro) n A')) → P r A') : hpa (f, g) d none hm_t26 0 [.ref 34, .ref (T + 1), .ref 324, .int a3, .int a4, .retAddr 0, .retAddr 0, .retAddr 0] [] A P := by
  have k0 := hk_0
  have k1 := hk_1
  have k16 := hk_16
  have k4294967295 := hk_4294967295
  have hT9 : T ≤ 11 := by rcases hT with rfl | rfl <;> omega
  have h10 := hL.1
  have U0 : uf_W uM26_33 A A := uf_W.rfl
  have L15 : ∀ (f : Nat) (x15_6 : Int32) (x15_7 : Value) (A15 : hs_A) (k : Nat) (k15 : k ≤ n) (l15 : x15_6.toInt = (k : Int) - 1) (hL15 : hdL 33 (huRm D n b a4 ro k) n A15) (U15 : uf_W uM26_33 A A15) (H15 : uf_H A15), hpa (f, g) d none hm_t26 15 [.ref 34, .ref (T + 1), .ref 324, .int a3, .int a4, .int (huN D ro), .int x15_6, x15_7] [] A15 P := by
    intro f
    induction f with
    | zero => intros; exact hpa.zero
    | succ f ih15 =>
      intro x15_6 x15_7 A15 k k15 l15 hL15 U15 H15
      refine hpa_iloadS (by rfl) rfl ?_
      refine hpj_zlt (by rfl) rfl (fun q1 => ?_) (fun q1 => ?_)
      ·
        have k0 : k = 0 := by omega
        subst k0
        refine hpa_aload_n (by rfl) rfl ?_
        refine hpa_iconst (by rfl) rfl ?_
        refine hpj_putI (by rfl) (by rfl) (by rfl) (by rfl) (fun A2 eA2 fA2 => ?_)
        have UA2 := (U15).put eA2 fA2 (by decide +kernel)
        have HA2 := (H15).e (congrArg (fun q => q.2.2) fA2)
        refine hpa_aload_n (by rfl) rfl ?_
        refine hpa_dupR (by rfl) ?_
        refine hpj_getK (by rfl) (by rfl) (by rfl) rfl ?_
        refine hpa_iconst (by rfl) rfl ?_
        refine hpa_iadd (by rfl) ?_
        refine hpj_putI (by rfl) (by rfl) (by rfl) (by rfl) (fun A3 eA3 fA3 => ?_)
        have UA3 := (UA2).put eA3 fA3 (by decide +kernel)
        have HA3 := (HA2).e (congrArg (fun q => q.2.2) fA3)
        exact hpa_return (by rfl) rfl (hP _ _ ⟨rfl, hL15.over (by rw [eA3, hup1, eA2, hup2 (by omega)]) (by rw [eA3, hup2 (by omega), eA2, hup1]) (fun k hk => by rw [eA3, hup2 (by omega), eA2, hup2 (by omega)]) (fun j _ _ x _ => by rw [fA3, fA2])⟩)
      ·
        obtain ⟨h, rfl⟩ : ∃ h, k = h + 1 := ⟨k - 1, by omega⟩
        have ex15 : x15_6 = Int32.ofNat h := huI (by omega) (by omega)
        subst ex15
        have ch := hn_c (n := h) (z := Int32.ofNat h) rfl (by omega)
        have cih : (Int32.ofNat h).toNatClampNeg = h := by have := hn_cn (j := Int32.ofNat h) (by omega); omega
        have hh : h < n := by omega
        have old := huRm_old (D := D) (b := b) (s := a4) (ro := ro) h10 (by omega : h < h + 1) hh
        have hXx := fun t => huX_at (D := D) (b := b) (s := a4) (ro := ro) (t := t) h10 (by omega : h < h + 1) hh
        have hHh := huRm_H (D := D) (b := b) (s := a4) (ro := ro) h10 (by omega : h < h + 1) hh
        have oh := hO.1 h hh
        refine hpa_aload_n (by rfl) rfl ?_
        refine hpa_aload_n (by rfl) rfl ?_
        refine hpa_aload_n (by rfl) rfl ?_
        refine hpa_iload (by rfl) rfl ?_
        refine hpa_aload_n (by rfl) rfl ?_
        refine hpj_getK (by rfl) (by rfl) (by rfl) rfl ?_
        rw [show (A15.1 33 7) = ro 70 from hL15.2.2.1.1.trans (huRm_low h10 (by omega))]
        have hCA15 : hdK T D A15 := hC.uf hT U15 (by decide +kernel)
        have hTnA15 : (A15.1 T 4).toInt = (n : Int) := (congrArg Int32.toInt (hdT4 U15 hT (by decide +kernel))).trans hTn
        refine hpa_call0 (by rfl) (by rfl) (by rfl) (by rfl) (by rfl) (by rfl) (uf_C (X := ug_x238) (j := 238) rfl rfl (ug_L.cons (uf_rk_ok (by decide +kernel)) (ug_L.cons (by rcases hT with rfl | rfl <;> exact uf_rk_ok (by decide +kernel)) (ug_L.cons (uf_rk_ok (by decide +kernel)) (uf_int (uf_int uf_nil))))) H15 (hP1_33 (Int32.ofNat h) (ro 70) hT hCA15 hL15 (hO.mix h10 hD hD2) (by omega) rfl hTnA15 H15)) ?_
        rintro _ A4 ⟨⟨rfl, SS_A4, FR_A4⟩, wA4, HA4⟩
        have UA4 := (U15).trans (wA4.le (by decide +kernel : ug_wle ug_x238.2.2.2.1 uM26_33 = true))
        have hLA4 := hL15.uf hLL_33 wA4 (by decide +kernel)
        have SSA4 : hdS T D (huX (Int32.ofNat n) ro (Int32.ofNat h) (ro 70)) A4 := by rw [← hXx]; exact SS_A4
        refine hpa_iconst (by rfl) rfl ?_
        refine hpa_s1 (by rfl) (Or.inr ⟨_, rfl, rfl⟩) rfl ?_
        refine hpa_aload_n (by rfl) rfl ?_
        refine hpa_iload (by rfl) rfl ?_
        refine hpa_call0 (by rfl) (by rfl) (by rfl) (by rfl) (by rfl) (by rfl) (uf_C (X := ug_x239) (j := 239) rfl rfl (ug_L.cons (uf_rk_ok (by decide +kernel)) (uf_int uf_nil)) HA4 (hP19_33 (Int32.ofNat h) hLA4 (by omega) rfl)) ?_
        rintro _ _ ⟨⟨rfl, z6, rfl, (⟨fz_A5, HE_A5⟩ | ⟨fz_A5, HE_A5⟩)⟩, -, -⟩
        ·
          rw [hHh] at HE_A5
          have hd0 : huHd D n ro h = if h = 0 then huN D ro else huW D (huX (Int32.ofNat n) ro (Int32.ofNat h) (ro 70)) (ro (29 + h)) := by unfold huHd; rw [HE_A5]; rfl
          refine hpj_zeq (by rfl) rfl (fun q7 => False.elim (by omega)) (fun q7 => ?_)
          refine hpa_iload (by rfl) rfl ?_
          refine hpj_zne (by rfl) ch (fun q8 => ?_) (fun q8 => ?_)
          ·
            rw [if_neg (by omega)] at hd0
            refine hpa_aload_n (by rfl) rfl ?_
            refine hpa_aload_n (by rfl) rfl ?_
            refine hpa_get (v := .ref 39) (by rfl) (by rfl) (by rfl) rfl ?_
            refine hpa_iload (by rfl) rfl ?_
            refine hpa_iconst (by rfl) rfl ?_
            refine hpj_isub (by rfl) ch hk_1 (by omega) (by omega) (fun z9 ez9 => ?_)
            refine hpx_iald (by rfl) (by rfl) (fun h0v10 h1v10 v10 ev10 => ?_)
            have o63 := (huRm_old (D := D) (b := b) (s := a4) (ro := ro) h10 (by omega : h - 1 < h + 1) (by omega : h - 1 < n)).1
            rw [show (z9).toNatClampNeg = h - 1 from by have := hn_cn (j := z9) (by omega); omega] at ev10
            have lv10 := ev10.symm.trans ((hLA4.2.2.2.2 (h - 1) (by omega)).2.2.1.trans (o63.trans (by rw [show 30 + (h - 1) = 29 + h by omega] : ro (30 + (h - 1)) = ro (29 + h))))
            clear ev10
            subst lv10
            have b63 := (hO.1 (h - 1) (by omega)).2.2.1
            rw [show 30 + (h - 1) = 29 + h by omega] at b63
            have hCA4 : hdK T D A4 := hC.uf hT UA4 (by decide +kernel)
            refine hpa_call0 (by rfl) (by rfl) (by rfl) (by rfl) (by rfl) (by rfl) (uf_C (X := ug_x134) (j := 134) rfl rfl (ug_L.cons (uf_rk_ok (by decide +kernel)) (uf_int uf_nil)) HA4 (hP5 (ro (29 + h)) hT hCA4 SSA4 (by omega) (by omega) HA4)) ?_
            rintro _ A11 ⟨⟨z12, rfl, Z_A11, SS_A11, FR_A11⟩, wA11, HA11⟩
            have UA11 := (UA4).trans (wA11.le (by decide +kernel : ug_wle ug_x134.2.2.2.1 uM26_33 = true))
            have hLA11 := hLA4.uf hLL_33 wA11 (by decide +kernel)
            subst Z_A11
            refine hpa_s1 (by rfl) (Or.inr ⟨_, rfl, rfl⟩) rfl ?_
            have p7 : (huW D (huX (Int32.ofNat n) ro (Int32.ofNat h) (ro 70)) (ro (29 + h))) = huHd D n ro h := hd0.symm
            refine hpa_aload_n (by rfl) rfl ?_
            refine hpa_get (v := .ref 40) (by rfl) (by rfl) (by rfl) rfl ?_
            refine hpa_iload (by rfl) rfl ?_
            refine hpx_iald (by rfl) (by rfl) (fun h0v13 h1v13 v13 ev13 => ?_)
            rw [cih] at ev13
            have lv13 := ev13.symm.trans ((hLA11.2.2.2.2 h hh).2.2.2.trans old.2.2)
            clear ev13
            subst lv13
            refine hpj_zle (by rfl) rfl (fun q14 => ?_) (fun q14 => ?_)
            ·
              have z60 : (ro (60 + h)).toInt = 0 := by omega
              have gr0 : huGr D n ro b a4 h = if huDy D n ro b a4 h then Int32.ofInt D.2.1 else ro (60 + h) := by unfold huGr; rw [if_neg (by omega)]
              refine hpa_iload_n (by rfl) rfl ?_
              refine hpj_zeq (by rfl) rfl (fun q15 => ?_) (fun q15 => ?_)
              ·
                have bf : b = false := by cases b with | false => rfl | true => rw [if_pos rfl] at hb; exact absurd hb (by omega)
                have dy0 : huDy D n ro b a4 h = false := by unfold huDy; rw [bf, Bool.false_and]
                rw [dy0, if_neg (by decide)] at gr0
                refine hpa_aload_n (by rfl) rfl ?_
                refine hpa_iload (by rfl) rfl ?_
                refine hpa_iload (by rfl) rfl ?_
                refine hpa_call0 (by rfl) (by rfl) (by rfl) (by rfl) (by rfl) (by rfl) (uf_C (X := ug_x257) (j := 257) rfl rfl (ug_L.cons (uf_rk_ok (by decide +kernel)) (uf_int (uf_int uf_nil))) HA11 (hP23_33 (Int32.ofNat h) (huW D (huX (Int32.ofNat n) ro (Int32.ofNat h) (ro 70)) (ro (29 + h))) rfl (by omega))) ?_
                rintro _ A16 ⟨⟨rfl, CH_A16⟩, wA16, HA16⟩
                have UA16 := (UA11).trans (wA16.le (by decide +kernel : ug_wle ug_x257.2.2.2.1 uM26_33 = true))
                have had0 : A11.2.1 36 h = ro (40 + h) := (hLA11.2.2.2.2 h hh).1.2.2.trans old.2.1
                have wan0 : A11.2.1 34 h = ro h := (hLA11.2.2.2.2 h hh).1.1.trans (huRm_low h10 (by omega))
                have had1 := had0
                have wan1 := wan0
                have hLA16 : hdL 33 (huRm D n b a4 ro h) n A16 := hLA11.step hh (by rw [dy0, if_neg (by decide), CH_A16.1]) (fun k a1_ b1_ => by rw [CH_A16.1]) (CH_A16.2.1.trans p7) (by rw [CH_A16.2.2.1, p7, had1, wan1]) (by rw [CH_A16.2.2.2 39 h (by omega) (by omega), gr0, ← old.2.2]; exact (hLA11.2.2.2.2 h hh).2.2.2) (fun j x j1 j6 x10 hne => by rw [CH_A16.2.2.2 _ _ (by omega) (by omega)])
                refine hpj_iinc (by rfl) rfl ch hk_4294967295 (by omega) (by omega) (fun _ => rfl) (fun z17 ez17 => ?_)
                refine hpa_goto (by rfl) ?_
                exact ih15 z17 (.int (huW D (huX (Int32.ofNat n) ro (Int32.ofNat h) (ro 70)) (ro (29 + h)))) A16 h (by omega) (by omega) hLA16 UA16 HA16
              ·
                have bt : b = true := by cases b with | true => rfl | false => rw [if_neg (by decide)] at hb; exact absurd hb (by omega)
                refine hpa_iload (by rfl) rfl ?_
                refine hpa_bipush (by rfl) rfl ?_
                refine hpa_aload_n (by rfl) rfl ?_
                refine hpj_getK (by rfl) (by rfl) (by rfl) rfl ?_
                rw [show (A11.1 33 7) = ro 70 from hLA11.2.2.1.1.trans (huRm_low h10 (by omega))]
                refine hpa_imul (by rfl) ?_
                refine hpa_iload (by rfl) rfl ?_
                refine hpa_iadd (by rfl) ?_
                refine hpa_call2 (by rfl) (by decide) (by rfl) (by rfl) (by rfl) (uf_C (X := ug_x240) (j := 240) rfl rfl (uf_int (uf_int uf_nil)) HA11 (hP27 a4 (((Int32.ofNat 16) * (ro 70)) + (Int32.ofNat h)))) ?_
                rintro _ _ ⟨⟨rfl, z19, rfl, Z_A18⟩, -, -⟩
                subst Z_A18
                refine hpa_aload_n (by rfl) rfl ?_
                have hCA11 : hdK T D A11 := hC.uf hT UA11 (by decide +kernel)
                refine hpa_call0 (by rfl) (by rfl) (by rfl) (by rfl) (by rfl) (by rfl) (uf_C (X := ug_x192) (j := 192) rfl rfl (ug_L.cons (uf_rk_ok (by decide +kernel)) uf_nil) HA11 (hP4 hT hCA11 SS_A11.1 HA11)) ?_
                rintro _ A20 ⟨⟨z21, rfl, Z_A20, VV_A20, FR_A20⟩, wA20, HA20⟩
                have UA20 := (UA11).trans (wA20.le (by decide +kernel : ug_wle ug_x192.2.2.2.1 uM26_33 = true))
                have hLA20 := hLA11.uf hLL_33 wA20 (by decide +kernel)
                subst Z_A20
                refine hpj_cge (by rfl) rfl rfl (fun q22 => ?_) (fun q22 => ?_)
                ·
                  have dy0 : huDy D n ro b a4 h = false := by unfold huDy; rw [decide_eq_false (show ¬ (huLt a4 (Int32.ofNat 16 * ro 70 + Int32.ofNat h)).toInt < (huE D (huX (Int32.ofNat n) ro (Int32.ofNat h) (ro 70))).toInt from Int.not_lt.mpr q22), Bool.and_false, Bool.and_false]
                  rw [dy0, if_neg (by decide)] at gr0
                  refine hpa_aload_n (by rfl) rfl ?_
                  refine hpa_iload (by rfl) rfl ?_
                  refine hpa_iload (by rfl) rfl ?_
                  refine hpa_call0 (by rfl) (by rfl) (by rfl) (by rfl) (by rfl) (by rfl) (uf_C (X := ug_x257) (j := 257) rfl rfl (ug_L.cons (uf_rk_ok (by decide +kernel)) (uf_int (uf_int uf_nil))) HA20 (hP23_33 (Int32.ofNat h) (huW D (huX (Int32.ofNat n) ro (Int32.ofNat h) (ro 70)) (ro (29 + h))) rfl (by omega))) ?_
                  rintro _ A23 ⟨⟨rfl, CH_A23⟩, wA23, HA23⟩
                  have UA23 := (UA20).trans (wA23.le (by decide +kernel : ug_wle ug_x257.2.2.2.1 uM26_33 = true))
                  have had0 : A20.2.1 36 h = ro (40 + h) := (hLA20.2.2.2.2 h hh).1.2.2.trans old.2.1
                  have wan0 : A20.2.1 34 h = ro h := (hLA20.2.2.2.2 h hh).1.1.trans (huRm_low h10 (by omega))
                  have had1 := had0
                  have wan1 := wan0
                  have hLA23 : hdL 33 (huRm D n b a4 ro h) n A23 := hLA20.step hh (by rw [dy0, if_neg (by decide), CH_A23.1]) (fun k a1_ b1_ => by rw [CH_A23.1]) (CH_A23.2.1.trans p7) (by rw [CH_A23.2.2.1, p7, had1, wan1]) (by rw [CH_A23.2.2.2 39 h (by omega) (by omega), gr0, ← old.2.2]; exact (hLA20.2.2.2.2 h hh).2.2.2) (fun j x j1 j6 x10 hne => by rw [CH_A23.2.2.2 _ _ (by omega) (by omega)])
                  refine hpj_iinc (by rfl) rfl ch hk_4294967295 (by omega) (by omega) (fun _ => rfl) (fun z24 ez24 => ?_)
                  refine hpa_goto (by rfl) ?_
                  exact ih15 z24 (.int (huW D (huX (Int32.ofNat n) ro (Int32.ofNat h) (ro 70)) (ro (29 + h)))) A23 h (by omega) (by omega) hLA23 UA23 HA23
                ·
                  have dy0 : huDy D n ro b a4 h = true := by unfold huDy; rw [bt, decide_eq_true z60, decide_eq_true q22]; rfl
                  rw [dy0, if_pos rfl] at gr0
                  refine hpa_aload_n (by rfl) rfl ?_
                  refine hpa_get (v := .ref 40) (by rfl) (by rfl) (by rfl) rfl ?_
                  refine hpa_iload (by rfl) rfl ?_
                  refine hpa_aload_n (by rfl) rfl ?_
                  refine hpj_getK (by rfl) (hsT hT) (by rfl) rfl ?_
                  have hCA20 : hdK T D A20 := hC.uf hT UA20 (by decide +kernel)
                  have t6 : (A20.1 T 6) = Int32.ofInt D.2.1 := by obtain ⟨kw, V, ns, zz, k1, k2, kM, k3⟩ := hCA20; exact Int32.toInt_inj.mp (kM.2.2.1.2.1.trans (hs_ofInt hD2.1 hD2.2).symm)
                  rw [t6]
                  refine hpx_iast (by rfl) (by rfl) (fun A25 h0A25 h1A25 eA25 fA25 gA25 => ?_)
                  have UA25 := (UA20).ar eA25 fA25 gA25 (by decide +kernel)
                  have HA25 := (HA20).e (congrArg (fun q => q.2) gA25)
                  rw [cih] at fA25
                  refine hpa_aload_n (by rfl) rfl ?_
                  refine hpa_dupR (by rfl) ?_
                  refine hpj_getK (by rfl) (by rfl) (by rfl) rfl ?_
                  refine hpa_iconst (by rfl) rfl ?_
                  refine hpa_iadd (by rfl) ?_
                  refine hpj_putI (by rfl) (by rfl) (by rfl) (by rfl) (fun A26 eA26 fA26 => ?_)
                  have UA26 := (UA25).put eA26 fA26 (by decide +kernel)
                  have HA26 := (HA25).e (congrArg (fun q => q.2.2) fA26)
                  refine hpa_aload_n (by rfl) rfl ?_
                  refine hpa_iload (by rfl) rfl ?_
                  refine hpa_iload (by rfl) rfl ?_
                  refine hpa_call0 (by rfl) (by rfl) (by rfl) (by rfl) (by rfl) (by rfl) (uf_C (X := ug_x257) (j := 257) rfl rfl (ug_L.cons (uf_rk_ok (by decide +kernel)) (uf_int (uf_int uf_nil))) HA26 (hP23_33 (Int32.ofNat h) (huW D (huX (Int32.ofNat n) ro (Int32.ofNat h) (ro 70)) (ro (29 + h))) rfl (by omega))) ?_
                  rintro _ A27 ⟨⟨rfl, CH_A27⟩, wA27, HA27⟩
                  have UA27 := (UA26).trans (wA27.le (by decide +kernel : ug_wle ug_x257.2.2.2.1 uM26_33 = true))
                  have had0 : A20.2.1 36 h = ro (40 + h) := (hLA20.2.2.2.2 h hh).1.2.2.trans old.2.1
                  have wan0 : A20.2.1 34 h = ro h := (hLA20.2.2.2.2 h hh).1.1.trans (huRm_low h10 (by omega))
                  have had1 : A26.2.1 36 h = ro (40 + h) := by rw [fA26, fA25, hup2 (by omega)]; exact had0
                  have wan1 : A26.2.1 34 h = ro h := by rw [fA26, fA25, hup2 (by omega)]; exact wan0
                  have hLA27 : hdL 33 (huRm D n b a4 ro h) n A27 := hLA20.step hh (by rw [dy0, if_pos rfl, CH_A27.1, eA26, hup1, eA25]) (fun k a1_ b1_ => by rw [CH_A27.1, eA26, hup2 (by omega), eA25]) (CH_A27.2.1.trans p7) (by rw [CH_A27.2.2.1, p7, had1, wan1]) (by rw [CH_A27.2.2.2 39 h (by omega) (by omega), fA26, fA25, hup1, gr0]) (fun j x j1 j6 x10 hne => by rw [CH_A27.2.2.2 _ _ (by omega) (by omega), fA26, fA25, hup2 (by omega)])
                  refine hpj_iinc (by rfl) rfl ch hk_4294967295 (by omega) (by omega) (fun _ => rfl) (fun z28 ez28 => ?_)
                  refine hpa_goto (by rfl) ?_
                  exact ih15 z28 (.int (huW D (huX (Int32.ofNat n) ro (Int32.ofNat h) (ro 70)) (ro (29 + h)))) A27 h (by omega) (by omega) hLA27 UA27 HA27
            ·
              have gr0 : huGr D n ro b a4 h = ro (60 + h) - Int32.ofNat 1 := by unfold huGr; rw [if_pos q14]
              have dy0 : huDy D n ro b a4 h = false := by unfold huDy; rw [decide_eq_false (by omega : ¬ (ro (60 + h)).toInt = 0), Bool.false_and, Bool.and_false]
              refine hpa_aload_n (by rfl) rfl ?_
              refine hpa_get (v := .ref 40) (by rfl) (by rfl) (by rfl) rfl ?_
              refine hpa_iload (by rfl) rfl ?_
              refine hpa_dup2IR (by rfl) ?_
              refine hpx_iald (by rfl) (by rfl) (fun h0v29 h1v29 v29 ev29 => ?_)
              rw [cih] at ev29
              have lv29 := ev29.symm.trans ((hLA11.2.2.2.2 h hh).2.2.2.trans old.2.2)
              clear ev29
              subst lv29
              refine hpa_iconst (by rfl) rfl ?_
              refine hpa_isub (by rfl) ?_
              refine hpx_iast (by rfl) (by rfl) (fun A30 h0A30 h1A30 eA30 fA30 gA30 => ?_)
              have UA30 := (UA11).ar eA30 fA30 gA30 (by decide +kernel)
              have HA30 := (HA11).e (congrArg (fun q => q.2) gA30)
              rw [cih] at fA30
              refine hpa_goto (by rfl) ?_
              refine hpa_aload_n (by rfl) rfl ?_
              refine hpa_iload (by rfl) rfl ?_
              refine hpa_iload (by rfl) rfl ?_
              refine hpa_call0 (by rfl) (by rfl) (by rfl) (by rfl) (by rfl) (by rfl) (uf_C (X := ug_x257) (j := 257) rfl rfl (ug_L.cons (uf_rk_ok (by decide +kernel)) (uf_int (uf_int uf_nil))) HA30 (hP23_33 (Int32.ofNat h) (huW D (huX (Int32.ofNat n) ro (Int32.ofNat h) (ro 70)) (ro (29 + h))) rfl (by omega))) ?_
              rintro _ A31 ⟨⟨rfl, CH_A31⟩, wA31, HA31⟩
              have UA31 := (UA30).trans (wA31.le (by decide +kernel : ug_wle ug_x257.2.2.2.1 uM26_33 = true))
              have had0 : A11.2.1 36 h = ro (40 + h) := (hLA11.2.2.2.2 h hh).1.2.2.trans old.2.1
              have wan0 : A11.2.1 34 h = ro h := (hLA11.2.2.2.2 h hh).1.1.trans (huRm_low h10 (by omega))
              have had1 : A30.2.1 36 h = ro (40 + h) := by rw [fA30, hup2 (by omega)]; exact had0
              have wan1 : A30.2.1 34 h = ro h := by rw [fA30, hup2 (by omega)]; exact wan0
              have hLA31 : hdL 33 (huRm D n b a4 ro h) n A31 := hLA11.step hh (by rw [dy0, if_neg (by decide), CH_A31.1, eA30]) (fun k a1_ b1_ => by rw [CH_A31.1, eA30]) (CH_A31.2.1.trans p7) (by rw [CH_A31.2.2.1, p7, had1, wan1]) (by rw [CH_A31.2.2.2 39 h (by omega) (by omega), fA30, hup1, gr0]) (fun j x j1 j6 x10 hne => by rw [CH_A31.2.2.2 _ _ (by omega) (by omega), fA30, hup2 (by omega)])
              refine hpj_iinc (by rfl) rfl ch hk_4294967295 (by omega) (by omega) (fun _ => rfl) (fun z32 ez32 => ?_)
              refine hpa_goto (by rfl) ?_
              exact ih15 z32 (.int (huW D (huX (Int32.ofNat n) ro (Int32.ofNat h) (ro 70)) (ro (29 + h)))) A31 h (by omega) (by omega) hLA31 UA31 HA31
          ·
            rw [if_pos (by omega)] at hd0
            refine hpa_iload (by rfl) rfl ?_
            refine hpa_goto (by rfl) ?_
            refine hpa_s1 (by rfl) (Or.inr ⟨_, rfl, rfl⟩) rfl ?_
            have p7 : (huN D ro) = huHd D n ro h := hd0.symm
            refine hpa_aload_n (by rfl) rfl ?_
            refine hpa_get (v := .ref 40) (by rfl) (by rfl) (by rfl) rfl ?_
            refine hpa_iload (by rfl) rfl ?_
            refine hpx_iald (by rfl) (by rfl) (fun h0v33 h1v33 v33 ev33 => ?_)
            rw [cih] at ev33
            have lv33 := ev33.symm.trans ((hLA4.2.2.2.2 h hh).2.2.2.trans old.2.2)
            clear ev33
            subst lv33
            refine hpj_zle (by rfl) rfl (fun q34 => ?_) (fun q34 => ?_)
            ·
              have z60 : (ro (60 + h)).toInt = 0 := by omega
              have gr0 : huGr D n ro b a4 h = if huDy D n ro b a4 h then Int32.ofInt D.2.1 else ro (60 + h) := by unfold huGr; rw [if_neg (by omega)]
              refine hpa_iload_n (by rfl) rfl ?_
              refine hpj_zeq (by rfl) rfl (fun q35 => ?_) (fun q35 => ?_)
              ·
                have bf : b = false := by cases b with | false => rfl | true => rw [if_pos rfl] at hb; exact absurd hb (by omega)
                have dy0 : huDy D n ro b a4 h = false := by unfold huDy; rw [bf, Bool.false_and]
                rw [dy0, if_neg (by decide)] at gr0
                refine hpa_aload_n (by rfl) rfl ?_
                refine hpa_iload (by rfl) rfl ?_
                refine hpa_iload (by rfl) rfl ?_
                refine hpa_call0 (by rfl) (by rfl) (by rfl) (by rfl) (by rfl) (by rfl) (uf_C (X := ug_x257) (j := 257) rfl rfl (ug_L.cons (uf_rk_ok (by decide +kernel)) (uf_int (uf_int uf_nil))) HA4 (hP23_33 (Int32.ofNat h) (huN D ro) rfl (by omega))) ?_
                rintro _ A36 ⟨⟨rfl, CH_A36⟩, wA36, HA36⟩
                have UA36 := (UA4).trans (wA36.le (by decide +kernel : ug_wle ug_x257.2.2.2.1 uM26_33 = true))
                have had0 : A4.2.1 36 h = ro (40 + h) := (hLA4.2.2.2.2 h hh).1.2.2.trans old.2.1
                have wan0 : A4.2.1 34 h = ro h := (hLA4.2.2.2.2 h hh).1.1.trans (huRm_low h10 (by omega))
                have had1 := had0
                have wan1 := wan0
                have hLA36 : hdL 33 (huRm D n b a4 ro h) n A36 := hLA4.step hh (by rw [dy0, if_neg (by decide), CH_A36.1]) (fun k a1_ b1_ => by rw [CH_A36.1]) (CH_A36.2.1.trans p7) (by rw [CH_A36.2.2.1, p7, had1, wan1]) (by rw [CH_A36.2.2.2 39 h (by omega) (by omega), gr0, ← old.2.2]; exact (hLA4.2.2.2.2 h hh).2.2.2) (fun j x j1 j6 x10 hne => by rw [CH_A36.2.2.2 _ _ (by omega) (by omega)])
                refine hpj_iinc (by rfl) rfl ch hk_4294967295 (by omega) (by omega) (fun _ => rfl) (fun z37 ez37 => ?_)
                refine hpa_goto (by rfl) ?_
                exact ih15 z37 (.int (huN D ro)) A36 h (by omega) (by omega) hLA36 UA36 HA36
              ·
                have bt : b = true := by cases b with | true => rfl | false => rw [if_neg (by decide)] at hb; exact absurd hb (by omega)
                refine hpa_iload (by rfl) rfl ?_
                refine hpa_bipush (by rfl) rfl ?_
                refine hpa_aload_n (by rfl) rfl ?_
                refine hpj_getK (by rfl) (by rfl) (by rfl) rfl ?_
                rw [show (A4.1 33 7) = ro 70 from hLA4.2.2.1.1.trans (huRm_low h10 (by omega))]
                refine hpa_imul (by rfl) ?_
                refine hpa_iload (by rfl) rfl ?_
                refine hpa_iadd (by rfl) ?_
                refine hpa_call2 (by rfl) (by decide) (by rfl) (by rfl) (by rfl) (uf_C (X := ug_x240) (j := 240) rfl rfl (uf_int (uf_int uf_nil)) HA4 (hP27 a4 (((Int32.ofNat 16) * (ro 70)) + (Int32.ofNat h)))) ?_
                rintro _ _ ⟨⟨rfl, z39, rfl, Z_A38⟩, -, -⟩
                subst Z_A38
                refine hpa_aload_n (by rfl) rfl ?_
                have hCA4 : hdK T D A4 := hC.uf hT UA4 (by decide +kernel)
                refine hpa_call0 (by rfl) (by rfl) (by rfl) (by rfl) (by rfl) (by rfl) (uf_C (X := ug_x192) (j := 192) rfl rfl (ug_L.cons (uf_rk_ok (by decide +kernel)) uf_nil) HA4 (hP4 hT hCA4 SSA4.1 HA4)) ?_
                rintro _ A40 ⟨⟨z41, rfl, Z_A40, VV_A40, FR_A40⟩, wA40, HA40⟩
                have UA40 := (UA4).trans (wA40.le (by decide +kernel : ug_wle ug_x192.2.2.2.1 uM26_33 = true))
                have hLA40 := hLA4.uf hLL_33 wA40 (by decide +kernel)
                subst Z_A40
                refine hpj_cge (by rfl) rfl rfl (fun q42 => ?_) (fun q42 => ?_)
                ·
                  have dy0 : huDy D n ro b a4 h = false := by unfold huDy; rw [decide_eq_false (show ¬ (huLt a4 (Int32.ofNat 16 * ro 70 + Int32.ofNat h)).toInt < (huE D (huX (Int32.ofNat n) ro (Int32.ofNat h) (ro 70))).toInt from Int.not_lt.mpr q42), Bool.and_false, Bool.and_false]
                  rw [dy0, if_neg (by decide)] at gr0
                  refine hpa_aload_n (by rfl) rfl ?_
                  refine hpa_iload (by rfl) rfl ?_
                  refine hpa_iload (by rfl) rfl ?_
                  refine hpa_call0 (by rfl) (by rfl) (by rfl) (by rfl) (by rfl) (by rfl) (uf_C (X := ug_x257) (j := 257) rfl rfl (ug_L.cons (uf_rk_ok (by decide +kernel)) (uf_int (uf_int uf_nil))) HA40 (hP23_33 (Int32.ofNat h) (huN D ro) rfl (by omega))) ?_
                  rintro _ A43 ⟨⟨rfl, CH_A43⟩, wA43, HA43⟩
                  have UA43 := (UA40).trans (wA43.le (by decide +kernel : ug_wle ug_x257.2.2.2.1 uM26_33 = true))
                  have had0 : A40.2.1 36 h = ro (40 + h) := (hLA40.2.2.2.2 h hh).1.2.2.trans old.2.1
                  have wan0 : A40.2.1 34 h = ro h := (hLA40.2.2.2.2 h hh).1.1.trans (huRm_low h10 (by omega))
                  have had1 := had0
                  have wan1 := wan0
                  have hLA43 : hdL 33 (huRm D n b a4 ro h) n A43 := hLA40.step hh (by rw [dy0, if_neg (by decide), CH_A43.1]) (fun k a1_ b1_ => by rw [CH_A43.1]) (CH_A43.2.1.trans p7) (by rw [CH_A43.2.2.1, p7, had1, wan1]) (by rw [CH_A43.2.2.2 39 h (by omega) (by omega), gr0, ← old.2.2]; exact (hLA40.2.2.2.2 h hh).2.2.2) (fun j x j1 j6 x10 hne => by rw [CH_A43.2.2.2 _ _ (by omega) (by omega)])
                  refine hpj_iinc (by rfl) rfl ch hk_4294967295 (by omega) (by omega) (fun _ => rfl) (fun z44 ez44 => ?_)
                  refine hpa_goto (by rfl) ?_
                  exact ih15 z44 (.int (huN D ro)) A43 h (by omega) (by omega) hLA43 UA43 HA43
                ·
                  have dy0 : huDy D n ro b a4 h = true := by unfold huDy; rw [bt, decide_eq_true z60, decide_eq_true q42]; rfl
                  rw [dy0, if_pos rfl] at gr0
                  refine hpa_aload_n (by rfl) rfl ?_
                  refine hpa_get (v := .ref 40) (by rfl) (by rfl) (by rfl) rfl ?_
                  refine hpa_iload (by rfl) rfl ?_
                  refine hpa_aload_n (by rfl) rfl ?_
                  refine hpj_getK (by rfl) (hsT hT) (by rfl) rfl ?_
                  have hCA40 : hdK T D A40 := hC.uf hT UA40 (by decide +kernel)
                  have t6 : (A40.1 T 6) = Int32.ofInt D.2.1 := by obtain ⟨kw, V, ns, zz, k1, k2, kM, k3⟩ := hCA40; exact Int32.toInt_inj.mp (kM.2.2.1.2.1.trans (hs_ofInt hD2.1 hD2.2).symm)
                  rw [t6]
                  refine hpx_iast (by rfl) (by rfl) (fun A45 h0A45 h1A45 eA45 fA45 gA45 => ?_)
                  have UA45 := (UA40).ar eA45 fA45 gA45 (by decide +kernel)
                  have HA45 := (HA40).e (congrArg (fun q => q.2) gA45)
                  rw [cih] at fA45
                  refine hpa_aload_n (by rfl) rfl ?_
                  refine hpa_dupR (by rfl) ?_
                  refine hpj_getK (by rfl) (by rfl) (by rfl) rfl ?_
                  refine hpa_iconst (by rfl) rfl ?_
                  refine hpa_iadd (by rfl) ?_
                  refine hpj_putI (by rfl) (by rfl) (by rfl) (by rfl) (fun A46 eA46 fA46 => ?_)
                  have UA46 := (UA45).put eA46 fA46 (by decide +kernel)
                  have HA46 := (HA45).e (congrArg (fun q => q.2.2) fA46)
                  refine hpa_aload_n (by rfl) rfl ?_
                  refine hpa_iload (by rfl) rfl ?_
                  refine hpa_iload (by rfl) rfl ?_
                  refine hpa_call0 (by rfl) (by rfl) (by rfl) (by rfl) (by rfl) (by rfl) (uf_C (X := ug_x257) (j := 257) rfl rfl (ug_L.cons (uf_rk_ok (by decide +kernel)) (uf_int (uf_int uf_nil))) HA46 (hP23_33 (Int32.ofNat h) (huN D ro) rfl (by omega))) ?_
                  rintro _ A47 ⟨⟨rfl, CH_A47⟩, wA47, HA47⟩
                  have UA47 := (UA46).trans (wA47.le (by decide +kernel : ug_wle ug_x257.2.2.2.1 uM26_33 = true))
                  have had0 : A40.2.1 36 h = ro (40 + h) := (hLA40.2.2.2.2 h hh).1.2.2.trans old.2.1
                  have wan0 : A40.2.1 34 h = ro h := (hLA40.2.2.2.2 h hh).1.1.trans (huRm_low h10 (by omega))
                  have had1 : A46.2.1 36 h = ro (40 + h) := by rw [fA46, fA45, hup2 (by omega)]; exact had0
                  have wan1 : A46.2.1 34 h = ro h := by rw [fA46, fA45, hup2 (by omega)]; exact wan0
                  have hLA47 : hdL 33 (huRm D n b a4 ro h) n A47 := hLA40.step hh (by rw [dy0, if_pos rfl, CH_A47.1, eA46, hup1, eA45]) (fun k a1_ b1_ => by rw [CH_A47.1, eA46, hup2 (by omega), eA45]) (CH_A47.2.1.trans p7) (by rw [CH_A47.2.2.1, p7, had1, wan1]) (by rw [CH_A47.2.2.2 39 h (by omega) (by omega), fA46, fA45, hup1, gr0]) (fun j x j1 j6 x10 hne => by rw [CH_A47.2.2.2 _ _ (by omega) (by omega), fA46, fA45, hup2 (by omega)])
                  refine hpj_iinc (by rfl) rfl ch hk_4294967295 (by omega) (by omega) (fun _ => rfl) (fun z48 ez48 => ?_)
                  refine hpa_goto (by rfl) ?_
                  exact ih15 z48 (.int (huN D ro)) A47 h (by omega) (by omega) hLA47 UA47 HA47
            ·
              have gr0 : huGr D n ro b a4 h = ro (60 + h) - Int32.ofNat 1 := by unfold huGr; rw [if_pos q34]
              have dy0 : huDy D n ro b a4 h = false := by unfold huDy; rw [decide_eq_false (by omega : ¬ (ro (60 + h)).toInt = 0), Bool.false_and, Bool.and_false]
              refine hpa_aload_n (by rfl) rfl ?_
              refine hpa_get (v := .ref 40) (by rfl) (by rfl) (by rfl) rfl ?_
              refine hpa_iload (by rfl) rfl ?_
              refine hpa_dup2IR (by rfl) ?_
              refine hpx_iald (by rfl) (by rfl) (fun h0v49 h1v49 v49 ev49 => ?_)
              rw [cih] at ev49
              have lv49 := ev49.symm.trans ((hLA4.2.2.2.2 h hh).2.2.2.trans old.2.2)
              clear ev49
              subst lv49
              refine hpa_iconst (by rfl) rfl ?_
              refine hpa_isub (by rfl) ?_
              refine hpx_iast (by rfl) (by rfl) (fun A50 h0A50 h1A50 eA50 fA50 gA50 => ?_)
              have UA50 := (UA4).ar eA50 fA50 gA50 (by decide +kernel)
              have HA50 := (HA4).e (congrArg (fun q => q.2) gA50)
              rw [cih] at fA50
              refine hpa_goto (by rfl) ?_
              refine hpa_aload_n (by rfl) rfl ?_
              refine hpa_iload (by rfl) rfl ?_
              refine hpa_iload (by rfl) rfl ?_
              refine hpa_call0 (by rfl) (by rfl) (by rfl) (by rfl) (by rfl) (by rfl) (uf_C (X := ug_x257) (j := 257) rfl rfl (ug_L.cons (uf_rk_ok (by decide +kernel)) (uf_int (uf_int uf_nil))) HA50 (hP23_33 (Int32.ofNat h) (huN D ro) rfl (by omega))) ?_
              rintro _ A51 ⟨⟨rfl, CH_A51⟩, wA51, HA51⟩
              have UA51 := (UA50).trans (wA51.le (by decide +kernel : ug_wle ug_x257.2.2.2.1 uM26_33 = true))
              have had0 : A4.2.1 36 h = ro (40 + h) := (hLA4.2.2.2.2 h hh).1.2.2.trans old.2.1
              have wan0 : A4.2.1 34 h = ro h := (hLA4.2.2.2.2 h hh).1.1.trans (huRm_low h10 (by omega))
              have had1 : A50.2.1 36 h = ro (40 + h) := by rw [fA50, hup2 (by omega)]; exact had0
              have wan1 : A50.2.1 34 h = ro h := by rw [fA50, hup2 (by omega)]; exact wan0
              have hLA51 : hdL 33 (huRm D n b a4 ro h) n A51 := hLA4.step hh (by rw [dy0, if_neg (by decide), CH_A51.1, eA50]) (fun k a1_ b1_ => by rw [CH_A51.1, eA50]) (CH_A51.2.1.trans p7) (by rw [CH_A51.2.2.1, p7, had1, wan1]) (by rw [CH_A51.2.2.2 39 h (by omega) (by omega), fA50, hup1, gr0]) (fun j x j1 j6 x10 hne => by rw [CH_A51.2.2.2 _ _ (by omega) (by omega), fA50, hup2 (by omega)])
              refine hpj_iinc (by rfl) rfl ch hk_4294967295 (by omega) (by omega) (fun _ => rfl) (fun z52 ez52 => ?_)
              refine hpa_goto (by rfl) ?_
              exact ih15 z52 (.int (huN D ro)) A51 h (by omega) (by omega) hLA51 UA51 HA51
        ·
          rw [hHh] at HE_A5
          have hd0 : huHd D n ro h = Int32.ofNat 0 := by unfold huHd; rw [HE_A5]; rfl
          refine hpj_zeq (by rfl) rfl (fun q53 => ?_) (fun q53 => False.elim (by omega))
          have p7 : (Int32.ofNat 0) = huHd D n ro h := hd0.symm
          refine hpa_aload_n (by rfl) rfl ?_
          refine hpa_get (v := .ref 40) (by rfl) (by rfl) (by rfl) rfl ?_
          refine hpa_iload (by rfl) rfl ?_
          refine hpx_iald (by rfl) (by rfl) (fun h0v54 h1v54 v54 ev54 => ?_)
          rw [cih] at ev54
          have lv54 := ev54.symm.trans ((hLA4.2.2.2.2 h hh).2.2.2.trans old.2.2)
          clear ev54
          subst lv54
          refine hpj_zle (by rfl) rfl (fun q55 => ?_) (fun q55 => ?_)
          ·
            have z60 : (ro (60 + h)).toInt = 0 := by omega
            have gr0 : huGr D n ro b a4 h = if huDy D n ro b a4 h then Int32.ofInt D.2.1 else ro (60 + h) := by unfold huGr; rw [if_neg (by omega)]
            refine hpa_iload_n (by rfl) rfl ?_
            refine hpj_zeq (by rfl) rfl (fun q56 => ?_) (fun q56 => ?_)
            ·
              have bf : b = false := by cases b with | false => rfl | true => rw [if_pos rfl] at hb; exact absurd hb (by omega)
              have dy0 : huDy D n ro b a4 h = false := by unfold huDy; rw [bf, Bool.false_and]
              rw [dy0, if_neg (by decide)] at gr0
              refine hpa_aload_n (by rfl) rfl ?_
              refine hpa_iload (by rfl) rfl ?_
              refine hpa_iload (by rfl) rfl ?_
              refine hpa_call0 (by rfl) (by rfl) (by rfl) (by rfl) (by rfl) (by rfl) (uf_C (X := ug_x257) (j := 257) rfl rfl (ug_L.cons (uf_rk_ok (by decide +kernel)) (uf_int (uf_int uf_nil))) HA4 (hP23_33 (Int32.ofNat h) (Int32.ofNat 0) rfl (by omega))) ?_
              rintro _ A57 ⟨⟨rfl, CH_A57⟩, wA57, HA57⟩
              have UA57 := (UA4).trans (wA57.le (by decide +kernel : ug_wle ug_x257.2.2.2.1 uM26_33 = true))
              have had0 : A4.2.1 36 h = ro (40 + h) := (hLA4.2.2.2.2 h hh).1.2.2.trans old.2.1
              have wan0 : A4.2.1 34 h = ro h := (hLA4.2.2.2.2 h hh).1.1.trans (huRm_low h10 (by omega))
              have had1 := had0
              have wan1 := wan0
              have hLA57 : hdL 33 (huRm D n b a4 ro h) n A57 := hLA4.step hh (by rw [dy0, if_neg (by decide), CH_A57.1]) (fun k a1_ b1_ => by rw [CH_A57.1]) (CH_A57.2.1.trans p7) (by rw [CH_A57.2.2.1, p7, had1, wan1]) (by rw [CH_A57.2.2.2 39 h (by omega) (by omega), gr0, ← old.2.2]; exact (hLA4.2.2.2.2 h hh).2.2.2) (fun j x j1 j6 x10 hne => by rw [CH_A57.2.2.2 _ _ (by omega) (by omega)])
              refine hpj_iinc (by rfl) rfl ch hk_4294967295 (by omega) (by omega) (fun _ => rfl) (fun z58 ez58 => ?_)
              refine hpa_goto (by rfl) ?_
              exact ih15 z58 (.int (Int32.ofNat 0)) A57 h (by omega) (by omega) hLA57 UA57 HA57
            ·
              have bt : b = true := by cases b with | true => rfl | false => rw [if_neg (by decide)] at hb; exact absurd hb (by omega)
              refine hpa_iload (by rfl) rfl ?_
              refine hpa_bipush (by rfl) rfl ?_
              refine hpa_aload_n (by rfl) rfl ?_
              refine hpj_getK (by rfl) (by rfl) (by rfl) rfl ?_
              rw [show (A4.1 33 7) = ro 70 from hLA4.2.2.1.1.trans (huRm_low h10 (by omega))]
              refine hpa_imul (by rfl) ?_
              refine hpa_iload (by rfl) rfl ?_
              refine hpa_iadd (by rfl) ?_
              refine hpa_call2 (by rfl) (by decide) (by rfl) (by rfl) (by rfl) (uf_C (X := ug_x240) (j := 240) rfl rfl (uf_int (uf_int uf_nil)) HA4 (hP27 a4 (((Int32.ofNat 16) * (ro 70)) + (Int32.ofNat h)))) ?_
              rintro _ _ ⟨⟨rfl, z60, rfl, Z_A59⟩, -, -⟩
              subst Z_A59
              refine hpa_aload_n (by rfl) rfl ?_
              have hCA4 : hdK T D A4 := hC.uf hT UA4 (by decide +kernel)
              refine hpa_call0 (by rfl) (by rfl) (by rfl) (by rfl) (by rfl) (by rfl) (uf_C (X := ug_x192) (j := 192) rfl rfl (ug_L.cons (uf_rk_ok (by decide +kernel)) uf_nil) HA4 (hP4 hT hCA4 SSA4.1 HA4)) ?_
              rintro _ A61 ⟨⟨z62, rfl, Z_A61, VV_A61, FR_A61⟩, wA61, HA61⟩
              have UA61 := (UA4).trans (wA61.le (by decide +kernel : ug_wle ug_x192.2.2.2.1 uM26_33 = true))
              have hLA61 := hLA4.uf hLL_33 wA61 (by decide +kernel)
              subst Z_A61
              refine hpj_cge (by rfl) rfl rfl (fun q63 => ?_) (fun q63 => ?_)
              ·
                have dy0 : huDy D n ro b a4 h = false := by unfold huDy; rw [decide_eq_false (show ¬ (huLt a4 (Int32.ofNat 16 * ro 70 + Int32.ofNat h)).toInt < (huE D (huX (Int32.ofNat n) ro (Int32.ofNat h) (ro 70))).toInt from Int.not_lt.mpr q63), Bool.and_false, Bool.and_false]
                rw [dy0, if_neg (by decide)] at gr0
                refine hpa_aload_n (by rfl) rfl ?_
                refine hpa_iload (by rfl) rfl ?_
                refine hpa_iload (by rfl) rfl ?_
                refine hpa_call0 (by rfl) (by rfl) (by rfl) (by rfl) (by rfl) (by rfl) (uf_C (X := ug_x257) (j := 257) rfl rfl (ug_L.cons (uf_rk_ok (by decide +kernel)) (uf_int (uf_int uf_nil))) HA61 (hP23_33 (Int32.ofNat h) (Int32.ofNat 0) rfl (by omega))) ?_
                rintro _ A64 ⟨⟨rfl, CH_A64⟩, wA64, HA64⟩
                have UA64 := (UA61).trans (wA64.le (by decide +kernel : ug_wle ug_x257.2.2.2.1 uM26_33 = true))
                have had0 : A61.2.1 36 h = ro (40 + h) := (hLA61.2.2.2.2 h hh).1.2.2.trans old.2.1
                have wan0 : A61.2.1 34 h = ro h := (hLA61.2.2.2.2 h hh).1.1.trans (huRm_low h10 (by omega))
                have had1 := had0
                have wan1 := wan0
                have hLA64 : hdL 33 (huRm D n b a4 ro h) n A64 := hLA61.step hh (by rw [dy0, if_neg (by decide), CH_A64.1]) (fun k a1_ b1_ => by rw [CH_A64.1]) (CH_A64.2.1.trans p7) (by rw [CH_A64.2.2.1, p7, had1, wan1]) (by rw [CH_A64.2.2.2 39 h (by omega) (by omega), gr0, ← old.2.2]; exact (hLA61.2.2.2.2 h hh).2.2.2) (fun j x j1 j6 x10 hne => by rw [CH_A64.2.2.2 _ _ (by omega) (by omega)])
                refine hpj_iinc (by rfl) rfl ch hk_4294967295 (by omega) (by omega) (fun _ => rfl) (fun z65 ez65 => ?_)
                refine hpa_goto (by rfl) ?_
                exact ih15 z65 (.int (Int32.ofNat 0)) A64 h (by omega) (by omega) hLA64 UA64 HA64
              ·
                have dy0 : huDy D n ro b a4 h = true := by unfold huDy; rw [bt, decide_eq_true z60, decide_eq_true q63]; rfl
                rw [dy0, if_pos rfl] at gr0
                refine hpa_aload_n (by rfl) rfl ?_
                refine hpa_get (v := .ref 40) (by rfl) (by rfl) (by rfl) rfl ?_
                refine hpa_iload (by rfl) rfl ?_
                refine hpa_aload_n (by rfl) rfl ?_
                refine hpj_getK (by rfl) (hsT hT) (by rfl) rfl ?_
                have hCA61 : hdK T D A61 := hC.uf hT UA61 (by decide +kernel)
                have t6 : (A61.1 T 6) = Int32.ofInt D.2.1 := by obtain ⟨kw, V, ns, zz, k1, k2, kM, k3⟩ := hCA61; exact Int32.toInt_inj.mp (kM.2.2.1.2.1.trans (hs_ofInt hD2.1 hD2.2).symm)
                rw [t6]
                refine hpx_iast (by rfl) (by rfl) (fun A66 h0A66 h1A66 eA66 fA66 gA66 => ?_)
                have UA66 := (UA61).ar eA66 fA66 gA66 (by decide +kernel)
                have HA66 := (HA61).e (congrArg (fun q => q.2) gA66)
                rw [cih] at fA66
                refine hpa_aload_n (by rfl) rfl ?_
                refine hpa_dupR (by rfl) ?_
                refine hpj_getK (by rfl) (by rfl) (by rfl) rfl ?_
                refine hpa_iconst (by rfl) rfl ?_
                refine hpa_iadd (by rfl) ?_
                refine hpj_putI (by rfl) (by rfl) (by rfl) (by rfl) (fun A67 eA67 fA67 => ?_)
                have UA67 := (UA66).put eA67 fA67 (by decide +kernel)
                have HA67 := (HA66).e (congrArg (fun q => q.2.2) fA67)
                refine hpa_aload_n (by rfl) rfl ?_
                refine hpa_iload (by rfl) rfl ?_
                refine hpa_iload (by rfl) rfl ?_
                refine hpa_call0 (by rfl) (by rfl) (by rfl) (by rfl) (by rfl) (by rfl) (uf_C (X := ug_x257) (j := 257) rfl rfl (ug_L.cons (uf_rk_ok (by decide +kernel)) (uf_int (uf_int uf_nil))) HA67 (hP23_33 (Int32.ofNat h) (Int32.ofNat 0) rfl (by omega))) ?_
                rintro _ A68 ⟨⟨rfl, CH_A68⟩, wA68, HA68⟩
                have UA68 := (UA67).trans (wA68.le (by decide +kernel : ug_wle ug_x257.2.2.2.1 uM26_33 = true))
                have had0 : A61.2.1 36 h = ro (40 + h) := (hLA61.2.2.2.2 h hh).1.2.2.trans old.2.1
                have wan0 : A61.2.1 34 h = ro h := (hLA61.2.2.2.2 h hh).1.1.trans (huRm_low h10 (by omega))
                have had1 : A67.2.1 36 h = ro (40 + h) := by rw [fA67, fA66, hup2 (by omega)]; exact had0
                have wan1 : A67.2.1 34 h = ro h := by rw [fA67, fA66, hup2 (by omega)]; exact wan0
                have hLA68 : hdL 33 (huRm D n b a4 ro h) n A68 := hLA61.step hh (by rw [dy0, if_pos rfl, CH_A68.1, eA67, hup1, eA66]) (fun k a1_ b1_ => by rw [CH_A68.1, eA67, hup2 (by omega), eA66]) (CH_A68.2.1.trans p7) (by rw [CH_A68.2.2.1, p7, had1, wan1]) (by rw [CH_A68.2.2.2 39 h (by omega) (by omega), fA67, fA66, hup1, gr0]) (fun j x j1 j6 x10 hne => by rw [CH_A68.2.2.2 _ _ (by omega) (by omega), fA67, fA66, hup2 (by omega)])
                refine hpj_iinc (by rfl) rfl ch hk_4294967295 (by omega) (by omega) (fun _ => rfl) (fun z69 ez69 => ?_)
                refine hpa_goto (by rfl) ?_
                exact ih15 z69 (.int (Int32.ofNat 0)) A68 h (by omega) (by omega) hLA68 UA68 HA68
          ·
            have gr0 : huGr D n ro b a4 h = ro (60 + h) - Int32.ofNat 1 := by unfold huGr; rw [if_pos q55]
            have dy0 : huDy D n ro b a4 h = false := by unfold huDy; rw [decide_eq_false (by omega : ¬ (ro (60 + h)).toInt = 0), Bool.false_and, Bool.and_false]
            refine hpa_aload_n (by rfl) rfl ?_
            refine hpa_get (v := .ref 40) (by rfl) (by rfl) (by rfl) rfl ?_
            refine hpa_iload (by rfl) rfl ?_
            refine hpa_dup2IR (by rfl) ?_
            refine hpx_iald (by rfl) (by rfl) (fun h0v70 h1v70 v70 ev70 => ?_)
            rw [cih] at ev70
            have lv70 := ev70.symm.trans ((hLA4.2.2.2.2 h hh).2.2.2.trans old.2.2)
            clear ev70
            subst lv70
            refine hpa_iconst (by rfl) rfl ?_
            refine hpa_isub (by rfl) ?_
            refine hpx_iast (by rfl) (by rfl) (fun A71 h0A71 h1A71 eA71 fA71 gA71 => ?_)
            have UA71 := (UA4).ar eA71 fA71 gA71 (by decide +kernel)
            have HA71 := (HA4).e (congrArg (fun q => q.2) gA71)
            rw [cih] at fA71
            refine hpa_goto (by rfl) ?_
            refine hpa_aload_n (by rfl) rfl ?_
            refine hpa_iload (by rfl) rfl ?_
            refine hpa_iload (by rfl) rfl ?_
            refine hpa_call0 (by rfl) (by rfl) (by rfl) (by rfl) (by rfl) (by rfl) (uf_C (X := ug_x257) (j := 257) rfl rfl (ug_L.cons (uf_rk_ok (by decide +kernel)) (uf_int (uf_int uf_nil))) HA71 (hP23_33 (Int32.ofNat h) (Int32.ofNat 0) rfl (by omega))) ?_
            rintro _ A72 ⟨⟨rfl, CH_A72⟩, wA72, HA72⟩
            have UA72 := (UA71).trans (wA72.le (by decide +kernel : ug_wle ug_x257.2.2.2.1 uM26_33 = true))
            have had0 : A4.2.1 36 h = ro (40 + h) := (hLA4.2.2.2.2 h hh).1.2.2.trans old.2.1
            have wan0 : A4.2.1 34 h = ro h := (hLA4.2.2.2.2 h hh).1.1.trans (huRm_low h10 (by omega))
            have had1 : A71.2.1 36 h = ro (40 + h) := by rw [fA71, hup2 (by omega)]; exact had0
            have wan1 : A71.2.1 34 h = ro h := by rw [fA71, hup2 (by omega)]; exact wan0
            have hLA72 : hdL 33 (huRm D n b a4 ro h) n A72 := hLA4.step hh (by rw [dy0, if_neg (by decide), CH_A72.1, eA71]) (fun k a1_ b1_ => by rw [CH_A72.1, eA71]) (CH_A72.2.1.trans p7) (by rw [CH_A72.2.2.1, p7, had1, wan1]) (by rw [CH_A72.2.2.2 39 h (by omega) (by omega), fA71, hup1, gr0]) (fun j x j1 j6 x10 hne => by rw [CH_A72.2.2.2 _ _ (by omega) (by omega), fA71, hup2 (by omega)])
            refine hpj_iinc (by rfl) rfl ch hk_4294967295 (by omega) (by omega) (fun _ => rfl) (fun z73 ez73 => ?_)
            refine hpa_goto (by rfl) ?_
            exact ih15 z73 (.int (Int32.ofNat 0)) A72 h (by omega) (by omega) hLA72 UA72 HA72
  refine hpa_aload_n (by rfl) rfl ?_
  refine hpa_aload_n (by rfl) rfl ?_
  refine hpa_call0 (by rfl) (by rfl) (by rfl) (by rfl) (by rfl) (by rfl) (uf_C (X := ug_x183) (j := 183) rfl rfl (ug_L.cons (uf_rk_ok (by decide +kernel)) (ug_L.cons (by rcases hT with rfl | rfl <;> exact uf_rk_ok (by decide +kernel)) uf_nil)) hH0 (hP22_33 hT hC hL hO hD)) ?_
  rintro _ _ ⟨⟨rfl, z75, rfl, Z_A74, IN_A74⟩, -, -⟩
  subst Z_A74
  refine hpa_s1 (by rfl) (Or.inr ⟨_, rfl, rfl⟩) rfl ?_
  refine hpa_aload_n (by rfl) rfl ?_
  refine hpj_getK (by rfl) (by rfl) (by rfl) rfl ?_
  refine hpa_iconst (by rfl) rfl ?_
  refine hpj_isub (by rfl) hL.2.1 hk_1 (by omega) (by omega) (fun z76 ez76 => ?_)
  refine hpa_s1 (by rfl) (Or.inr ⟨_, rfl, rfl⟩) rfl ?_
  exact L15 _ z76 (.retAddr 0) A n (by omega) (by omega) (hL.mv (fun _ _ _ => rfl) (fun _ _ _ _ _ => rfl) (huRm_n h10)) U0 hH0
theorem hP26_33 {g d : Nat} {A : hs_A} {T : Nat} {D : hg_D} {ro : Nat → Int32} {n : Nat} {b : Bool} (a3 a4 : Int32) (hT : hTT T) (hC : hdK T D A) (hL : hdL 33 ro n A) (hO : huO ro n) (hD : ∀ t, t < 24 → 0 ≤ D.1 t ∧ D.1 t ≤ 255) (hD2 : 0 ≤ D.2.1 ∧ D.2.1 ≤ 10000) (hb : a3.toInt = if b then 1 else 0) (hTn : (A.1 T 4).toInt = (n : Int)) (hH0 : uf_H A) : hpC g d 26 hm_m26 [.ref 34, .ref (T + 1), .ref 324, .int a3, .int a4] A (fun r A' => r = none ∧ (hdL 33 (huR D n b a4 ro) n A')) := hpC.all (fun f d => hW26_33 a3 a4 hT hC hL hO hD hD2 hb hTn hH0 (fun r A' h => h))
