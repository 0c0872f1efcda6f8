theorem hW136 {g d f : Nat} {A : hs_A} {B : Nat → Int} {n i : Nat} (a1 : Int32) (hA : hmTp B n A) (hBr : ∀ i, i < n → -128 ≤ B i ∧ B i ≤ 127) (h1 : a1.toInt = (i : Int)) {P : Option Value → hs_A → Prop} (hP : ∀ (r : Option Value) (A' : hs_A), (A = A' ∧ ∃ z : Int32, r = some (.int z) ∧ ((i < n ∧ ((0 ≤ B i ∧ z.toInt = B i) ∨ (B i < 0 ∧ -128 ≤ B i ∧ z.toInt = B i + 256))) ∨ (n ≤ i ∧ z.toInt = 0))) → P r A') : hpa (f, g) d (some (.int)) hm_t136 0 [.ref 368, .int a1] [] A P := by
  have k0 := hk_0
  have k255 := hk_255
  have hsz := hA.1
  refine hpa_iload_n (by rfl) rfl ?_
  refine hpa_aload_n (by rfl) rfl ?_
  refine hpj_getK (by rfl) (by rfl) (by rfl) rfl ?_
  refine hpj_cge (by rfl) rfl rfl (fun q1 => ?_) (fun q1 => ?_)
  ·
    refine hpa_iconst (by rfl) rfl ?_
    exact hpa_ireturn (by rfl) rfl (hP _ _ ⟨rfl, _, rfl, Or.inr ⟨by omega, hk_0⟩⟩)
  ·
    refine hpa_aload_n (by rfl) rfl ?_
    refine hpa_get (v := .ref 370) (by rfl) (by rfl) (by rfl) rfl ?_
    refine hpa_iload_n (by rfl) rfl ?_
    refine hpx_bald (by rfl) (by rfl) (fun h0v2 h1v2 v2 ev2 => ?_)
    have tv2 : v2.toInt = B i := by rw [← ev2]; exact (hA.2 (a1.toInt).toNat (by omega)).trans (by rw [show a1.toInt.toNat = i by omega])
    have hbr := hBr i (by omega)
    have ha := hand255 (x := v2) (by omega) (by omega)
    refine hpa_sipush (by rfl) rfl ?_
    refine hpa_iand (by rfl) ?_
    refine hpa_goto (by rfl) ?_
    exact hpa_ireturn (by rfl) rfl (hP _ _ ⟨rfl, _, rfl, Or.inl ⟨by omega, by omega⟩⟩)
theorem hP136 {g d : Nat} {A : hs_A} {B : Nat → Int} {n i : Nat} (a1 : Int32) (hA : hmTp B n A) (hBr : ∀ i, i < n → -128 ≤ B i ∧ B i ≤ 127) (h1 : a1.toInt = (i : Int)) : hpC g d 136 hm_m136 [.ref 368, .int a1] A (fun r A' => A = A' ∧ ∃ z : Int32, r = some (.int z) ∧ ((i < n ∧ ((0 ≤ B i ∧ z.toInt = B i) ∨ (B i < 0 ∧ -128 ≤ B i ∧ z.toInt = B i + 256))) ∨ (n ≤ i ∧ z.toInt = 0))) := hpC.all (fun f d => hW136 a1 hA hBr h1 (fun r A' h => h))
theorem hW137 {g d f : Nat} {A : hs_A} (a1 : Int32) {P : Option Value → hs_A → Prop} (hP : ∀ (r : Option Value) (A' : hs_A), (A = A' ∧ ∃ z : Int32, r = some (.int z) ∧ ((z.toInt = 1 ∧ 48 ≤ a1.toInt ∧ a1.toInt ≤ 57) ∨ (z.toInt = 0 ∧ ¬ (48 ≤ a1.toInt ∧ a1.toInt ≤ 57)))) → P r A') : hpa (f, g) d (some (.boolean)) hm_t137 0 [.int a1] [] A P := by
  have k0 := hk_0
  have k1 := hk_1
  have k48 := hk_48
  have k57 := hk_57
  refine hpa_iload_n (by rfl) rfl ?_
  refine hpa_bipush (by rfl) rfl ?_
  refine hpj_clt (by rfl) rfl hk_48 (fun q1 => ?_) (fun q1 => ?_)
  ·
    refine hpa_iconst (by rfl) rfl ?_
    exact hpa_ireturn (by rfl) (by rfl) (hP _ _ ⟨rfl, _, rfl, Or.inr ⟨hk_0, by omega⟩⟩)
  ·
    refine hpa_iload_n (by rfl) rfl ?_
    refine hpa_bipush (by rfl) rfl ?_
    refine hpj_cgt (by rfl) rfl hk_57 (fun q2 => ?_) (fun q2 => ?_)
    ·
      refine hpa_iconst (by rfl) rfl ?_
      exact hpa_ireturn (by rfl) (by rfl) (hP _ _ ⟨rfl, _, rfl, Or.inr ⟨hk_0, by omega⟩⟩)
    ·
      refine hpa_iconst (by rfl) rfl ?_
      refine hpa_goto (by rfl) ?_
      exact hpa_ireturn (by rfl) (by rfl) (hP _ _ ⟨rfl, _, rfl, Or.inl ⟨hk_1, by omega, by omega⟩⟩)
theorem hP137 {g d : Nat} {A : hs_A} (a1 : Int32) : hpC g d 137 hm_m137 [.int a1] A (fun r A' => A = A' ∧ ∃ z : Int32, r = some (.int z) ∧ ((z.toInt = 1 ∧ 48 ≤ a1.toInt ∧ a1.toInt ≤ 57) ∨ (z.toInt = 0 ∧ ¬ (48 ≤ a1.toInt ∧ a1.toInt ≤ 57)))) := hpC.all (fun f d => hW137 a1 (fun r A' h => h))
theorem hW138 {g d f : Nat} {A : hs_A} (a1 : Int32) {P : Option Value → hs_A → Prop} (hP : ∀ (r : Option Value) (A' : hs_A), (A = A' ∧ ∃ z : Int32, r = some (.int z) ∧ ((z.toInt = 1 ∧ 97 ≤ a1.toInt ∧ a1.toInt ≤ 122) ∨ (z.toInt = 0 ∧ ¬ (97 ≤ a1.toInt ∧ a1.toInt ≤ 122)))) → P r A') : hpa (f, g) d (some (.boolean)) hm_t138 0 [.int a1] [] A P := by
  have k0 := hk_0
  have k1 := hk_1
  have k122 := hk_122
  have k97 := hk_97
  refine hpa_iload_n (by rfl) rfl ?_
  refine hpa_bipush (by rfl) rfl ?_
  refine hpj_clt (by rfl) rfl hk_97 (fun q1 => ?_) (fun q1 => ?_)
  ·
    refine hpa_iconst (by rfl) rfl ?_
    exact hpa_ireturn (by rfl) (by rfl) (hP _ _ ⟨rfl, _, rfl, Or.inr ⟨hk_0, by omega⟩⟩)
  ·
    refine hpa_iload_n (by rfl) rfl ?_
    refine hpa_bipush (by rfl) rfl ?_
    refine hpj_cgt (by rfl) rfl hk_122 (fun q2 => ?_) (fun q2 => ?_)
    ·
      refine hpa_iconst (by rfl) rfl ?_
      exact hpa_ireturn (by rfl) (by rfl) (hP _ _ ⟨rfl, _, rfl, Or.inr ⟨hk_0, by omega⟩⟩)
    ·
      refine hpa_iconst (by rfl) rfl ?_
      refine hpa_goto (by rfl) ?_
      exact hpa_ireturn (by rfl) (by rfl) (hP _ _ ⟨rfl, _, rfl, Or.inl ⟨hk_1, by omega, by omega⟩⟩)
theorem hP138 {g d : Nat} {A : hs_A} (a1 : Int32) : hpC g d 138 hm_m138 [.int a1] A (fun r A' => A = A' ∧ ∃ z : Int32, r = some (.int z) ∧ ((z.toInt = 1 ∧ 97 ≤ a1.toInt ∧ a1.toInt ≤ 122) ∨ (z.toInt = 0 ∧ ¬ (97 ≤ a1.toInt ∧ a1.toInt ≤ 122)))) := hpC.all (fun f d => hW138 a1 (fun r A' h => h))
theorem hW139 {g d f : Nat} {A : hs_A} (a1 : Int64) (a2 : Int32) (hx0 : 0 ≤ a1.toInt) (hx1 : a1.toInt < 1099511627776) (hy0 : 97 ≤ a2.toInt) (hy1 : a2.toInt ≤ 122) {P : Option Value → hs_A → Prop} (hP : ∀ (r : Option Value) (A' : hs_A), (A = A' ∧ ∃ z : Int64, r = some (.long z) ∧ z.toInt = 27 * a1.toInt + (a2.toInt - 96)) → P r A') : hpa (f, g) d (some (.long)) hm_t139 0 [.long a1, .double 0, .int a2] [] A P := by
  have k1 := hk_1
  have k97 := hk_97
  refine hpa_iload_n (by rfl) rfl ?_
  refine hpj_zne (by rfl) rfl (fun q1 => ?_) (fun q1 => False.elim (by omega))
  refine hpa_ldc2_w (by rfl) rfl ?_
  refine hpa_lload_n (by rfl) rfl ?_
  refine hpa_lmul (by rfl) ?_
  refine hpa_iload_n (by rfl) rfl ?_
  refine hpa_bipush (by rfl) rfl ?_
  refine hpj_isub (by rfl) rfl hk_97 (by omega) (by omega) (fun z2 ez2 => ?_)
  refine hpa_iconst (by rfl) rfl ?_
  refine hpj_iadd (by rfl) rfl hk_1 (by omega) (by omega) (fun z3 ez3 => ?_)
  refine hpa_i2l (by rfl) ?_
  refine hpa_ladd (by rfl) ?_
  exact hpa_lreturn (by rfl) rfl (hP _ _ ⟨rfl, _, rfl, by have := h64app (x := a1) (y := z3) hx0 hx1 (by omega) (by omega); omega⟩)
theorem hP139 {g d : Nat} {A : hs_A} (a1 : Int64) (a2 : Int32) (hx0 : 0 ≤ a1.toInt) (hx1 : a1.toInt < 1099511627776) (hy0 : 97 ≤ a2.toInt) (hy1 : a2.toInt ≤ 122) : hpC g d 139 hm_m139 [.long a1, .int a2] A (fun r A' => A = A' ∧ ∃ z : Int64, r = some (.long z) ∧ z.toInt = 27 * a1.toInt + (a2.toInt - 96)) := hpC.all (fun f d => hW139 a1 a2 hx0 hx1 hy0 hy1 (fun r A' h => h))
theorem hW141 {g d f : Nat} {A : hs_A} {j : Nat} (a1 a2 a3 : Int32) (a4 : Int64) (hj : (A.1 367 10).toInt = (j : Int)) (hj4 : j ≤ 500) {P : Option Value → hs_A → Prop} (hP : ∀ (r : Option Value) (A' : hs_A), (r = none ∧ (hmG A A' j a1 a2 a3 a4)) → P r A') : hpa (f, g) d none hm_t141 0 [.ref 368, .int a1, .int a2, .int a3, .long a4, .double 0] [] A P := by
  have k1 := hk_1
  have hij : (A.1 367 10).toNatClampNeg = j := by have := hn_cn (j := A.1 367 10) (by omega); omega
  refine hpa_aload_n (by rfl) rfl ?_
  refine hpa_get (v := .ref 371) (by rfl) (by rfl) (by rfl) rfl ?_
  refine hpa_aload_n (by rfl) rfl ?_
  refine hpj_getK (by rfl) (by rfl) (by rfl) rfl ?_
  refine hpa_iload_n (by rfl) rfl ?_
  refine hpx_iast (by rfl) (by rfl) (fun A1 h0A1 h1A1 eA1 fA1 gA1 => ?_)
  rw [hij] at fA1
  refine hpa_aload_n (by rfl) rfl ?_
  refine hpa_get (v := .ref 372) (by rfl) (by rfl) (by rfl) rfl ?_
  refine hpa_aload_n (by rfl) rfl ?_
  refine hpj_getK (by rfl) (by rfl) (by rfl) (hkA eA1 rfl) ?_
  refine hpa_iload_n (by rfl) rfl ?_
  refine hpx_iast (by rfl) (by rfl) (fun A2 h0A2 h1A2 eA2 fA2 gA2 => ?_)
  rw [hij] at fA2
  refine hpa_aload_n (by rfl) rfl ?_
  refine hpa_get (v := .ref 373) (by rfl) (by rfl) (by rfl) rfl ?_
  refine hpa_aload_n (by rfl) rfl ?_
  refine hpj_getK (by rfl) (by rfl) (by rfl) (hkA eA2 (hkA eA1 rfl)) ?_
  refine hpa_iload_n (by rfl) rfl ?_
  refine hpx_iast (by rfl) (by rfl) (fun A3 h0A3 h1A3 eA3 fA3 gA3 => ?_)
  rw [hij] at fA3
  refine hpa_aload_n (by rfl) rfl ?_
  refine hpa_get (v := .ref 374) (by rfl) (by rfl) (by rfl) rfl ?_
  refine hpa_aload_n (by rfl) rfl ?_
  refine hpj_getK (by rfl) (by rfl) (by rfl) (hkA eA3 (hkA eA2 (hkA eA1 rfl))) ?_
  refine hpa_lload (by rfl) rfl ?_
  refine hpx_last (by rfl) (by rfl) (fun A4 h0A4 h1A4 eA4 fA4 gA4 iA4 => ?_)
  rw [hij] at gA4
  refine hpa_aload_n (by rfl) rfl ?_
  refine hpa_dupR (by rfl) ?_
  refine hpj_getK (by rfl) (by rfl) (by rfl) (hkA eA4 (hkA eA3 (hkA eA2 (hkA eA1 rfl)))) ?_
  refine hpa_iconst (by rfl) rfl ?_
  refine hpj_iadd (by rfl) rfl hk_1 (by omega) (by omega) (fun z5 ez5 => ?_)
  refine hpj_putI (by rfl) (by rfl) (by rfl) (by rfl) (fun A6 eA6 fA6 => ?_)
  exact hpa_return (by rfl) rfl (hP _ _ ⟨rfl, hmG.of eA1 fA1 gA1 eA2 fA2 gA2 eA3 fA3 gA3 eA4 fA4 gA4 iA4 eA6 fA6 (by omega)⟩)
theorem hP141 {g d : Nat} {A : hs_A} {j : Nat} (a1 a2 a3 : Int32) (a4 : Int64) (hj : (A.1 367 10).toInt = (j : Int)) (hj4 : j ≤ 500) : hpC g d 141 hm_m141 [.ref 368, .int a1, .int a2, .int a3, .long a4] A (fun r A' => r = none ∧ (hmG A A' j a1 a2 a3 a4)) := hpC.all (fun f d => hW141 a1 a2 a3 a4 hj hj4 (fun r A' h => h))
theorem hW143 {g d f : Nat} {A : hs_A} {j : Nat} {b : Int} (a1 a2 a3 : Int32) (hj : (A.1 367 10).toInt = (j : Int)) (hj4 : j ≤ 500) (hcb : (0 ≤ b ∧ b ≤ 127 ∧ a2.toInt = b) ∨ (b < 0 ∧ -128 ≤ b ∧ a2.toInt = b + 256)) {P : Option Value → hs_A → Prop} (hP : ∀ (r : Option Value) (A' : hs_A), (∃ z : Int32, r = some (.int z) ∧ z.toInt = 1 ∧ ∃ k : Int32, hmK k.toInt (ht_sg b) ∧ hmG A A' j k a1 (Int32.ofNat 0) (Int64.ofNat 0)) → P r A') : hpa (f, g) d (some (.int)) hm_t143 0 [.ref 368, .int a1, .int a2, .int a3, .retAddr 0] [] A P := by
  have k0 := hk_0
  have k1 := hk_1
  have k10 := hk_10
  have k13 := hk_13
  have k15 := hk_15
  have k3 := hk_3
  have k4 := hk_4
  have k40 := hk_40
  have k41 := hk_41
  have k42 := hk_42
  have k43 := hk_43
  have k45 := hk_45
  have k47 := hk_47
  have k5 := hk_5
  have k59 := hk_59
  have k6 := hk_6
  have k60 := hk_60
  have k61 := hk_61
  have k7 := hk_7
  have k8 := hk_8
  have k9 := hk_9
  refine hpa_iload_n (by rfl) rfl ?_
  refine hpa_bipush (by rfl) rfl ?_
  refine hpj_cne (by rfl) rfl hk_59 (fun q1 => ?_) (fun q1 => ?_)
  ·
    refine hpa_iload_n (by rfl) rfl ?_
    refine hpa_bipush (by rfl) rfl ?_
    refine hpj_cne (by rfl) rfl hk_61 (fun q2 => ?_) (fun q2 => ?_)
    ·
      refine hpa_iload_n (by rfl) rfl ?_
      refine hpa_bipush (by rfl) rfl ?_
      refine hpj_cne (by rfl) rfl hk_40 (fun q3 => ?_) (fun q3 => ?_)
      ·
        refine hpa_iload_n (by rfl) rfl ?_
        refine hpa_bipush (by rfl) rfl ?_
        refine hpj_cne (by rfl) rfl hk_41 (fun q4 => ?_) (fun q4 => ?_)
        ·
          refine hpa_iconst (by rfl) rfl ?_
          refine hpa_s1 (by rfl) (Or.inr ⟨_, rfl, rfl⟩) rfl ?_
          refine hpa_iload_n (by rfl) rfl ?_
          refine hpa_bipush (by rfl) rfl ?_
          refine hpj_cne (by rfl) rfl hk_43 (fun q5 => ?_) (fun q5 => ?_)
          ·
            refine hpa_iload_n (by rfl) rfl ?_
            refine hpa_bipush (by rfl) rfl ?_
            refine hpj_cne (by rfl) rfl hk_45 (fun q6 => ?_) (fun q6 => ?_)
            ·
              refine hpa_iload_n (by rfl) rfl ?_
              refine hpa_bipush (by rfl) rfl ?_
              refine hpj_cne (by rfl) rfl hk_42 (fun q7 => ?_) (fun q7 => ?_)
              ·
                refine hpa_iload_n (by rfl) rfl ?_
                refine hpa_bipush (by rfl) rfl ?_
                refine hpj_cne (by rfl) rfl hk_47 (fun q8 => ?_) (fun q8 => ?_)
                ·
                  refine hpa_iload_n (by rfl) rfl ?_
                  refine hpa_bipush (by rfl) rfl ?_
                  refine hpj_cne (by rfl) rfl hk_60 (fun q9 => ?_) (fun q9 => ?_)
                  ·
                    refine hpa_aload_n (by rfl) rfl ?_
                    refine hpa_iload (by rfl) rfl ?_
                    refine hpa_iload_n (by rfl) rfl ?_
                    refine hpa_iconst (by rfl) rfl ?_
                    refine hpa_lconst (by rfl) rfl ?_
                    refine hpa_call0 (by rfl) (by rfl) (by rfl) (by rfl) (by rfl) (by rfl) (hP141 (Int32.ofNat 3) a1 (Int32.ofNat 0) (Int64.ofNat 0) hj (by omega)) ?_
                    rintro _ A10 ⟨rfl, G_A10⟩
                    refine hpa_iconst (by rfl) rfl ?_
                    have hsb : ht_sg b = 23 := hsg_no (by omega) (by omega) (by omega) (by omega) (by omega) (by omega) (by omega) (by omega) (by omega)
                    exact hpa_ireturn (by rfl) rfl (hP _ _ ⟨_, rfl, hk_1, (Int32.ofNat 3), by rw [hsb, hk_3]; unfold hmK; omega, G_A10⟩)
                  ·
                    refine hpa_bipush (by rfl) rfl ?_
                    refine hpa_s1 (by rfl) (Or.inr ⟨_, rfl, rfl⟩) rfl ?_
                    refine hpa_aload_n (by rfl) rfl ?_
                    refine hpa_iload (by rfl) rfl ?_
                    refine hpa_iload_n (by rfl) rfl ?_
                    refine hpa_iconst (by rfl) rfl ?_
                    refine hpa_lconst (by rfl) rfl ?_
                    refine hpa_call0 (by rfl) (by rfl) (by rfl) (by rfl) (by rfl) (by rfl) (hP141 (Int32.ofNat 13) a1 (Int32.ofNat 0) (Int64.ofNat 0) hj (by omega)) ?_
                    rintro _ A11 ⟨rfl, G_A11⟩
                    refine hpa_iconst (by rfl) rfl ?_
                    have hsb : ht_sg b = 30 := (hsg_one (b := b)).2.2.2.2.2.2.1 (by omega)
                    exact hpa_ireturn (by rfl) rfl (hP _ _ ⟨_, rfl, hk_1, (Int32.ofNat 13), by rw [hsb, hk_13]; unfold hmK; omega, G_A11⟩)
                ·
                  refine hpa_bipush (by rfl) rfl ?_
                  refine hpa_s1 (by rfl) (Or.inr ⟨_, rfl, rfl⟩) rfl ?_
                  refine hpa_iload_n (by rfl) rfl ?_
                  refine hpa_bipush (by rfl) rfl ?_
                  refine hpj_cne (by rfl) rfl hk_60 (fun q12 => ?_) (fun q12 => False.elim (by omega))
                  refine hpa_aload_n (by rfl) rfl ?_
                  refine hpa_iload (by rfl) rfl ?_
                  refine hpa_iload_n (by rfl) rfl ?_
                  refine hpa_iconst (by rfl) rfl ?_
                  refine hpa_lconst (by rfl) rfl ?_
                  refine hpa_call0 (by rfl) (by rfl) (by rfl) (by rfl) (by rfl) (by rfl) (hP141 (Int32.ofNat 15) a1 (Int32.ofNat 0) (Int64.ofNat 0) hj (by omega)) ?_
                  rintro _ A13 ⟨rfl, G_A13⟩
                  refine hpa_iconst (by rfl) rfl ?_
                  have hsb : ht_sg b = 29 := (hsg_one (b := b)).2.2.2.2.2.1 (by omega)
                  exact hpa_ireturn (by rfl) rfl (hP _ _ ⟨_, rfl, hk_1, (Int32.ofNat 15), by rw [hsb, hk_15]; unfold hmK; omega, G_A13⟩)
              ·
                refine hpa_bipush (by rfl) rfl ?_
                refine hpa_s1 (by rfl) (Or.inr ⟨_, rfl, rfl⟩) rfl ?_
                refine hpa_iload_n (by rfl) rfl ?_
                refine hpa_bipush (by rfl) rfl ?_
                refine hpj_cne (by rfl) rfl hk_47 (fun q14 => ?_) (fun q14 => False.elim (by omega))
                refine hpa_iload_n (by rfl) rfl ?_
                refine hpa_bipush (by rfl) rfl ?_
                refine hpj_cne (by rfl) rfl hk_60 (fun q15 => ?_) (fun q15 => False.elim (by omega))
                refine hpa_aload_n (by rfl) rfl ?_
                refine hpa_iload (by rfl) rfl ?_
                refine hpa_iload_n (by rfl) rfl ?_
                refine hpa_iconst (by rfl) rfl ?_
                refine hpa_lconst (by rfl) rfl ?_
                refine hpa_call0 (by rfl) (by rfl) (by rfl) (by rfl) (by rfl) (by rfl) (hP141 (Int32.ofNat 10) a1 (Int32.ofNat 0) (Int64.ofNat 0) hj (by omega)) ?_
                rintro _ A16 ⟨rfl, G_A16⟩
                refine hpa_iconst (by rfl) rfl ?_
                have hsb : ht_sg b = 28 := (hsg_one (b := b)).2.2.2.2.1 (by omega)
                exact hpa_ireturn (by rfl) rfl (hP _ _ ⟨_, rfl, hk_1, (Int32.ofNat 10), by rw [hsb, hk_10]; unfold hmK; omega, G_A16⟩)
            ·
              refine hpa_bipush (by rfl) rfl ?_
              refine hpa_s1 (by rfl) (Or.inr ⟨_, rfl, rfl⟩) rfl ?_
              refine hpa_iload_n (by rfl) rfl ?_
              refine hpa_bipush (by rfl) rfl ?_
              refine hpj_cne (by rfl) rfl hk_42 (fun q17 => ?_) (fun q17 => False.elim (by omega))
              refine hpa_iload_n (by rfl) rfl ?_
              refine hpa_bipush (by rfl) rfl ?_
              refine hpj_cne (by rfl) rfl hk_47 (fun q18 => ?_) (fun q18 => False.elim (by omega))
              refine hpa_iload_n (by rfl) rfl ?_
              refine hpa_bipush (by rfl) rfl ?_
              refine hpj_cne (by rfl) rfl hk_60 (fun q19 => ?_) (fun q19 => False.elim (by omega))
              refine hpa_aload_n (by rfl) rfl ?_
              refine hpa_iload (by rfl) rfl ?_
              refine hpa_iload_n (by rfl) rfl ?_
              refine hpa_iconst (by rfl) rfl ?_
              refine hpa_lconst (by rfl) rfl ?_
              refine hpa_call0 (by rfl) (by rfl) (by rfl) (by rfl) (by rfl) (by rfl) (hP141 (Int32.ofNat 9) a1 (Int32.ofNat 0) (Int64.ofNat 0) hj (by omega)) ?_
              rintro _ A20 ⟨rfl, G_A20⟩
              refine hpa_iconst (by rfl) rfl ?_
              have hsb : ht_sg b = 27 := (hsg_one (b := b)).2.2.2.1 (by omega)
              exact hpa_ireturn (by rfl) rfl (hP _ _ ⟨_, rfl, hk_1, (Int32.ofNat 9), by rw [hsb, hk_9]; unfold hmK; omega, G_A20⟩)
          ·
            refine hpa_bipush (by rfl) rfl ?_
            refine hpa_s1 (by rfl) (Or.inr ⟨_, rfl, rfl⟩) rfl ?_
            refine hpa_iload_n (by rfl) rfl ?_
            refine hpa_bipush (by rfl) rfl ?_
            refine hpj_cne (by rfl) rfl hk_45 (fun q21 => ?_) (fun q21 => False.elim (by omega))
            refine hpa_iload_n (by rfl) rfl ?_
            refine hpa_bipush (by rfl) rfl ?_
            refine hpj_cne (by rfl) rfl hk_42 (fun q22 => ?_) (fun q22 => False.elim (by omega))
            refine hpa_iload_n (by rfl) rfl ?_
            refine hpa_bipush (by rfl) rfl ?_
            refine hpj_cne (by rfl) rfl hk_47 (fun q23 => ?_) (fun q23 => False.elim (by omega))
            refine hpa_iload_n (by rfl) rfl ?_
            refine hpa_bipush (by rfl) rfl ?_
            refine hpj_cne (by rfl) rfl hk_60 (fun q24 => ?_) (fun q24 => False.elim (by omega))
            refine hpa_aload_n (by rfl) rfl ?_
            refine hpa_iload (by rfl) rfl ?_
            refine hpa_iload_n (by rfl) rfl ?_
            refine hpa_iconst (by rfl) rfl ?_
            refine hpa_lconst (by rfl) rfl ?_
            refine hpa_call0 (by rfl) (by rfl) (by rfl) (by rfl) (by rfl) (by rfl) (hP141 (Int32.ofNat 8) a1 (Int32.ofNat 0) (Int64.ofNat 0) hj (by omega)) ?_
            rintro _ A25 ⟨rfl, G_A25⟩
            refine hpa_iconst (by rfl) rfl ?_
            have hsb : ht_sg b = 26 := (hsg_one (b := b)).2.2.1 (by omega)
            exact hpa_ireturn (by rfl) rfl (hP _ _ ⟨_, rfl, hk_1, (Int32.ofNat 8), by rw [hsb, hk_8]; unfold hmK; omega, G_A25⟩)
        ·
          refine hpa_bipush (by rfl) rfl ?_
          refine hpa_goto (by rfl) ?_
          refine hpa_s1 (by rfl) (Or.inr ⟨_, rfl, rfl⟩) rfl ?_
          refine hpa_iload_n (by rfl) rfl ?_
          refine hpa_bipush (by rfl) rfl ?_
          refine hpj_cne (by rfl) rfl hk_43 (fun q26 => ?_) (fun q26 => False.elim (by omega))
          refine hpa_iload_n (by rfl) rfl ?_
          refine hpa_bipush (by rfl) rfl ?_
          refine hpj_cne (by rfl) rfl hk_45 (fun q27 => ?_) (fun q27 => False.elim (by omega))
          refine hpa_iload_n (by rfl) rfl ?_
          refine hpa_bipush (by rfl) rfl ?_
          refine hpj_cne (by rfl) rfl hk_42 (fun q28 => ?_) (fun q28 => False.elim (by omega))
          refine hpa_iload_n (by rfl) rfl ?_
          refine hpa_bipush (by rfl) rfl ?_
          refine hpj_cne (by rfl) rfl hk_47 (fun q29 => ?_) (fun q29 => False.elim (by omega))
          refine hpa_iload_n (by rfl) rfl ?_
          refine hpa_bipush (by rfl) rfl ?_
          refine hpj_cne (by rfl) rfl hk_60 (fun q30 => ?_) (fun q30 => False.elim (by omega))
          refine hpa_aload_n (by rfl) rfl ?_
          refine hpa_iload (by rfl) rfl ?_
          refine hpa_iload_n (by rfl) rfl ?_
          refine hpa_iconst (by rfl) rfl ?_
          refine hpa_lconst (by rfl) rfl ?_
          refine hpa_call0 (by rfl) (by rfl) (by rfl) (by rfl) (by rfl) (by rfl) (hP141 (Int32.ofNat 7) a1 (Int32.ofNat 0) (Int64.ofNat 0) hj (by omega)) ?_
          rintro _ A31 ⟨rfl, G_A31⟩
          refine hpa_iconst (by rfl) rfl ?_
          have hsb : ht_sg b = 32 := (hsg_one (b := b)).2.2.2.2.2.2.2.2 (by omega)
          exact hpa_ireturn (by rfl) rfl (hP _ _ ⟨_, rfl, hk_1, (Int32.ofNat 7), by rw [hsb, hk_7]; unfold hmK; omega, G_A31⟩)
      ·
        refine hpa_bipush (by rfl) rfl ?_
        refine hpa_goto (by rfl) ?_
        refine hpa_s1 (by rfl) (Or.inr ⟨_, rfl, rfl⟩) rfl ?_
        refine hpa_iload_n (by rfl) rfl ?_
        refine hpa_bipush (by rfl) rfl ?_
        refine hpj_cne (by rfl) rfl hk_43 (fun q32 => ?_) (fun q32 => False.elim (by omega))
        refine hpa_iload_n (by rfl) rfl ?_
        refine hpa_bipush (by rfl) rfl ?_
        refine hpj_cne (by rfl) rfl hk_45 (fun q33 => ?_) (fun q33 => False.elim (by omega))
        refine hpa_iload_n (by rfl) rfl ?_
        refine hpa_bipush (by rfl) rfl ?_
        refine hpj_cne (by rfl) rfl hk_42 (fun q34 => ?_) (fun q34 => False.elim (by omega))
        refine hpa_iload_n (by rfl) rfl ?_
        refine hpa_bipush (by rfl) rfl ?_
        refine hpj_cne (by rfl) rfl hk_47 (fun q35 => ?_) (fun q35 => False.elim (by omega))
        refine hpa_iload_n (by rfl) rfl ?_
        refine hpa_bipush (by rfl) rfl ?_
        refine hpj_cne (by rfl) rfl hk_60 (fun q36 => ?_) (fun q36 => False.elim (by omega))
        refine hpa_aload_n (by rfl) rfl ?_
        refine hpa_iload (by rfl) rfl ?_
        refine hpa_iload_n (by rfl) rfl ?_
        refine hpa_iconst (by rfl) rfl ?_
        refine hpa_lconst (by rfl) rfl ?_
        refine hpa_call0 (by rfl) (by rfl) (by rfl) (by rfl) (by rfl) (by rfl) (hP141 (Int32.ofNat 6) a1 (Int32.ofNat 0) (Int64.ofNat 0) hj (by omega)) ?_
        rintro _ A37 ⟨rfl, G_A37⟩
        refine hpa_iconst (by rfl) rfl ?_
        have hsb : ht_sg b = 31 := (hsg_one (b := b)).2.2.2.2.2.2.2.1 (by omega)
        exact hpa_ireturn (by rfl) rfl (hP _ _ ⟨_, rfl, hk_1, (Int32.ofNat 6), by rw [hsb, hk_6]; unfold hmK; omega, G_A37⟩)
    ·
      refine hpa_iconst (by rfl) rfl ?_
      refine hpa_goto (by rfl) ?_
      refine hpa_s1 (by rfl) (Or.inr ⟨_, rfl, rfl⟩) rfl ?_
      refine hpa_iload_n (by rfl) rfl ?_
      refine hpa_bipush (by rfl) rfl ?_
      refine hpj_cne (by rfl) rfl hk_43 (fun q38 => ?_) (fun q38 => False.elim (by omega))
      refine hpa_iload_n (by rfl) rfl ?_
      refine hpa_bipush (by rfl) rfl ?_
      refine hpj_cne (by rfl) rfl hk_45 (fun q39 => ?_) (fun q39 => False.elim (by omega))
      refine hpa_iload_n (by rfl) rfl ?_
      refine hpa_bipush (by rfl) rfl ?_
      refine hpj_cne (by rfl) rfl hk_42 (fun q40 => ?_) (fun q40 => False.elim (by omega))
      refine hpa_iload_n (by rfl) rfl ?_
      refine hpa_bipush (by rfl) rfl ?_
      refine hpj_cne (by rfl) rfl hk_47 (fun q41 => ?_) (fun q41 => False.elim (by omega))
      refine hpa_iload_n (by rfl) rfl ?_
      refine hpa_bipush (by rfl) rfl ?_
      refine hpj_cne (by rfl) rfl hk_60 (fun q42 => ?_) (fun q42 => False.elim (by omega))
      refine hpa_aload_n (by rfl) rfl ?_
      refine hpa_iload (by rfl) rfl ?_
      refine hpa_iload_n (by rfl) rfl ?_
      refine hpa_iconst (by rfl) rfl ?_
      refine hpa_lconst (by rfl) rfl ?_
      refine hpa_call0 (by rfl) (by rfl) (by rfl) (by rfl) (by rfl) (by rfl) (hP141 (Int32.ofNat 5) a1 (Int32.ofNat 0) (Int64.ofNat 0) hj (by omega)) ?_
      rintro _ A43 ⟨rfl, G_A43⟩
      refine hpa_iconst (by rfl) rfl ?_
      have hsb : ht_sg b = 25 := (hsg_one (b := b)).2.1 (by omega)
      exact hpa_ireturn (by rfl) rfl (hP _ _ ⟨_, rfl, hk_1, (Int32.ofNat 5), by rw [hsb, hk_5]; unfold hmK; omega, G_A43⟩)
  ·
    refine hpa_iconst (by rfl) rfl ?_
    refine hpa_goto (by rfl) ?_
    refine hpa_s1 (by rfl) (Or.inr ⟨_, rfl, rfl⟩) rfl ?_
    refine hpa_iload_n (by rfl) rfl ?_
    refine hpa_bipush (by rfl) rfl ?_
    refine hpj_cne (by rfl) rfl hk_43 (fun q44 => ?_) (fun q44 => False.elim (by omega))
    refine hpa_iload_n (by rfl) rfl ?_
    refine hpa_bipush (by rfl) rfl ?_
    refine hpj_cne (by rfl) rfl hk_45 (fun q45 => ?_) (fun q45 => False.elim (by omega))
    refine hpa_iload_n (by rfl) rfl ?_
    refine hpa_bipush (by rfl) rfl ?_
    refine hpj_cne (by rfl) rfl hk_42 (fun q46 => ?_) (fun q46 => False.elim (by omega))
    refine hpa_iload_n (by rfl) rfl ?_
    refine hpa_bipush (by rfl) rfl ?_
    refine hpj_cne (by rfl) rfl hk_47 (fun q47 => ?_) (fun q47 => False.elim (by omega))
    refine hpa_iload_n (by rfl) rfl ?_
    refine hpa_bipush (by rfl) rfl ?_
    refine hpj_cne (by rfl) rfl hk_60 (fun q48 => ?_) (fun q48 => False.elim (by omega))
    refine hpa_aload_n (by rfl) rfl ?_
    refine hpa_iload (by rfl) rfl ?_
    refine hpa_iload_n (by rfl) rfl ?_
    refine hpa_iconst (by rfl) rfl ?_
    refine hpa_lconst (by rfl) rfl ?_
    refine hpa_call0 (by rfl) (by rfl) (by rfl) (by rfl) (by rfl) (by rfl) (hP141 (Int32.ofNat 4) a1 (Int32.ofNat 0) (Int64.ofNat 0) hj (by omega)) ?_
    rintro _ A49 ⟨rfl, G_A49⟩
    refine hpa_iconst (by rfl) rfl ?_
    have hsb : ht_sg b = 24 := (hsg_one (b := b)).1 (by omega)
    exact hpa_ireturn (by rfl) rfl (hP _ _ ⟨_, rfl, hk_1, (Int32.ofNat 4), by rw [hsb, hk_4]; unfold hmK; omega, G_A49⟩)
theorem hP143 {g d : Nat} {A : hs_A} {j : Nat} {b : Int} (a1 a2 a3 : Int32) (hj : (A.1 367 10).toInt = (j : Int)) (hj4 : j ≤ 500) (hcb : (0 ≤ b ∧ b ≤ 127 ∧ a2.toInt = b) ∨ (b < 0 ∧ -128 ≤ b ∧ a2.toInt = b + 256)) : hpC g d 143 hm_m143 [.ref 368, .int a1, .int a2, .int a3] A (fun r A' => ∃ z : Int32, r = some (.int z) ∧ z.toInt = 1 ∧ ∃ k : Int32, hmK k.toInt (ht_sg b) ∧ hmG A A' j k a1 (Int32.ofNat 0) (Int64.ofNat 0)) := hpC.all (fun f d => hW143 a1 a2 a3 hj hj4 hcb (fun r A' h => h))
theorem hW142 {g d f : Nat} {A : hs_A} {B : Nat → Int} {n : Nat} (hA : hmTp B n A) (hn : n ≤ 2000) (hBr : ∀ i, i < n → -128 ≤ B i ∧ B i ≤ 127) (hU : hcU A) {P : Option Value → hs_A → Prop} (hP : ∀ (r : Option Value) (A' : hs_A), (r = none ∧ (hmC A A' ∧ (hmT (ht_K B n) (ht_W B n) (fun u => (ht_S B n u : Int)) A' ∧ hmE (ht_K B n) (ht_E B n) A'))) → P r A') : hpa (f, g) d none hm_t142 0 [.ref 368, .retAddr 0, .retAddr 0, .retAddr 0, .retAddr 0, .retAddr 0, .retAddr 0, .retAddr 0] [] A P := by
  have k0 := hk_0
  have k1 := hk_1
  have k10 := hk_10
  have k13 := hk_13
  have k2 := hk_2
  have k20 := hk_20
  have k3 := hk_3
  have k32 := hk_32
  have k4 := hk_4
  have k400 := hk_400
  have k48 := hk_48
  have k8 := hk_8
  have k9 := hk_9
  have LL : ∀ f : Nat, (∀ (x7_1 : Int32) (x7_2 : Value) (x7_3 : Value) (x7_4 : Value) (x7_5 : Value) (x7_6 : Value) (x7_7 : Value) (A7 : hs_A) (j : Nat) (i : Nat) (li : x7_1.toInt = (i : Int)) (hi : i ≤ n) (run : ht_run B n ht_bl i = (ht_S B n j)) (tk : (A7.1 367 10).toInt = (j : Int)) (j401 : j ≤ 401) (fr : hmC A A7) (dn : ∀ u, u < j → hmD B n A7 u), hpa (f, g) d none hm_t142 7 [.ref 368, .int x7_1, x7_2, x7_3, x7_4, x7_5, x7_6, x7_7] [] A7 P) ∧ (∀ (x85_1 : Int32) (x85_2 : Int32) (x85_3 : Int32) (x85_4 : Int64) (x85_6 : Value) (x85_7 : Value) (A85 : hs_A) (j : Nat) (m : Nat) (tk : (A85.1 367 10).toInt = (j : Int)) (j401 : j ≤ 400) (fr : hmC A A85) (dn : ∀ u, u < j → hmD B n A85 u) (li : x85_1.toInt = ((ht_S B n j) : Int)) (lm : x85_3.toInt = (m : Int)) (hpn : (ht_S B n j) < n) (hl : ht_le (B (ht_S B n j)) = true) (hm : (ht_S B n j) + m ≤ n) (hall : ∀ i, (ht_S B n j) ≤ i → i < (ht_S B n j) + m → ht_le (B i) = true) (run : ht_run B n ht_le ((ht_S B n j) + m) = ht_run B n ht_le (ht_S B n j)) (nm : m ≤ 8 → x85_4.toInt = ht_g 27 96 (ht_rv B (ht_S B n j) m)), hpa (f, g) d none hm_t142 85 [.ref 368, .int x85_1, .int x85_2, .int x85_3, .long x85_4, .double 0, x85_6, x85_7] [] A85 P) ∧ (∀ (x146_1 : Int32) (x146_2 : Int32) (x146_3 : Int32) (x146_4 : Int64) (x146_6 : Int32) (x146_7 : Int32) (A146 : hs_A) (j : Nat) (m : Nat) (tk : (A146.1 367 10).toInt = (j : Int)) (j401 : j ≤ 400) (fr : hmC A A146) (dn : ∀ u, u < j → hmD B n A146 u) (li : x146_1.toInt = ((ht_S B n j) : Int)) (lm : x146_3.toInt = (m : Int)) (hpn : (ht_S B n j) < n) (hl : ht_le (B (ht_S B n j)) = true) (hm : (ht_S B n j) + m ≤ n) (hall : ∀ i, (ht_S B n j) ≤ i → i < (ht_S B n j) + m → ht_le (B i) = true) (hend : ht_run B n ht_le (ht_S B n j) = (ht_S B n j) + m) (hm8 : m ≤ 8) (nm : x146_4.toInt = ht_g 27 96 (ht_rv B (ht_S B n j) m)) (k0 : 0 ≤ x146_7.toInt) (k20 : x146_7.toInt ≤ 20) (kd : (x146_6.toInt = 1 ∧ ∀ q : Nat, (q : Int) < x146_7.toInt → ht_ws[q]? ≠ some (ht_sub B (ht_S B n j) ((ht_S B n j) + m))) ∨ (∃ q : Nat, (q : Int) < x146_7.toInt ∧ x146_6.toInt = 20 + (q : Int) ∧ ht_ws[q]? = some (ht_sub B (ht_S B n j) ((ht_S B n j) + m)))), hpa (f, g) d none hm_t142 146 [.ref 368, .int x146_1, .int x146_2, .int x146_3, .long x146_4, .double 0, .int x146_6, .int x146_7] [] A146 P) ∧ (∀ (x208_1 : Int32) (x208_2 : Int32) (x208_3 : Int32) (x208_4 : Int32) (x208_5 : Value) (x208_6 : Value) (x208_7 : Value) (A208 : hs_A) (j : Nat) (m : Nat) (tk : (A208.1 367 10).toInt = (j : Int)) (j401 : j ≤ 400) (fr : hmC A A208) (dn : ∀ u, u < j → hmD B n A208 u) (li : x208_1.toInt = ((ht_S B n j) : Int)) (lm : x208_3.toInt = (m : Int)) (hpn : (ht_S B n j) < n) (hnl : ¬ ht_le (B (ht_S B n j)) = true) (hl : ht_di (B (ht_S B n j)) = true) (hm : (ht_S B n j) + m ≤ n) (hall : ∀ i, (ht_S B n j) ≤ i → i < (ht_S B n j) + m → ht_di (B i) = true) (run : ht_run B n ht_di ((ht_S B n j) + m) = ht_run B n ht_di (ht_S B n j)) (nm : m ≤ 4 → x208_4.toInt = ht_g 10 48 (ht_rv B (ht_S B n j) m)), hpa (f, g) d none hm_t142 208 [.ref 368, .int x208_1, .int x208_2, .int x208_3, .int x208_4, x208_5, x208_6, x208_7] [] A208 P) := by
    intro f
    induction f with
    | zero => exact ⟨(by intros; exact hpa.zero), (by intros; exact hpa.zero), (by intros; exact hpa.zero), (by intros; exact hpa.zero)⟩
    | succ f ih =>
      obtain ⟨ih7, ih85, ih146, ih208⟩ := ih
      refine ⟨?_, ?_, ?_, ?_⟩
      ·
        intro x7_1 x7_2 x7_3 x7_4 x7_5 x7_6 x7_7 A7 j i li hi run tk j401 fr dn
        have hA7 := hA.C fr
        have hsz := hA7.1
        have hsl := ht_S_le B n j
        refine hpa_aload_nS (by rfl) rfl ?_
        refine hpj_getK (by rfl) (by rfl) (by rfl) rfl ?_
        refine hpa_sipush (by rfl) rfl ?_
        refine hpj_cgt (by rfl) rfl hk_400 (fun q1 => ?_) (fun q1 => ?_)
        ·
          exact hpa_return (by rfl) rfl (hP _ _ ⟨rfl, fr, hmT.of dn (fun u h1 _ => by omega) (hU.C fr)⟩)
        ·
          refine hpa_aload_n (by rfl) rfl ?_
          refine hpa_iload_n (by rfl) rfl ?_
          refine hpa_call0 (by rfl) (by rfl) (by rfl) (by rfl) (by rfl) (by rfl) (hP136 x7_1 hA7 hBr li) ?_
          rintro _ _ ⟨rfl, z3, rfl, by_A2⟩
          refine hpa_s1 (by rfl) (Or.inl ⟨_, rfl, rfl⟩) rfl ?_
          refine hpa_iload_n (by rfl) rfl ?_
          refine hpa_aload_n (by rfl) rfl ?_
          refine hpj_getK (by rfl) (by rfl) (by rfl) rfl ?_
          refine hpj_clt (by rfl) rfl rfl (fun q4 => ?_) (fun q4 => ?_)
          ·
            refine hpa_iload_n (by rfl) rfl ?_
            refine hpa_bipush (by rfl) rfl ?_
            refine hpj_ceq (by rfl) rfl hk_9 (fun q5 => ?_) (fun q5 => ?_)
            ·
              refine hpj_iinc (by rfl) rfl rfl hk_1 (by omega) (by omega) (fun _ => rfl) (fun z6 ez6 => ?_)
              refine hpa_goto (by rfl) ?_
              refine hpa_goto (by rfl) ?_
              exact ih7 z6 (.int z3) (x7_3) (x7_4) (x7_5) (x7_6) (x7_7) A7 j (i + 1) (by omega) (by omega) (by rw [← ht_run_go B n (i := i) (by omega) (ht_bl_iff.mpr (by omega))]; exact run) tk j401 fr dn
            ·
              refine hpa_iload_n (by rfl) rfl ?_
              refine hpa_bipush (by rfl) rfl ?_
              refine hpj_ceq (by rfl) rfl hk_10 (fun q7 => ?_) (fun q7 => ?_)
              ·
                refine hpj_iinc (by rfl) rfl rfl hk_1 (by omega) (by omega) (fun _ => rfl) (fun z8 ez8 => ?_)
                refine hpa_goto (by rfl) ?_
                refine hpa_goto (by rfl) ?_
                exact ih7 z8 (.int z3) (x7_3) (x7_4) (x7_5) (x7_6) (x7_7) A7 j (i + 1) (by omega) (by omega) (by rw [← ht_run_go B n (i := i) (by omega) (ht_bl_iff.mpr (by omega))]; exact run) tk j401 fr dn
              ·
                refine hpa_iload_n (by rfl) rfl ?_
                refine hpa_bipush (by rfl) rfl ?_
                refine hpj_ceq (by rfl) rfl hk_13 (fun q9 => ?_) (fun q9 => ?_)
                ·
                  refine hpj_iinc (by rfl) rfl rfl hk_1 (by omega) (by omega) (fun _ => rfl) (fun z10 ez10 => ?_)
                  refine hpa_goto (by rfl) ?_
                  refine hpa_goto (by rfl) ?_
                  exact ih7 z10 (.int z3) (x7_3) (x7_4) (x7_5) (x7_6) (x7_7) A7 j (i + 1) (by omega) (by omega) (by rw [← ht_run_go B n (i := i) (by omega) (ht_bl_iff.mpr (by omega))]; exact run) tk j401 fr dn
                ·
                  refine hpa_iload_n (by rfl) rfl ?_
                  refine hpa_bipush (by rfl) rfl ?_
                  refine hpj_cne (by rfl) rfl hk_32 (fun q11 => ?_) (fun q11 => ?_)
                  ·
                    have hiS : i = (ht_S B n j) := by rw [← run]; exact (ht_run_stop B n (fun w => absurd (ht_bl_iff.mp w.2) (by omega))).symm
                    rw [hiS] at by_A2
                    refine hpa_iload_n (by rfl) rfl ?_
                    refine hpa_call2 (by rfl) (by decide) (by rfl) (by rfl) (by rfl) (hP138 z3) ?_
                    rintro _ _ ⟨rfl, z13, rfl, (⟨fz_A12, lo_A12, hi_A12⟩ | ⟨fz_A12, no_A12⟩)⟩
                    ·
                      have hpn : (ht_S B n j) < n := by omega
                      have hl : ht_le (B (ht_S B n j)) = true := ht_le_iff.mpr ⟨by omega, by omega⟩
                      refine hpj_zeq (by rfl) rfl (fun q14 => False.elim (by omega)) (fun q14 => ?_)
                      refine hpa_iconst (by rfl) rfl ?_
                      refine hpa_s1 (by rfl) (Or.inl ⟨_, rfl, rfl⟩) rfl ?_
                      refine hpa_lconst (by rfl) rfl ?_
                      refine hpa_lstore (by rfl) rfl ?_
                      exact ih85 x7_1 z3 (Int32.ofNat 0) (Int64.ofNat 0) (x7_6) (x7_7) A7 j 0 tk (by omega) fr dn (by omega) hk_0 hpn hl (by omega) (fun i h1 h2 => absurd h2 (by omega)) (by rw [Nat.add_zero]) (fun _ => by show (Int64.ofNat 0).toInt = 0; decide)
                    ·
                      have hpn : (ht_S B n j) < n := by omega
                      have hnl : ¬ ht_le (B (ht_S B n j)) = true := ht_not_le (by omega)
                      refine hpj_zeq (by rfl) rfl (fun q15 => ?_) (fun q15 => False.elim (by omega))
                      refine hpa_iload_n (by rfl) rfl ?_
                      refine hpa_call2 (by rfl) (by decide) (by rfl) (by rfl) (by rfl) (hP137 z3) ?_
                      rintro _ _ ⟨rfl, z17, rfl, (⟨fz_A16, lo_A16, hi_A16⟩ | ⟨fz_A16, no_A16⟩)⟩
                      ·
                        have hl : ht_di (B (ht_S B n j)) = true := ht_di_iff.mpr ⟨by omega, by omega⟩
                        refine hpj_zeq (by rfl) rfl (fun q18 => False.elim (by omega)) (fun q18 => ?_)
                        refine hpa_iconst (by rfl) rfl ?_
                        refine hpa_s1 (by rfl) (Or.inl ⟨_, rfl, rfl⟩) rfl ?_
                        refine hpa_iconst (by rfl) rfl ?_
                        refine hpa_s1 (by rfl) (Or.inr ⟨_, rfl, rfl⟩) rfl ?_
                        exact ih208 x7_1 z3 (Int32.ofNat 0) (Int32.ofNat 0) (x7_5) (x7_6) (x7_7) A7 j 0 tk (by omega) fr dn (by omega) hk_0 hpn hnl hl (by omega) (fun i h1 h2 => absurd h2 (by omega)) (by rw [Nat.add_zero]) (fun _ => hk_0)
                      ·
                        have hnd : ¬ ht_di (B (ht_S B n j)) = true := ht_not_di (by omega)
                        refine hpj_zeq (by rfl) rfl (fun q19 => ?_) (fun q19 => False.elim (by omega))
                        refine hpa_iload_n (by rfl) rfl ?_
                        refine hpa_aload_n (by rfl) rfl ?_
                        refine hpa_iload_n (by rfl) rfl ?_
                        refine hpa_iload_n (by rfl) rfl ?_
                        refine hpa_aload_n (by rfl) rfl ?_
                        refine hpa_iload_n (by rfl) rfl ?_
                        refine hpa_iconst (by rfl) rfl ?_
                        refine hpj_iadd (by rfl) rfl hk_1 (by omega) (by omega) (fun z20 ez20 => ?_)
                        refine hpa_call0 (by rfl) (by rfl) (by rfl) (by rfl) (by rfl) (by rfl) (hP136 z20 hA7 hBr (show _ = (((ht_S B n j) + 1 : Nat) : Int) by omega)) ?_
                        rintro _ _ ⟨rfl, z22, rfl, by_A21⟩
                        refine hpa_call0 (by rfl) (by rfl) (by rfl) (by rfl) (by rfl) (by rfl) (hP143 x7_1 z3 z22 tk (by omega) (show (0 ≤ B (ht_S B n j) ∧ B (ht_S B n j) ≤ 127 ∧ z3.toInt = B (ht_S B n j)) ∨ (B (ht_S B n j) < 0 ∧ -128 ≤ B (ht_S B n j) ∧ z3.toInt = B (ht_S B n j) + 256) by have := hBr (ht_S B n j) hpn; omega)) ?_
                        rintro _ A23 ⟨z24, rfl, fz_A23, GX_A23⟩
                        obtain ⟨kx, hkx, Gx⟩ := GX_A23
                        have hKj : ht_K B n j = ht_sg (B (ht_S B n j)) := ht_kind_sg hpn hnl hnd
                        have hsr := ht_sg_rng (B (ht_S B n j))
                        have htk2 := Gx.1
                        have hfr2 := fr.more Gx
                        have hdn2 := hmD.more dn Gx (by rw [hKj]; exact hkx) (by omega) (fun q => absurd q (by omega)) (fun q => absurd q (by omega))
                        have htk3 := htk2
                        rw [show (j : Int) + 1 = ((j + 1 : Nat) : Int) by omega] at htk2
                        refine hpj_iadd (by rfl) rfl rfl (by omega) (by omega) (fun z25 ez25 => ?_)
                        refine hpa_s1 (by rfl) (Or.inl ⟨_, rfl, rfl⟩) rfl ?_
                        refine hpa_goto (by rfl) ?_
                        exact ih7 z25 (.int z3) (x7_3) (x7_4) (x7_5) (x7_6) (x7_7) A23 (j + 1) ((ht_S B n j) + 1) (by omega) (by omega) (by rw [show ((ht_S B n j) + 1) = ht_end B n (ht_S B n j) from by rw [ht_end_sg hpn hnl hnd]]; rfl) htk2 (by omega) hfr2 hdn2
                  ·
                    refine hpj_iinc (by rfl) rfl rfl hk_1 (by omega) (by omega) (fun _ => rfl) (fun z26 ez26 => ?_)
                    refine hpa_goto (by rfl) ?_
                    refine hpa_goto (by rfl) ?_
                    exact ih7 z26 (.int z3) (x7_3) (x7_4) (x7_5) (x7_6) (x7_7) A7 j (i + 1) (by omega) (by omega) (by rw [← ht_run_go B n (i := i) (by omega) (ht_bl_iff.mpr (by omega))]; exact run) tk j401 fr dn
          ·
            have hiS : i = (ht_S B n j) := by rw [← run]; exact (ht_run_stop B n (fun w => absurd w.1 (by omega))).symm
            refine hpa_aload_n (by rfl) rfl ?_
            refine hpa_iconst (by rfl) rfl ?_
            refine hpa_aload_n (by rfl) rfl ?_
            refine hpj_getK (by rfl) (by rfl) (by rfl) rfl ?_
            refine hpa_iconst (by rfl) rfl ?_
            refine hpa_lconst (by rfl) rfl ?_
            refine hpa_call0 (by rfl) (by rfl) (by rfl) (by rfl) (by rfl) (by rfl) (hP141 (Int32.ofNat 0) (A7.1 367 4) (Int32.ofNat 0) (Int64.ofNat 0) tk (by omega)) ?_
            rintro _ A27 ⟨rfl, G_A27⟩
            have hKj : ht_K B n j = 22 := ht_kind_end (by omega)
            have hdn2 := hmD.more dn G_A27 (by rw [hKj, hk_0]; exact hmK0) (by omega) (fun q => absurd q (by omega)) (fun q => absurd q (by omega))
            exact hpa_return (by rfl) rfl (hP _ _ ⟨rfl, fr.more G_A27, hmT.of hdn2 (fun u h1 h2 => by by_cases q : u ≤ j; (exact Nat.lt_succ_of_le q); exact absurd (h2 j (by omega)) (fun w => by omega)) (hU.C (fr.more G_A27))⟩)
      ·
        intro x85_1 x85_2 x85_3 x85_4 x85_6 x85_7 A85 j m tk j401 fr dn li lm hpn hl hm hall run nm
        have hA7 := hA.C fr
        have hsz := hA7.1
        have hsl := ht_S_le B n j
        refine hpa_aload_nS (by rfl) rfl ?_
        refine hpa_iload_n (by rfl) rfl ?_
        refine hpa_iload_n (by rfl) rfl ?_
        refine hpj_iadd (by rfl) rfl rfl (by omega) (by omega) (fun z28 ez28 => ?_)
        refine hpa_call0 (by rfl) (by rfl) (by rfl) (by rfl) (by rfl) (by rfl) (hP136 z28 hA7 hBr (show _ = (((ht_S B n j) + m : Nat) : Int) by omega)) ?_
        rintro _ _ ⟨rfl, z30, rfl, by_A29⟩
        refine hpa_call2 (by rfl) (by decide) (by rfl) (by rfl) (by rfl) (hP138 z30) ?_
        rintro _ _ ⟨rfl, z32, rfl, (⟨fz_A31, lo_A31, hi_A31⟩ | ⟨fz_A31, no_A31⟩)⟩
        ·
          refine hpj_zeq (by rfl) rfl (fun q33 => False.elim (by omega)) (fun q33 => ?_)
          refine hpa_iload_n (by rfl) rfl ?_
          refine hpa_bipush (by rfl) rfl ?_
          refine hpj_cge (by rfl) rfl hk_8 (fun q34 => ?_) (fun q34 => ?_)
          ·
            refine hpj_iinc (by rfl) rfl rfl hk_1 (by omega) (by omega) (fun _ => rfl) (fun z35 ez35 => ?_)
            refine hpa_goto (by rfl) ?_
            exact ih85 x85_1 x85_2 z35 x85_4 (x85_6) (x85_7) A85 j (m + 1) tk j401 fr dn li (by omega) hpn hl (by omega) (fun i h1 h2 => by by_cases q : i = (ht_S B n j) + m; (subst q; exact ht_le_iff.mpr ⟨by omega, by omega⟩); exact hall i h1 (by omega)) (by rw [← Nat.add_assoc, ← ht_run_go B n (i := (ht_S B n j) + m) (by omega) (ht_le_iff.mpr ⟨by omega, by omega⟩)]; exact run) (fun h => absurd h (by omega))
          ·
            refine hpa_lload (by rfl) rfl ?_
            refine hpa_aload_n (by rfl) rfl ?_
            refine hpa_iload_n (by rfl) rfl ?_
            refine hpa_iload_n (by rfl) rfl ?_
            refine hpj_iadd (by rfl) rfl rfl (by omega) (by omega) (fun z36 ez36 => ?_)
            refine hpa_call0 (by rfl) (by rfl) (by rfl) (by rfl) (by rfl) (by rfl) (hP136 z36 hA7 hBr (show _ = (((ht_S B n j) + m : Nat) : Int) by omega)) ?_
            rintro _ _ ⟨rfl, z38, rfl, by_A37⟩
            have hb27 := ht_g_bd (b := 27) (z := 96) (by omega) (l := ht_rv B (ht_S B n j) m) (fun c hc => by obtain ⟨i, i1, i2, rfl⟩ := ht_rv_mem hc; have := ht_le_iff.mp (hall i i1 i2); omega)
            rw [ht_rv_len, ← nm (by omega)] at hb27
            have hp27 : (27 : Int) ^ m ≤ 27 ^ 7 := hpowk (by omega) (by omega)
            refine hpa_call2 (by rfl) (by decide) (by rfl) (by rfl) (by rfl) (hP139 x85_4 z38 hb27.1 (by omega) (by omega) (by omega)) ?_
            rintro _ _ ⟨rfl, j40, rfl, ap_A39⟩
            refine hpa_lstore (by rfl) rfl ?_
            refine hpj_iinc (by rfl) rfl rfl hk_1 (by omega) (by omega) (fun _ => rfl) (fun z41 ez41 => ?_)
            refine hpa_goto (by rfl) ?_
            exact ih85 x85_1 x85_2 z41 j40 (x85_6) (x85_7) A85 j (m + 1) tk j401 fr dn li (by omega) hpn hl (by omega) (fun i h1 h2 => by by_cases q : i = (ht_S B n j) + m; (subst q; exact ht_le_iff.mpr ⟨by omega, by omega⟩); exact hall i h1 (by omega)) (by rw [← Nat.add_assoc, ← ht_run_go B n (i := (ht_S B n j) + m) (by omega) (ht_le_iff.mpr ⟨by omega, by omega⟩)]; exact run) (fun h => by show _ = 27 * ht_g 27 96 (ht_rv B (ht_S B n j) m) + (B ((ht_S B n j) + m) - 96); rw [← nm (by omega)]; omega)
        ·
          have hend : ht_run B n ht_le (ht_S B n j) = (ht_S B n j) + m := by rw [← run]; exact ht_run_stop B n (fun w => absurd (ht_le_iff.mp w.2) (by omega))
          refine hpj_zeq (by rfl) rfl (fun q42 => ?_) (fun q42 => False.elim (by omega))
          refine hpa_iload_n (by rfl) rfl ?_
          refine hpa_bipush (by rfl) rfl ?_
          refine hpj_cle (by rfl) rfl hk_8 (fun q43 => ?_) (fun q43 => ?_)
          ·
            refine hpa_iconst (by rfl) rfl ?_
            refine hpa_s1 (by rfl) (Or.inr ⟨_, rfl, rfl⟩) rfl ?_
            refine hpa_iload_n (by rfl) rfl ?_
            refine hpa_bipush (by rfl) rfl ?_
            refine hpj_cgt (by rfl) rfl hk_8 (fun q44 => False.elim (by omega)) (fun q44 => ?_)
            refine hpa_iconst (by rfl) rfl ?_
            refine hpa_s1 (by rfl) (Or.inr ⟨_, rfl, rfl⟩) rfl ?_
            exact ih146 x85_1 x85_2 x85_3 x85_4 (Int32.ofNat 1) (Int32.ofNat 0) A85 j m tk j401 fr dn li lm hpn hl hm hall hend (by omega) (nm (by omega)) (by omega) (by omega) (Or.inl ⟨hk_1, fun q hq => absurd hq (by omega)⟩)
          ·
            refine hpa_iconst (by rfl) rfl ?_
            refine hpa_goto (by rfl) ?_
            refine hpa_s1 (by rfl) (Or.inr ⟨_, rfl, rfl⟩) rfl ?_
            refine hpa_iload_n (by rfl) rfl ?_
            refine hpa_bipush (by rfl) rfl ?_
            refine hpj_cgt (by rfl) rfl hk_8 (fun q45 => ?_) (fun q45 => False.elim (by omega))
            refine hpa_aload_n (by rfl) rfl ?_
            refine hpa_iload (by rfl) rfl ?_
            refine hpa_iload_n (by rfl) rfl ?_
            refine hpa_iconst (by rfl) rfl ?_
            refine hpa_lload (by rfl) rfl ?_
            refine hpa_call0 (by rfl) (by rfl) (by rfl) (by rfl) (by rfl) (by rfl) (hP141 (Int32.ofNat 3) x85_1 (Int32.ofNat 0) x85_4 tk (by omega)) ?_
            rintro _ A46 ⟨rfl, G_A46⟩
            have hKdef : ht_K B n j = ht_kind B n (ht_S B n j) := rfl
            have hKj : ht_K B n j = 23 := by rw [hKdef, ht_kind_le hpn hl, if_neg (by omega)]
            have htk2 := G_A46.1
            have hfr2 := fr.more G_A46
            have hdn2 := hmD.more dn G_A46 (by rw [hKj, hk_3]; exact hmK3) (by omega) (fun q => absurd q (by omega)) (fun q => absurd q (by omega))
            have htk3 := htk2
            rw [show (j : Int) + 1 = ((j + 1 : Nat) : Int) by omega] at htk2
            refine hpa_iload_n (by rfl) rfl ?_
            refine hpa_iload_n (by rfl) rfl ?_
            refine hpj_iadd (by rfl) rfl rfl (by omega) (by omega) (fun z47 ez47 => ?_)
            refine hpa_s1 (by rfl) (Or.inl ⟨_, rfl, rfl⟩) rfl ?_
            refine hpa_goto (by rfl) ?_
            refine hpa_goto (by rfl) ?_
            exact ih7 z47 (.int x85_2) (.int x85_3) (.long x85_4) (.double 0) (.int (Int32.ofNat 3)) (x85_7) A46 (j + 1) ((ht_S B n j) + m) (by omega) (by omega) (by rw [show ((ht_S B n j) + m) = ht_end B n (ht_S B n j) from by rw [ht_end_le' hpn hl, hend]]; rfl) htk2 (by omega) hfr2 hdn2
      ·
        intro x146_1 x146_2 x146_3 x146_4 x146_6 x146_7 A146 j m tk j401 fr dn li lm hpn hl hm hall hend hm8 nm k0 k20 kd
        have hA7 := hA.C fr
        have hsz := hA7.1
        have hsl := ht_S_le B n j
        refine hpa_iloadS (by rfl) rfl ?_
        refine hpa_bipush (by rfl) rfl ?_
        refine hpj_cge (by rfl) rfl hk_20 (fun q48 => ?_) (fun q48 => ?_)
        ·
          refine hpa_aload_n (by rfl) rfl ?_
          refine hpa_iload (by rfl) rfl ?_
          refine hpa_iload_n (by rfl) rfl ?_
          refine hpa_iconst (by rfl) rfl ?_
          refine hpa_lload (by rfl) rfl ?_
          refine hpa_call0 (by rfl) (by rfl) (by rfl) (by rfl) (by rfl) (by rfl) (hP141 x146_6 x146_1 (Int32.ofNat 0) x146_4 tk (by omega)) ?_
          rintro _ A49 ⟨rfl, G_A49⟩
          have hKdef : ht_K B n j = ht_kind B n (ht_S B n j) := rfl
          have hKj := hkd_word hpn hl hend hm8 (by omega) k20 kd
          have htk2 := G_A49.1
          have hfr2 := fr.more G_A49
          have hdn2 := hmD.more dn G_A49 hKj.1 (by omega) (fun q => absurd q (by omega)) (fun _ => by unfold ht_M; rw [ht_end_le' hpn hl, hend, show (ht_S B n j) + m - (ht_S B n j) = m by omega]; exact nm)
          have htk3 := htk2
          rw [show (j : Int) + 1 = ((j + 1 : Nat) : Int) by omega] at htk2
          refine hpa_iload_n (by rfl) rfl ?_
          refine hpa_iload_n (by rfl) rfl ?_
          refine hpj_iadd (by rfl) rfl rfl (by omega) (by omega) (fun z50 ez50 => ?_)
          refine hpa_s1 (by rfl) (Or.inl ⟨_, rfl, rfl⟩) rfl ?_
          refine hpa_goto (by rfl) ?_
          refine hpa_goto (by rfl) ?_
          exact ih7 z50 (.int x146_2) (.int x146_3) (.long x146_4) (.double 0) (.int x146_6) (.int x146_7) A49 (j + 1) ((ht_S B n j) + m) (by omega) (by omega) (by rw [show ((ht_S B n j) + m) = ht_end B n (ht_S B n j) from by rw [ht_end_le' hpn hl, hend]]; rfl) htk2 (by omega) hfr2 hdn2
        ·
          refine hpa_aload_n (by rfl) rfl ?_
          refine hpa_get (v := .ref 375) (by rfl) (by rfl) (by rfl) rfl ?_
          refine hpa_iload (by rfl) rfl ?_
          refine hpx_lald (by rfl) (by rfl) (fun h0v51 h1v51 v51 ev51 => ?_)
          have hkv : (v51).toInt = ht_g 27 96 (hw_w x146_7.toInt.toNat).reverse := by rw [← ev51]; exact (hU.C fr).ky x146_7.toInt.toNat (by omega)
          have hki := hkey_iff (x := v51) (y := x146_4) (by omega) hkv nm hall
          refine hpa_lload (by rfl) rfl ?_
          refine hpa_lcmp (by rfl) ?_
          refine hpj_zne (by rfl) rfl (fun q52 => ?_) (fun q52 => ?_)
          ·
            have hno : ht_ws[x146_7.toInt.toNat]? ≠ some (ht_sub B (ht_S B n j) ((ht_S B n j) + m)) := fun w => q52 (hlg0.mpr (hki.mpr w))
            refine hpj_iinc (by rfl) rfl rfl hk_1 (by omega) (by omega) (fun _ => rfl) (fun z53 ez53 => ?_)
            refine hpa_goto (by rfl) ?_
            exact ih146 x146_1 x146_2 x146_3 x146_4 x146_6 z53 A146 j m tk j401 fr dn li lm hpn hl hm hall hend hm8 nm (by omega) (by omega) (by rcases kd with ⟨k1, k2⟩ | ⟨q, k1, k2, k3⟩; (exact Or.inl ⟨k1, fun q hq => by by_cases w : q = x146_7.toInt.toNat; (subst w; exact hno); exact k2 q (by omega)⟩); exact Or.inr ⟨q, by omega, k2, k3⟩)
          ·
            have hye := hki.mp (hlg0.mp q52)
            refine hpa_bipush (by rfl) rfl ?_
            refine hpa_iload (by rfl) rfl ?_
            refine hpj_iadd (by rfl) hk_20 rfl (by omega) (by omega) (fun z54 ez54 => ?_)
            refine hpa_s1 (by rfl) (Or.inr ⟨_, rfl, rfl⟩) rfl ?_
            refine hpj_iinc (by rfl) rfl rfl hk_1 (by omega) (by omega) (fun _ => rfl) (fun z55 ez55 => ?_)
            refine hpa_goto (by rfl) ?_
            exact ih146 x146_1 x146_2 x146_3 x146_4 z54 z55 A146 j m tk j401 fr dn li lm hpn hl hm hall hend hm8 nm (by omega) (by omega) (Or.inr ⟨x146_7.toInt.toNat, by omega, by omega, hye⟩)
      ·
        intro x208_1 x208_2 x208_3 x208_4 x208_5 x208_6 x208_7 A208 j m tk j401 fr dn li lm hpn hnl hl hm hall run nm
        have hA7 := hA.C fr
        have hsz := hA7.1
        have hsl := ht_S_le B n j
        refine hpa_aload_nS (by rfl) rfl ?_
        refine hpa_iload_n (by rfl) rfl ?_
        refine hpa_iload_n (by rfl) rfl ?_
        refine hpj_iadd (by rfl) rfl rfl (by omega) (by omega) (fun z56 ez56 => ?_)
        refine hpa_call0 (by rfl) (by rfl) (by rfl) (by rfl) (by rfl) (by rfl) (hP136 z56 hA7 hBr (show _ = (((ht_S B n j) + m : Nat) : Int) by omega)) ?_
        rintro _ _ ⟨rfl, z58, rfl, by_A57⟩
        refine hpa_call2 (by rfl) (by decide) (by rfl) (by rfl) (by rfl) (hP137 z58) ?_
        rintro _ _ ⟨rfl, z60, rfl, (⟨fz_A59, lo_A59, hi_A59⟩ | ⟨fz_A59, no_A59⟩)⟩
        ·
          refine hpj_zeq (by rfl) rfl (fun q61 => False.elim (by omega)) (fun q61 => ?_)
          refine hpa_iload_n (by rfl) rfl ?_
          refine hpa_iconst (by rfl) rfl ?_
          refine hpj_cge (by rfl) rfl hk_4 (fun q62 => ?_) (fun q62 => ?_)
          ·
            refine hpj_iinc (by rfl) rfl rfl hk_1 (by omega) (by omega) (fun _ => rfl) (fun z63 ez63 => ?_)
            refine hpa_goto (by rfl) ?_
            exact ih208 x208_1 x208_2 z63 x208_4 (x208_5) (x208_6) (x208_7) A208 j (m + 1) tk j401 fr dn li (by omega) hpn hnl hl (by omega) (fun i h1 h2 => by by_cases q : i = (ht_S B n j) + m; (subst q; exact ht_di_iff.mpr ⟨by omega, by omega⟩); exact hall i h1 (by omega)) (by rw [← Nat.add_assoc, ← ht_run_go B n (i := (ht_S B n j) + m) (by omega) (ht_di_iff.mpr ⟨by omega, by omega⟩)]; exact run) (fun h => absurd h (by omega))
          ·
            have hb10 := ht_g_bd (b := 10) (z := 48) (by omega) (l := ht_rv B (ht_S B n j) m) (fun c hc => by obtain ⟨i, i1, i2, rfl⟩ := ht_rv_mem hc; have := ht_di_iff.mp (hall i i1 i2); omega)
            rw [ht_rv_len, ← nm (by omega)] at hb10
            have hp10 : (10 : Int) ^ m ≤ 10 ^ 3 := hpowk (by omega) (by omega)
            refine hpa_bipush (by rfl) rfl ?_
            refine hpa_iload (by rfl) rfl ?_
            refine hpj_imul (by rfl) hk_10 rfl (by omega) (by omega) (fun z64 ez64 => ?_)
            refine hpa_aload_n (by rfl) rfl ?_
            refine hpa_iload_n (by rfl) rfl ?_
            refine hpa_iload_n (by rfl) rfl ?_
            refine hpj_iadd (by rfl) rfl rfl (by omega) (by omega) (fun z65 ez65 => ?_)
            refine hpa_call0 (by rfl) (by rfl) (by rfl) (by rfl) (by rfl) (by rfl) (hP136 z65 hA7 hBr (show _ = (((ht_S B n j) + m : Nat) : Int) by omega)) ?_
            rintro _ _ ⟨rfl, z67, rfl, by_A66⟩
            refine hpj_iadd (by rfl) rfl rfl (by omega) (by omega) (fun z68 ez68 => ?_)
            refine hpa_bipush (by rfl) rfl ?_
            refine hpj_isub (by rfl) rfl hk_48 (by omega) (by omega) (fun z69 ez69 => ?_)
            refine hpa_s1 (by rfl) (Or.inr ⟨_, rfl, rfl⟩) rfl ?_
            refine hpj_iinc (by rfl) rfl rfl hk_1 (by omega) (by omega) (fun _ => rfl) (fun z70 ez70 => ?_)
            refine hpa_goto (by rfl) ?_
            exact ih208 x208_1 x208_2 z70 z69 (x208_5) (x208_6) (x208_7) A208 j (m + 1) tk j401 fr dn li (by omega) hpn hnl hl (by omega) (fun i h1 h2 => by by_cases q : i = (ht_S B n j) + m; (subst q; exact ht_di_iff.mpr ⟨by omega, by omega⟩); exact hall i h1 (by omega)) (by rw [← Nat.add_assoc, ← ht_run_go B n (i := (ht_S B n j) + m) (by omega) (ht_di_iff.mpr ⟨by omega, by omega⟩)]; exact run) (fun h => by show _ = 10 * ht_g 10 48 (ht_rv B (ht_S B n j) m) + (B ((ht_S B n j) + m) - 48); rw [← nm (by omega)]; omega)
        ·
          have hend : ht_run B n ht_di (ht_S B n j) = (ht_S B n j) + m := by rw [← run]; exact ht_run_stop B n (fun w => absurd (ht_di_iff.mp w.2) (by omega))
          refine hpj_zeq (by rfl) rfl (fun q71 => ?_) (fun q71 => False.elim (by omega))
          refine hpa_aload_n (by rfl) rfl ?_
          refine hpa_iload_n (by rfl) rfl ?_
          refine hpa_iconst (by rfl) rfl ?_
          refine hpj_cle (by rfl) rfl hk_4 (fun q72 => ?_) (fun q72 => ?_)
          ·
            refine hpa_iconst (by rfl) rfl ?_
            refine hpa_iload_n (by rfl) rfl ?_
            refine hpa_iload (by rfl) rfl ?_
            refine hpa_lconst (by rfl) rfl ?_
            refine hpa_call0 (by rfl) (by rfl) (by rfl) (by rfl) (by rfl) (by rfl) (hP141 (Int32.ofNat 2) x208_1 x208_4 (Int64.ofNat 0) tk (by omega)) ?_
            rintro _ A73 ⟨rfl, G_A73⟩
            have hKdef : ht_K B n j = ht_kind B n (ht_S B n j) := rfl
            have hKj : ht_K B n j = 21 := by rw [hKdef, ht_kind_di hpn hnl hl, if_pos (by omega)]
            have htk2 := G_A73.1
            have hfr2 := fr.more G_A73
            have hdn2 := hmD.more dn G_A73 (by rw [hKj, hk_2]; exact hmK2) (by omega) (fun _ => by unfold ht_W ht_M; rw [ht_end_di hpn hnl hl, hend, show (ht_S B n j) + m - (ht_S B n j) = m by omega]; exact nm (by omega)) (fun q => absurd q (by omega))
            have htk3 := htk2
            rw [show (j : Int) + 1 = ((j + 1 : Nat) : Int) by omega] at htk2
            refine hpa_iload_n (by rfl) rfl ?_
            refine hpa_iload_n (by rfl) rfl ?_
            refine hpj_iadd (by rfl) rfl rfl (by omega) (by omega) (fun z74 ez74 => ?_)
            refine hpa_s1 (by rfl) (Or.inl ⟨_, rfl, rfl⟩) rfl ?_
            refine hpa_goto (by rfl) ?_
            refine hpa_goto (by rfl) ?_
            exact ih7 z74 (.int x208_2) (.int x208_3) (.int x208_4) (x208_5) (x208_6) (x208_7) A73 (j + 1) ((ht_S B n j) + m) (by omega) (by omega) (by rw [show ((ht_S B n j) + m) = ht_end B n (ht_S B n j) from by rw [ht_end_di hpn hnl hl, hend]]; rfl) htk2 (by omega) hfr2 hdn2
          ·
            refine hpa_iconst (by rfl) rfl ?_
            refine hpa_goto (by rfl) ?_
            refine hpa_iload_n (by rfl) rfl ?_
            refine hpa_iload (by rfl) rfl ?_
            refine hpa_lconst (by rfl) rfl ?_
            refine hpa_call0 (by rfl) (by rfl) (by rfl) (by rfl) (by rfl) (by rfl) (hP141 (Int32.ofNat 3) x208_1 x208_4 (Int64.ofNat 0) tk (by omega)) ?_
            rintro _ A75 ⟨rfl, G_A75⟩
            have hKdef : ht_K B n j = ht_kind B n (ht_S B n j) := rfl
            have hKj : ht_K B n j = 23 := by rw [hKdef, ht_kind_di hpn hnl hl, if_neg (by omega)]
            have htk2 := G_A75.1
            have hfr2 := fr.more G_A75
            have hdn2 := hmD.more dn G_A75 (by rw [hKj, hk_3]; exact hmK3) (by omega) (fun q => absurd q (by omega)) (fun q => absurd q (by omega))
            have htk3 := htk2
            rw [show (j : Int) + 1 = ((j + 1 : Nat) : Int) by omega] at htk2
            refine hpa_iload_n (by rfl) rfl ?_
            refine hpa_iload_n (by rfl) rfl ?_
            refine hpj_iadd (by rfl) rfl rfl (by omega) (by omega) (fun z76 ez76 => ?_)
            refine hpa_s1 (by rfl) (Or.inl ⟨_, rfl, rfl⟩) rfl ?_
            refine hpa_goto (by rfl) ?_
            refine hpa_goto (by rfl) ?_
            exact ih7 z76 (.int x208_2) (.int x208_3) (.int x208_4) (x208_5) (x208_6) (x208_7) A75 (j + 1) ((ht_S B n j) + m) (by omega) (by omega) (by rw [show ((ht_S B n j) + m) = ht_end B n (ht_S B n j) from by rw [ht_end_di hpn hnl hl, hend]]; rfl) htk2 (by omega) hfr2 hdn2
  have L7 := fun f => (LL f).1
  have L85 := fun f => (LL f).2.1
  have L146 := fun f => (LL f).2.2.1
  have L208 := fun f => (LL f).2.2.2
  refine hpa_aload_n (by rfl) rfl ?_
  refine hpa_iconst (by rfl) rfl ?_
  refine hpj_putI (by rfl) (by rfl) (by rfl) (by rfl) (fun A77 eA77 fA77 => ?_)
  refine hpa_iconst (by rfl) rfl ?_
  refine hpa_s1 (by rfl) (Or.inl ⟨_, rfl, rfl⟩) rfl ?_
  exact L7 _ (Int32.ofNat 0) (.retAddr 0) (.retAddr 0) (.retAddr 0) (.retAddr 0) (.retAddr 0) (.retAddr 0) A77 0 0 hk_0 (Nat.zero_le _) rfl (by rw [eA77, hup1]; exact hk_0) (by omega) ⟨fun i k hi => by rw [eA77, hup2 hi], fun i _ _ _ => by rw [fA77], fun c _ => by rw [fA77], by rw [fA77]⟩ (fun u hu => absurd hu (Nat.not_lt_zero u))
theorem hP142 {g d : Nat} {A : hs_A} {B : Nat → Int} {n : Nat} (hA : hmTp B n A) (hn : n ≤ 2000) (hBr : ∀ i, i < n → -128 ≤ B i ∧ B i ≤ 127) (hU : hcU A) : hpC g d 142 hm_m142 [.ref 368] A (fun r A' => r = none ∧ (hmC A A' ∧ (hmT (ht_K B n) (ht_W B n) (fun u => (ht_S B n u : Int)) A' ∧ hmE (ht_K B n) (ht_E B n) A'))) := hpC.all (fun f d => hW142 hA hn hBr hU (fun r A' h => h))
/-! WHAT A READING ANSWERS -/
def hq_res (K V S : Nat → Int) (E : Nat → Nat → Bool) (x y : Int) : Prop := (∃ t k : Nat, hq_f K V E t k ∧ k ≠ 0 ∧ x = (k : Int) ∧ y = S t) ∨ (∃ (t : Nat) (s : hq_S), hq_q K V E t = some s ∧ hq_dl K V E t s = .inr 0 ∧ ((s.2.2.2.2.2.2.2 = none ∧ x = 0 ∧ y = -1) ∨ ∃ c, s.2.2.2.2.2.2.2 = some c ∧ x = (c.1 : Int) ∧ y = S c.2))
theorem hq_res_one {K V S : Nat → Int} {E : Nat → Nat → Bool} {x y x' y' : Int} (h : hq_res K V S E x y) (h' : hq_res K V S E x' y') : x = x' ∧ y = y' := by
  rcases h with ⟨t, k, a, b, c, d⟩ | ⟨t, s, a, b, c⟩
  · rcases h' with ⟨t', k', a', b', c', d'⟩ | ⟨t', s', a', b', c'⟩
    · obtain ⟨rfl, rfl⟩ := hq_f_one K V E a a'
      exact ⟨c.trans c'.symm, d.trans d'.symm⟩
    · obtain ⟨-, q⟩ := hq_f_one K V E a ⟨s', a', b'⟩
      exact absurd q b
  · rcases h' with ⟨t', k', a', b', c', d'⟩ | ⟨t', s', a', b', c'⟩
    · obtain ⟨-, q⟩ := hq_f_one K V E ⟨s, a, b⟩ a'
      exact absurd q.symm b'
    · obtain ⟨rfl, -⟩ := hq_f_one K V E ⟨s, a, b⟩ ⟨s', a', b'⟩
      rw [a] at a'
      cases a'
      rcases c with ⟨c1, c2, c3⟩ | ⟨u, c1, c2, c3⟩
      · rcases c' with ⟨d1, d2, d3⟩ | ⟨u', d1, d2, d3⟩
        · exact ⟨c2.trans d2.symm, c3.trans d3.symm⟩
        · rw [c1] at d1
          cases d1
      · rcases c' with ⟨d1, d2, d3⟩ | ⟨u', d1, d2, d3⟩
        · rw [c1] at d1
          cases d1
        · rw [c1] at d1
          cases d1
          exact ⟨c2.trans d2.symm, c3.trans d3.symm⟩
theorem hq_res.late {K V S : Nat → Int} {E : Nat → Nat → Bool} {x y : Int} {t : Nat} {s : hq_S} (h : hq_q K V E t = some s) (hd : hq_dl K V E t s = .inr 0) (l : hcL S x y s.2.2.2.2.2.2.2) : hq_res K V S E x y := by
  refine Or.inr ⟨t, s, h, hd, ?_⟩
  cases ho : s.2.2.2.2.2.2.2 with
  | none => rw [ho] at l; exact Or.inl ⟨rfl, l⟩
  | some c => rw [ho] at l; exact Or.inr ⟨c, rfl, l.1, l.2.1⟩
def hcZ (T : Nat) (A A' : hs_A) : Prop := (∀ i k, ¬ i = T → ¬ i = T + 4 → A'.1 i k = A.1 i k) ∧ (∀ i, i ≤ T ∨ T + 8 < i → A'.2.1 i = A.2.1 i) ∧ A'.2.2 = A.2.2
section HCZ
variable {T : Nat} {A A1 A' : hs_A}
theorem hcZ.rfl : hcZ T A A := ⟨fun _ _ _ _ => Eq.refl _, fun _ _ => Eq.refl _, Eq.refl _⟩
theorem hcZ.W (h : hcZ T A A1) (w : hcW T A1 A') : hcZ T A A' := ⟨fun i k h1 h2 => (w.1 i k h2).trans (h.1 i k h1 h2), fun i hi => (w.2.1 i (by omega)).trans (h.2.1 i hi), w.2.2.trans h.2.2⟩
theorem hcZ.trans (h : hcZ T A A1) (w : hcZ T A1 A') : hcZ T A A' := ⟨fun i k h1 h2 => (w.1 i k h1 h2).trans (h.1 i k h1 h2), fun i hi => (w.2.1 i hi).trans (h.2.1 i hi), w.2.2.trans h.2.2⟩
theorem hcZ.f {k : Nat} {x : Int32} (h : hcZ T A A1) (e : A'.1 = hs_up A1.1 T k x) (f : A'.2 = A1.2) : hcZ T A A' := ⟨fun i k h1 h2 => by rw [e, hup2 (fun q => h1 q.1)]; exact h.1 i k h1 h2, fun i hi => by rw [f]; exact h.2.1 i hi, by rw [f]; exact h.2.2⟩
theorem hcZ.a {i0 k : Nat} {x : Int32} (h : hcZ T A A1) (e : A'.1 = A1.1) (f : A'.2.1 = hs_up A1.2.1 i0 k x) (g : A'.2.2 = A1.2.2) (hi0 : T + 1 ≤ i0 ∧ i0 ≤ T + 8) : hcZ T A A' := ⟨fun i k h1 h2 => by rw [e]; exact h.1 i k h1 h2, fun i hi => by
  rw [f, ← h.2.1 i hi]
  funext j
  exact hup2 (fun q => by omega), by rw [g]; exact h.2.2⟩
theorem hc_init {K V S : Nat → Int} {E : Nat → Nat → Bool} {A2 A3 A4 A5 A6 A7 A8 : hs_A} {x6 : Int32} (hT9 : T ≤ 11) (hrf : A2.2.2.2 20 2 = T + 1) (h4 : (A2.1 T 4).toInt = 0) (h5 : (A2.1 T 5).toInt = 0) (C : hcC A2 A3) (TE : hcT K V S A3 ∧ hcE K E A3) (e4 : A4.1 = hs_up A3.1 20 3 (Int32.ofNat 0)) (f4 : A4.2 = A3.2) (e5 : A5.1 = hs_up A4.1 20 5 (Int32.ofNat 0)) (f5 : A5.2 = A4.2) (e6 : A6.1 = hs_up A5.1 20 6 x6) (f6 : A6.2 = A5.2) (e7 : A7.1 = hs_up A6.1 20 7 (Int32.ofNat 0)) (f7 : A7.2 = A6.2) (e8 : A8.1 = hs_up A7.1 20 8 (Int32.ofNat 4294967295)) (f8 : A8.2 = A7.2) : hcB K V S E T A8 0 (0, 0, 0, 0, [], 0, 0, none) ∧ hcR S T A8 [] none 0 none := by
  have ef : A8.2 = A3.2 := by rw [f8, f7, f6, f5, f4]
  have far : ∀ i k, ¬ i = 20 → A8.1 i k = A3.1 i k := fun i k hi => by rw [e8, hup2 (by omega), e7, hup2 (by omega), e6, hup2 (by omega), e5, hup2 (by omega), e4, hup2 (by omega)]
  refine ⟨⟨by rw [ef, C.2.2.2]; exact hrf, ⟨TE.1.fr (far 21 3 (by omega)) (by rw [ef]) (by rw [ef]) (by rw [ef]), TE.2.fr (by rw [ef]) (by rw [ef])⟩, ?_, Eq.refl _, ?_⟩, ?_, ?_, trivial, fun u hu => (by cases hu), ?_, ?_⟩
  · rw [e8, hup2 (by omega), e7, hup2 (by omega), e6, hup2 (by omega), e5, hup2 (by omega), e4, hup1]
    exact hk_0
  · rw [e8, hup2 (by omega), e7, hup2 (by omega), e6, hup2 (by omega), e5, hup1]
    exact hk_0
  · rw [far T 4 (by omega), C.1 T 4 (by omega)]
    exact h4
  · rw [far T 5 (by omega), C.1 T 5 (by omega)]
    exact h5
  · rw [e8, hup2 (by omega), e7, hup1]
    exact hk_0
  · rw [e8, hup1]
    exact hk_4294967295
end HCZ
/-! THE CLASS'S LAWS that nobody told, and all at a reading's start -/
def hcZ8 (T k : Nat) (A : hs_A) : Prop := (A.1 (T + 4) 4).toInt = 2 * (k : Int) ∧ ∀ j, j < k → (A.2.1 (T + 6) j).toInt = 2 * (j : Int) ∧ (A.2.1 (T + 5) (2 * j)).toInt = 8 * (if j = 0 then 1 else 0) + 0 ∧ (A.2.1 (T + 5) (2 * j + 1)).toInt = 7
section HCZ8
variable {T k : Nat} {A A1 A2 A3 A4 A5 A6 A' : hs_A}
theorem hcZ8.more {x0 y1 x1 y2 x2 : Int32} {z1 z2 : Nat} (h : hcZ8 T k A) (hz1 : z1 = 2 * k) (hz2 : z2 = 2 * k + 1) (e0 : A1.1 = hs_up A.1 (T + 4) 5 x0) (f0 : A1.2 = A.2) (e1 : A2.1 = hs_up A1.1 (T + 4) 4 y1) (f1 : A2.2.1 = hs_up A1.2.1 (T + 5) z1 x1) (e2 : A3.1 = hs_up A2.1 (T + 4) 4 y2) (f2 : A3.2.1 = hs_up A2.2.1 (T + 5) z2 x2) (hx1 : x1.toInt = 8 * (if k = 0 then 1 else 0) + 0) (hx2 : x2.toInt = 7) (hy2 : y2.toInt = 2 * (k : Int) + 2) {s5 s6 : Int32} (e3 : A'.1 = A3.1) (f3 : A'.2.1 = hs_up (hs_up A3.2.1 (T + 6) k s5) (T + 7) k s6) (hs5 : s5.toInt = 2 * (k : Int)) : hcZ8 T (k + 1) A' := by
  subst hz1 hz2
  refine ⟨by rw [e3, e2, hup1]; omega, fun j hj => ?_⟩
  have ea : ∀ i q, ¬ (i = T + 5 ∧ (q = 2 * k ∨ q = 2 * k + 1)) → ¬ i = T + 6 → ¬ i = T + 7 → A'.2.1 i q = A.2.1 i q := fun i q h1 h2 h3 => by
    rw [f3, hup2 (by omega), hup2 (by omega), f2, hup2 (by omega), f1, hup2 (by omega), f0]
  by_cases w : j = k
  · subst w
    refine ⟨by rw [f3, hup2 (by omega), hup1]; exact hs5, by rw [f3, hup2 (by omega), hup2 (by omega), f2, hup2 (by omega), f1, hup1]; exact hx1, by rw [f3, hup2 (by omega), hup2 (by omega), f2, hup1]; exact hx2⟩
  · obtain ⟨b1, b2, b3⟩ := h.2 j (by omega)
    refine ⟨by rw [f3, hup2 (by omega), hup2 (by omega), f2, hup2 (by omega), f1, hup2 (by omega), f0]; exact b1, by rw [ea _ _ (by omega) (by omega) (by omega)]; exact b2, by rw [ea _ _ (by omega) (by omega) (by omega)]; exact b3⟩
theorem hg_np7 {x : Int32} {b : Int} : hg_np x [(0, b), (7, 0)] := fun _ m => by
  rcases List.mem_cons.mp m with m | m
  · exact absurd (show (1 : Nat) = 0 from congrArg Prod.fst m) (by decide)
  · exact absurd (show (1 : Nat) = 7 from congrArg Prod.fst (List.mem_singleton.mp m)) (by decide)
theorem hcM.init {V : Nat → Int} (h : hcZ8 T 4 A) (h3 : ∀ j : Nat, j < 24 → (A.2.1 (T + 3) j).toInt = 0) (h6 : (A.1 T 6).toInt = 6) (h7 : (A.1 T 7).toInt = 0) : hcM V T A [] hg_d0 [] 8 := by
  refine ⟨⟨by rw [h.1]; rfl, Nat.zero_le _, trivial, hg_np0⟩, fun k hk => ?_, ⟨h3, h6, h7⟩, trivial⟩
  obtain ⟨b1, b2, b3⟩ := h.2 k hk
  refine ⟨2 * k, by omega, ?_, ?_, hg_np7⟩
  · show 2 * k + 2 ≤ 8 - 0
    omega
  · show (A.2.1 (T + 5) (2 * k)).toInt = 8 * (if k = 0 then 1 else 0) + ((0 : Nat) : Int) ∧ (A.2.1 (T + 5) (2 * k + 1)).toInt = 8 * 0 + ((7 : Nat) : Int) ∧ True
    exact ⟨b2, b3, trivial⟩
end HCZ8
def hq_hs (K V : Nat → Int) (E : Nat → Nat → Bool) (x y : Int) : Prop := ∃ (t : Nat) (s : hq_S), hq_q K V E t = some s ∧ hq_dl K V E t s = .inr 0 ∧ x = (s.2.2.2.2.1.length : Int) ∧ y = (s.2.2.2.2.2.2.1 : Int)
theorem hq_hs_one {K V : Nat → Int} {E : Nat → Nat → Bool} {x y x' y' : Int} (h : hq_hs K V E x y) (h' : hq_hs K V E x' y') : x = x' ∧ y = y' := by
  obtain ⟨t, s, a, b, c, d⟩ := h
  obtain ⟨t', s', a', b', c', d'⟩ := h'
  obtain ⟨rfl, -⟩ := hq_f_one K V E ⟨s, a, b⟩ ⟨s', a', b'⟩
  rw [a] at a'
  cases a'
  exact ⟨c.trans c'.symm, d.trans d'.symm⟩
/-- behind a reading that went through: what was told stands in the terrace -/
def hcQ (K V : Nat → Int) (E : Nat → Nat → Bool) (T : Nat) (A : hs_A) : Prop := ∃ (t : Nat) (s : hq_S) (zz : Nat), hq_q K V E t = some s ∧ hq_dl K V E t s = .inr 0 ∧ hcM V T A s.2.2.2.2.1 (hg_q K V E t).1 [] zz
theorem hg_rn_all {B : Nat → Int} {n : Nat} {P : Int → Bool} : ∀ (f i j : Nat), i ≤ j → j < ht_rn B n P f i → P (B j) = true
  | 0, i, j, h1, h2 => absurd (show j < i from h2) (by omega)
  | f + 1, i, j, h1, h2 => by
    have h2' : j < if i < n ∧ P (B i) = true then ht_rn B n P f (i + 1) else i := h2
    by_cases h : i < n ∧ P (B i) = true
    · rw [if_pos h] at h2'
      by_cases q : j = i
      · subst q; exact h.2
      · exact hg_rn_all f (i + 1) j (by omega) h2'
    · rw [if_neg h] at h2'
      omega
theorem ht_W_ok {B : Nat → Int} {n : Nat} : hg_V (ht_K B n) (ht_W B n) := fun t ht => by
  have hk : ht_kind B n (ht_S B n t) = 21 := ht
  obtain ⟨h1, h2, h3, h4⟩ := (ht_kind_rng (B := B) (n := n) (ht_S B n t)).2.2.2.2 hk
  unfold ht_W ht_M
  rw [ht_end_di h1 h2 h3]
  have hb := ht_g_bd (b := 10) (z := 48) (by omega) (l := ht_rv B (ht_S B n t) (ht_run B n ht_di (ht_S B n t) - ht_S B n t)) (fun c hc => by
    obtain ⟨i, i1, i2, rfl⟩ := ht_rv_mem hc
    have := ht_di_iff.mp (hg_rn_all (B := B) (n := n) (P := ht_di) n (ht_S B n t) i i1 (by show i < ht_run B n ht_di (ht_S B n t); omega))
    omega)
  rw [ht_rv_len] at hb
  have hp : (10 : Int) ^ (ht_run B n ht_di (ht_S B n t) - ht_S B n t) ≤ 10 ^ 4 := hpowk (by omega) h4
  have e4 : (10 : Int) ^ 4 = 10000 := rfl
  omega
theorem hW246T {g d f : Nat} {A : hs_A} {T : Nat} (hT : hTT T) (a1 : Int32) {P : Option Value → hs_A → Prop} (hP : ∀ (r : Option Value) (A' : hs_A), (r = none ∧ (hcZ T A A' ∧ (∀ j : Nat, j < 24 → A'.2.1 (T + 3) j = a1) ∧ A'.1 = A.1)) → P r A') : hpa (f, g) d none hm_t246 0 [.ref (T + 4), .int a1, .retAddr 0, .retAddr 0] [] A P := by
  have k0 := hk_0
  have k1 := hk_1
  have k24 := hk_24
  have hT9 : T ≤ 11 := by rcases hT with rfl | rfl <;> omega
  have L5 : ∀ (f : Nat) (x5_2 : Int32) (A5 : hs_A) (Z5 : hcZ T A A5) (lo5 : 0 ≤ x5_2.toInt) (H5 : ∀ j : Nat, (j : Int) < x5_2.toInt → A5.2.1 (T + 3) j = a1) (E5 : A5.1 = A.1), hpa (f, g) d none hm_t246 5 [.ref (T + 4), .int a1, .int x5_2, .int (Int32.ofNat 24)] [] A5 P := by
    intro f
    induction f with
    | zero => intros; exact hpa.zero
    | succ f ih5 =>
      intro x5_2 A5 Z5 lo5 H5 E5
      refine hpa_iload_nS (by rfl) rfl ?_
      refine hpa_iload_n (by rfl) rfl ?_
      refine hpj_cge (by rfl) rfl hk_24 (fun q1 => ?_) (fun q1 => ?_)
      ·
        exact hpa_return (by rfl) rfl (hP _ _ ⟨rfl, Z5, fun j hj => H5 j (by omega), E5⟩)
      ·
        refine hpa_aload_n (by rfl) rfl ?_
        refine hpa_iload_n (by rfl) rfl ?_
        refine hpa_iload_n (by rfl) rfl ?_
        refine hpx_iast (by rfl) (hsT3 hT) (fun A2 h0A2 h1A2 eA2 fA2 gA2 => ?_)
        have ZA2 := Z5.a eA2 fA2 gA2 (by omega)
        have hcn := hn_cn (j := x5_2) (by omega)
        have HHA2 : ∀ j : Nat, (j : Int) < x5_2.toInt + 1 → A2.2.1 (T + 3) j = a1 := fun j hj => by rw [fA2]; by_cases q : j = (x5_2).toNatClampNeg; (rw [q, hup1]); rw [hup2 (by omega)]; exact H5 j (by omega)
        have EEA2 := eA2.trans E5
        refine hpj_iinc (by rfl) rfl rfl hk_1 (by omega) (by omega) (fun _ => rfl) (fun z3 ez3 => ?_)
        refine hpa_goto (by rfl) ?_
        exact ih5 z3 A2 ZA2 (by omega) (fun j hj => HHA2 j (by omega)) EEA2
  refine hpa_iconst (by rfl) rfl ?_
  refine hpa_s1 (by rfl) (Or.inl ⟨_, rfl, rfl⟩) rfl ?_
  refine hpa_aload_n (by rfl) rfl ?_
  refine hpa_alen (by rfl) (by rfl) (hsT3 hT) ?_
  refine hpa_s1 (by rfl) (Or.inl ⟨_, rfl, rfl⟩) rfl ?_
  exact L5 _ (Int32.ofNat 0) A hcZ.rfl (by omega) (fun j hj => absurd hj (by omega)) rfl
theorem hP246T {g d : Nat} {A : hs_A} {T : Nat} (hT : hTT T) (a1 : Int32) : hpC g d 246 hm_m246 [.ref (T + 4), .int a1] A (fun r A' => r = none ∧ (hcZ T A A' ∧ (∀ j : Nat, j < 24 → A'.2.1 (T + 3) j = a1) ∧ A'.1 = A.1)) := hpC.all (fun f d => hW246T hT a1 (fun r A' h => h))
theorem hW12r {g d f : Nat} {A : hs_A} {T zz k : Nat} {v : Int} (hT : hTT T) (a1 a2 : Int32) (h1 : a1.toInt = (k : Int)) (h2 : a2.toInt = v) (hk8 : k < 8) (hk1 : ¬ k = 1) (hv0 : 0 ≤ v) (hv1 : v < 134217728) (hzz : (A.1 (T + 4) 4).toInt = (zz : Int)) (hz : zz < 408) {P : Option Value → hs_A → Prop} (hP : ∀ (r : Option Value) (A' : hs_A), (∃ z : Int32, r = some (.int z) ∧ hcW T A A' ∧ ∃ x y : Int32, A'.1 = hs_up A.1 (T + 4) 4 y ∧ y.toInt = (zz : Int) + 1 ∧ A'.2.1 = hs_up A.2.1 (T + 5) zz x ∧ x.toInt = 8 * v + (k : Int) ∧ A'.2.2 = A.2.2) → P r A') : hpa (f, g) d (some (.int)) hm_t12 0 [.ref (T + 5), .int a1, .int a2] [] A P := by
  have k1 := hk_1
  have k3 := hk_3
  have k408 := hk_408
  have hT9 : T ≤ 11 := by rcases hT with rfl | rfl <;> omega
  have hzi : (A.1 (T + 4) 4).toNatClampNeg = zz := by have := hn_cn (j := A.1 (T + 4) 4) (by omega); omega
  refine hpa_iload_n (by rfl) rfl ?_
  refine hpa_iconst (by rfl) rfl ?_
  refine hpj_cne (by rfl) rfl hk_1 (fun q1 => ?_) (fun q1 => False.elim (by omega))
  refine hpa_aload_n (by rfl) rfl ?_
  refine hpj_getK (by rfl) (hsT4 hT) (by rfl) rfl ?_
  refine hpa_sipush (by rfl) rfl ?_
  refine hpj_cge (by rfl) rfl hk_408 (fun q2 => False.elim (by omega)) (fun q2 => ?_)
  refine hpa_aload_n (by rfl) rfl ?_
  refine hpa_get (v := .ref (T + 6)) (by rfl) (hsT4 hT) (by rfl) (hvT hT (by omega)) ?_
  refine hpa_aload_n (by rfl) rfl ?_
  refine hpj_getK (by rfl) (hsT4 hT) (by rfl) rfl ?_
  refine hpa_iload_n (by rfl) rfl ?_
  refine hpa_iconst (by rfl) rfl ?_
  refine hpa_ishl (by rfl) ?_
  refine hpa_iload_n (by rfl) rfl ?_
  refine hpa_ior (by rfl) ?_
  refine hpx_iast (by rfl) (hsT5 hT) (fun A3 h0A3 h1A3 eA3 fA3 gA3 => ?_)
  have WA3 := (hcW.rfl (T := T) (A := A)).a eA3 fA3 gA3 (by omega)
  rw [hzi] at fA3
  refine hpa_aload_n (by rfl) rfl ?_
  refine hpa_dupR (by rfl) ?_
  refine hpj_getK (by rfl) (hsT4 hT) (by rfl) (hkA eA3 rfl) ?_
  refine hpa_iconst (by rfl) rfl ?_
  refine hpj_iadd (by rfl) rfl hk_1 (by omega) (by omega) (fun z4 ez4 => ?_)
  refine hpj_putI (by rfl) (hsT4 hT) (by rfl) (by rfl) (fun A5 eA5 fA5 => ?_)
  have WA5 := hcW.f (k := 4) WA3 eA5 fA5
  refine hpa_aload_n (by rfl) rfl ?_
  refine hpj_getK (by rfl) (hsT4 hT) (by rfl) (hkS eA5) ?_
  refine hpa_iconst (by rfl) rfl ?_
  refine hpj_isub (by rfl) rfl hk_1 (by omega) (by omega) (fun z6 ez6 => ?_)
  exact hpa_ireturn (by rfl) rfl (hP _ _ ⟨_, rfl, WA5, _, _, by rw [eA5, eA3], by omega, by rw [fA5, fA3], hg_k8 h2 h1 hv0 hv1 hk8, by rw [fA5, gA3]⟩)
theorem hP12r {g d : Nat} {A : hs_A} {T zz k : Nat} {v : Int} (hT : hTT T) (a1 a2 : Int32) (h1 : a1.toInt = (k : Int)) (h2 : a2.toInt = v) (hk8 : k < 8) (hk1 : ¬ k = 1) (hv0 : 0 ≤ v) (hv1 : v < 134217728) (hzz : (A.1 (T + 4) 4).toInt = (zz : Int)) (hz : zz < 408) : hpC g d 12 hm_m12 [.ref (T + 5), .int a1, .int a2] A (fun r A' => ∃ z : Int32, r = some (.int z) ∧ hcW T A A' ∧ ∃ x y : Int32, A'.1 = hs_up A.1 (T + 4) 4 y ∧ y.toInt = (zz : Int) + 1 ∧ A'.2.1 = hs_up A.2.1 (T + 5) zz x ∧ x.toInt = 8 * v + (k : Int) ∧ A'.2.2 = A.2.2) := hpC.all (fun f d => hW12r hT a1 a2 h1 h2 hk8 hk1 hv0 hv1 hzz hz (fun r A' h => h))
theorem hW10r {g d f : Nat} {A : hs_A} {T q : Nat} (hT : hTT T) (a1 a2 : Int32) (h1 : a1.toInt = (q : Int)) {P : Option Value → hs_A → Prop} (hP : ∀ (r : Option Value) (A' : hs_A), (r = none ∧ (hcW T A A' ∧ ∃ s6 : Int32, A'.1 = A.1 ∧ A'.2.1 = hs_up (hs_up A.2.1 (T + 6) q a2) (T + 7) q s6 ∧ A'.2.2 = A.2.2)) → P r A') : hpa (f, g) d none hm_t10 0 [.ref (T + 5), .int a1, .int a2] [] A P := by
  have hT9 : T ≤ 11 := by rcases hT with rfl | rfl <;> omega
  have hiq : a1.toNatClampNeg = q := by have := hn_cn (j := a1) (by omega); omega
  refine hpa_aload_n (by rfl) rfl ?_
  refine hpa_get (v := .ref (T + 7)) (by rfl) (hsT4 hT) (by rfl) (hvT hT (by omega)) ?_
  refine hpa_iload_n (by rfl) rfl ?_
  refine hpa_iload_n (by rfl) rfl ?_
  refine hpx_iast (by rfl) (hsT6 hT) (fun A1 h0A1 h1A1 eA1 fA1 gA1 => ?_)
  have WA1 := (hcW.rfl (T := T) (A := A)).a eA1 fA1 gA1 (by omega)
  refine hpa_aload_n (by rfl) rfl ?_
  refine hpa_get (v := .ref (T + 8)) (by rfl) (hsT4 hT) (by rfl) (hvT hT (by omega)) ?_
  refine hpa_iload_n (by rfl) rfl ?_
  refine hpa_aload_n (by rfl) rfl ?_
  refine hpj_getK (by rfl) (hsT4 hT) (by rfl) (hkA eA1 rfl) ?_
  refine hpx_iast (by rfl) (hsT7 hT) (fun A2 h0A2 h1A2 eA2 fA2 gA2 => ?_)
  have WA2 := (WA1).a eA2 fA2 gA2 (by omega)
  rw [hiq] at fA1 fA2
  exact hpa_return (by rfl) rfl (hP _ _ ⟨rfl, WA2, _, by rw [eA2, eA1], by rw [fA2, fA1], by rw [gA2, gA1]⟩)
theorem hP10r {g d : Nat} {A : hs_A} {T q : Nat} (hT : hTT T) (a1 a2 : Int32) (h1 : a1.toInt = (q : Int)) : hpC g d 10 hm_m10 [.ref (T + 5), .int a1, .int a2] A (fun r A' => r = none ∧ (hcW T A A' ∧ ∃ s6 : Int32, A'.1 = A.1 ∧ A'.2.1 = hs_up (hs_up A.2.1 (T + 6) q a2) (T + 7) q s6 ∧ A'.2.2 = A.2.2)) := hpC.all (fun f d => hW10r hT a1 a2 h1 (fun r A' h => h))
theorem hcW.trans {T : Nat} {A A1 A' : hs_A} (h : hcW T A A1) (w : hcW T A1 A') : hcW T A A' := ⟨fun i k h1 => (w.1 i k h1).trans (h.1 i k h1), fun i hi => (w.2.1 i hi).trans (h.2.1 i hi), w.2.2.trans h.2.2⟩
theorem hW8 {g d f : Nat} {A : hs_A} {T : Nat} (hT : hTT T) {P : Option Value → hs_A → Prop} (hP : ∀ (r : Option Value) (A' : hs_A), (r = none ∧ (hcW T A A' ∧ hcZ8 T 4 A')) → P r A') : hpa (f, g) d none hm_t8 0 [.ref (T + 5), .retAddr 0, .retAddr 0] [] A P := by
  have k0 := hk_0
  have k1 := hk_1
  have k4 := hk_4
  have k7 := hk_7
  have hT9 : T ≤ 11 := by rcases hT with rfl | rfl <;> omega
  have L7 : ∀ (f : Nat) (x7_1 : Int32) (x7_2 : Value) (A7 : hs_A) (k : Nat) (lk : x7_1.toInt = (k : Int)) (k4 : k ≤ 4) (W7 : hcW T A A7) (M7 : hcZ8 T k A7), hpa (f, g) d none hm_t8 7 [.ref (T + 5), .int x7_1, x7_2] [] A7 P := by
    intro f
    induction f with
    | zero => intros; exact hpa.zero
    | succ f ih7 =>
      intro x7_1 x7_2 A7 k lk k4 W7 M7
      refine hpa_iload_nS (by rfl) rfl ?_
      refine hpa_iconst (by rfl) rfl ?_
      refine hpj_cge (by rfl) rfl hk_4 (fun q1 => ?_) (fun q1 => ?_)
      ·
        exact hpa_return (by rfl) rfl (hP _ _ ⟨rfl, W7, by by_cases w : k = 4; (subst w; exact M7); exact False.elim (by omega)⟩)
      ·
        refine hpa_aload_n (by rfl) rfl ?_
        refine hpj_getK (by rfl) (hsT4 hT) (by rfl) rfl ?_
        refine hpa_s1 (by rfl) (Or.inl ⟨_, rfl, rfl⟩) rfl ?_
        refine hpa_aload_n (by rfl) rfl ?_
        refine hpa_iconst (by rfl) rfl ?_
        refine hpj_putI (by rfl) (hsT4 hT) (by rfl) (by rfl) (fun A2 eA2 fA2 => ?_)
        have WA2 := hcW.f (k := 5) W7 eA2 fA2
        have hz19 : (A2.1 (T + 4) 4).toInt = ((2 * k : Nat) : Int) := by rw [eA2, hup2 (by omega)]; have := M7.1; omega
        refine hpa_aload_n (by rfl) rfl ?_
        refine hpa_iconst (by rfl) rfl ?_
        refine hpa_iload_n (by rfl) rfl ?_
        refine hpj_zne (by rfl) rfl (fun q3 => ?_) (fun q3 => ?_)
        ·
          refine hpa_iconst (by rfl) rfl ?_
          refine hpa_call0 (by rfl) (by rfl) (by rfl) (hsT4 hT) (by rfl) (by rfl) (hP12r (k := 0) (v := 0) hT (Int32.ofNat 0) (Int32.ofNat 0) hk_0 hk_0 (by omega) (by omega) (by omega) (by omega) hz19 (by omega)) ?_
          rintro _ A4 ⟨z5, rfl, W_A4, Y_A4⟩
          have VW_A4 := WA2.trans W_A4
          obtain ⟨x1, y1, a1x, b1x, c1x, d1x, g1x⟩ := Y_A4
          have hz33 : (A4.1 (T + 4) 4).toInt = ((2 * k + 1 : Nat) : Int) := by rw [a1x, hup1]; omega
          refine hpa_popI (by rfl) ?_
          refine hpa_aload_n (by rfl) rfl ?_
          refine hpa_bipush (by rfl) rfl ?_
          refine hpa_iconst (by rfl) rfl ?_
          refine hpa_call0 (by rfl) (by rfl) (by rfl) (hsT4 hT) (by rfl) (by rfl) (hP12r (k := 7) (v := 0) hT (Int32.ofNat 7) (Int32.ofNat 0) hk_7 hk_0 (by omega) (by omega) (by omega) (by omega) hz33 (by omega)) ?_
          rintro _ A6 ⟨z7, rfl, W_A6, Y_A6⟩
          have VW_A6 := VW_A4.trans W_A6
          obtain ⟨x2, y2, a2x, b2x, c2x, d2x, g2x⟩ := Y_A6
          refine hpa_popI (by rfl) ?_
          refine hpa_aload_n (by rfl) rfl ?_
          refine hpa_iload_n (by rfl) rfl ?_
          refine hpa_iload_n (by rfl) rfl ?_
          refine hpa_call0 (by rfl) (by rfl) (by rfl) (hsT4 hT) (by rfl) (by rfl) (hP10r (q := k) hT x7_1 (A7.1 (T + 4) 4) (by omega)) ?_
          rintro _ A8 ⟨rfl, W_A8, Y_A8⟩
          have VW_A8 := VW_A6.trans W_A8
          obtain ⟨s6, a3x, b3x, g3x⟩ := Y_A8
          have MA8 : hcZ8 T (k + 1) A8 := M7.more rfl rfl eA2 fA2 a1x c1x a2x c2x (by rw [d1x, if_neg (by omega)]; rfl) (d2x.trans rfl) (by omega) a3x b3x (by have := M7.1; omega)
          refine hpj_iinc (by rfl) rfl rfl hk_1 (by omega) (by omega) (fun _ => rfl) (fun z9 ez9 => ?_)
          refine hpa_goto (by rfl) ?_
          exact ih7 z9 (.int (A7.1 (T + 4) 4)) A8 (k + 1) (by omega) (by omega) VW_A8 MA8
        ·
          refine hpa_iconst (by rfl) rfl ?_
          refine hpa_goto (by rfl) ?_
          refine hpa_call0 (by rfl) (by rfl) (by rfl) (hsT4 hT) (by rfl) (by rfl) (hP12r (k := 0) (v := 1) hT (Int32.ofNat 0) (Int32.ofNat 1) hk_0 hk_1 (by omega) (by omega) (by omega) (by omega) hz19 (by omega)) ?_
          rintro _ A10 ⟨z11, rfl, W_A10, Y_A10⟩
          have VW_A10 := WA2.trans W_A10
          obtain ⟨x1, y1, a1x, b1x, c1x, d1x, g1x⟩ := Y_A10
          have hz33 : (A10.1 (T + 4) 4).toInt = ((2 * k + 1 : Nat) : Int) := by rw [a1x, hup1]; omega
          refine hpa_popI (by rfl) ?_
          refine hpa_aload_n (by rfl) rfl ?_
          refine hpa_bipush (by rfl) rfl ?_
          refine hpa_iconst (by rfl) rfl ?_
          refine hpa_call0 (by rfl) (by rfl) (by rfl) (hsT4 hT) (by rfl) (by rfl) (hP12r (k := 7) (v := 0) hT (Int32.ofNat 7) (Int32.ofNat 0) hk_7 hk_0 (by omega) (by omega) (by omega) (by omega) hz33 (by omega)) ?_
          rintro _ A12 ⟨z13, rfl, W_A12, Y_A12⟩
          have VW_A12 := VW_A10.trans W_A12
          obtain ⟨x2, y2, a2x, b2x, c2x, d2x, g2x⟩ := Y_A12
          refine hpa_popI (by rfl) ?_
          refine hpa_aload_n (by rfl) rfl ?_
          refine hpa_iload_n (by rfl) rfl ?_
          refine hpa_iload_n (by rfl) rfl ?_
          refine hpa_call0 (by rfl) (by rfl) (by rfl) (hsT4 hT) (by rfl) (by rfl) (hP10r (q := k) hT x7_1 (A7.1 (T + 4) 4) (by omega)) ?_
          rintro _ A14 ⟨rfl, W_A14, Y_A14⟩
          have VW_A14 := VW_A12.trans W_A14
          obtain ⟨s6, a3x, b3x, g3x⟩ := Y_A14
          have MA14 : hcZ8 T (k + 1) A14 := M7.more rfl rfl eA2 fA2 a1x c1x a2x c2x (by rw [d1x, if_pos (by omega)]; rfl) (d2x.trans rfl) (by omega) a3x b3x (by have := M7.1; omega)
          refine hpj_iinc (by rfl) rfl rfl hk_1 (by omega) (by omega) (fun _ => rfl) (fun z15 ez15 => ?_)
          refine hpa_goto (by rfl) ?_
          exact ih7 z15 (.int (A7.1 (T + 4) 4)) A14 (k + 1) (by omega) (by omega) VW_A14 MA14
  refine hpa_aload_n (by rfl) rfl ?_
  refine hpa_iconst (by rfl) rfl ?_
  refine hpj_putI (by rfl) (hsT4 hT) (by rfl) (by rfl) (fun A16 eA16 fA16 => ?_)
  have WA16 := hcW.f (k := 4) hcW.rfl (T := T) (A := A) eA16 fA16
  refine hpa_iconst (by rfl) rfl ?_
  refine hpa_s1 (by rfl) (Or.inl ⟨_, rfl, rfl⟩) rfl ?_
  exact L7 _ (Int32.ofNat 0) (.retAddr 0) A16 0 hk_0 (by omega) WA16 ⟨by rw [eA16, hup1]; exact hk_0, fun j hj => absurd hj (Nat.not_lt_zero j)⟩
theorem hP8 {g d : Nat} {A : hs_A} {T : Nat} (hT : hTT T) : hpC g d 8 hm_m8 [.ref (T + 5)] A (fun r A' => r = none ∧ (hcW T A A' ∧ hcZ8 T 4 A')) := hpC.all (fun f d => hW8 hT (fun r A' h => h))
theorem hW54 {g d f : Nat} {A : hs_A} {V : Nat → Int} {T : Nat} (hT : hTT T) {P : Option Value → hs_A → Prop} (hP : ∀ (r : Option Value) (A' : hs_A), (r = none ∧ (hcZ T A A' ∧ (A'.1 T 4).toInt = 0 ∧ (A'.1 T 5).toInt = 0 ∧ hcM V T A' [] hg_d0 [] 8)) → P r A') : hpa (f, g) d none hm_t54 0 [.ref (T + 1)] [] A P := by
  have k0 := hk_0
  have k6 := hk_6
  have hT9 : T ≤ 11 := by rcases hT with rfl | rfl <;> omega
  refine hpa_aload_n (by rfl) rfl ?_
  refine hpa_get (v := .ref (T + 4)) (by rfl) (hsT hT) (by rfl) (hvT hT (by omega)) ?_
  refine hpa_iconst (by rfl) rfl ?_
  refine hpa_call2 (by rfl) (by decide) (by rfl) (by rfl) (by rfl) (hP246T hT (Int32.ofNat 0)) ?_
  rintro _ A1 ⟨rfl, Z_A1, H_A1, E_A1⟩
  have hZ0 := Z_A1
  refine hpa_aload_n (by rfl) rfl ?_
  refine hpa_get (v := .ref (T + 5)) (by rfl) (hsT hT) (by rfl) (hvT hT (by omega)) ?_
  refine hpa_call0 (by rfl) (by rfl) (by rfl) (hsT4 hT) (by rfl) (by rfl) (hP8 hT) ?_
  rintro _ A2 ⟨rfl, W_A2, M_A2⟩
  have hZ1 := hZ0.W W_A2
  refine hpa_aload_n (by rfl) rfl ?_
  refine hpa_iconst (by rfl) rfl ?_
  refine hpj_putI (by rfl) (hsT hT) (by rfl) (by rfl) (fun A3 eA3 fA3 => ?_)
  have ZA3 := hZ1.f (k := 4) eA3 fA3
  refine hpa_aload_n (by rfl) rfl ?_
  refine hpa_iconst (by rfl) rfl ?_
  refine hpj_putI (by rfl) (hsT hT) (by rfl) (by rfl) (fun A4 eA4 fA4 => ?_)
  have ZA4 := ZA3.f (k := 5) eA4 fA4
  refine hpa_aload_n (by rfl) rfl ?_
  refine hpa_bipush (by rfl) rfl ?_
  refine hpj_putI (by rfl) (hsT hT) (by rfl) (by rfl) (fun A5 eA5 fA5 => ?_)
  have ZA5 := ZA4.f (k := 6) eA5 fA5
  refine hpa_aload_n (by rfl) rfl ?_
  refine hpa_iconst (by rfl) rfl ?_
  refine hpj_putI (by rfl) (hsT hT) (by rfl) (by rfl) (fun A6 eA6 fA6 => ?_)
  have ZA6 := ZA5.f (k := 7) eA6 fA6
  have ff : A6.2 = A2.2 := by rw [fA6, fA5, fA4, fA3]
  have fe : A6.1 (T + 4) 4 = A2.1 (T + 4) 4 := by rw [eA6, hup2 (by omega), eA5, hup2 (by omega), eA4, hup2 (by omega), eA3, hup2 (by omega)]
  exact hpa_return (by rfl) rfl (hP _ _ ⟨rfl, ZA6, (congrArg Int32.toInt (show A6.1 T 4 = (Int32.ofNat 0) from (hkF eA6 (by omega) (hkF eA5 (by omega) (hkF eA4 (by omega) (hkS eA3)))))).trans hk_0, (congrArg Int32.toInt (show A6.1 T 5 = (Int32.ofNat 0) from (hkF eA6 (by omega) (hkF eA5 (by omega) (hkS eA4))))).trans hk_0, hcM.init ⟨by rw [fe]; exact M_A2.1, by rw [ff]; exact M_A2.2⟩ (fun j hj => by rw [ff, W_A2.2.1 (T + 3) (by omega), H_A1 j hj]; exact hk_0) ((congrArg Int32.toInt (show A6.1 T 6 = (Int32.ofNat 6) from (hkF eA6 (by omega) (hkS eA5)))).trans hk_6) ((congrArg Int32.toInt (show A6.1 T 7 = (Int32.ofNat 0) from (hkS eA6))).trans hk_0)⟩)
theorem hP54 {g d : Nat} {A : hs_A} {V : Nat → Int} {T : Nat} (hT : hTT T) : hpC g d 54 hm_m54 [.ref (T + 1)] A (fun r A' => r = none ∧ (hcZ T A A' ∧ (A'.1 T 4).toInt = 0 ∧ (A'.1 T 5).toInt = 0 ∧ hcM V T A' [] hg_d0 [] 8)) := hpC.all (fun f d => hW54 hT (fun r A' h => h))
theorem hW37n {g d f : Nat} {A : hs_A} {B : Nat → Int} {n T : Nat} (hT : hTT T) (a1 : Int32) (hA : hcTp B n A) (h1 : a1.toInt = (n : Int)) (hn : n ≤ 2000) (hBr : ∀ i, i < n → B i ≤ 127) (hU : hcU A) {P : Option Value → hs_A → Prop} (hP : ∀ (r : Option Value) (A' : hs_A), (∃ z : Int32, r = some (.int z) ∧ hq_res (ht_K B n) (ht_W B n) (fun u => (ht_S B n u : Int)) (ht_E B n) z.toInt (A'.1 20 6).toInt ∧ hcU A' ∧ (z.toInt = 0 → hq_hs (ht_K B n) (ht_W B n) (ht_E B n) (A'.1 T 4).toInt (A'.1 T 5).toInt) ∧ (z.toInt = 0 → hcQ (ht_K B n) (ht_W B n) (ht_E B n) T A')) → P r A') : hpa (f, g) d (some (.int)) hm_t37 0 [.ref 21, .ref (T + 1), .ref 2, .int a1, .retAddr 0, .retAddr 0, .retAddr 0] [] A P := by
  have k0 := hk_0
  have k1 := hk_1
  have k2 := hk_2
  have k22 := hk_22
  have k400 := hk_400
  have k4294967295 := hk_4294967295
  have hT9 : T ≤ 11 := by rcases hT with rfl | rfl <;> omega
  have hT2 : 2 ≤ T := by rcases hT with rfl | rfl <;> omega
  have L52 : ∀ (f : Nat) (x52_4 : Int32) (x52_5 : Int32) (x52_6 : Value) (A52 : hs_A) (D52 : (x52_4.toInt = 1 ∧ ∃ (t a b c : Nat) (ns : List Nat) (nm sn : Nat) (o : Option (Nat × Nat)) (zz : Nat), x52_5.toInt ≤ (t : Int) ∧ hcB (ht_K B n) (ht_W B n) (fun u => (ht_S B n u : Int)) (ht_E B n) T A52 t (0, a, b, c, ns, nm, sn, o) ∧ hcR2 (ht_W B n) (fun u => (ht_S B n u : Int)) T A52 ns none sn o (hg_q (ht_K B n) (ht_W B n) (ht_E B n) t).1 [] zz ∧ zz ≤ 8 + t) ∨ (x52_4.toInt = 0 ∧ hcF (ht_K B n) (ht_W B n) (fun u => (ht_S B n u : Int)) (ht_E B n) T A52)) (lo52 : 0 ≤ x52_5.toInt), hpa (f, g) d (some (.int)) hm_t37 52 [.ref 21, .ref (T + 1), .ref 2, .int a1, .int x52_4, .int x52_5, x52_6] [] A52 P := by
    intro f
    induction f with
    | zero => intros; exact hpa.zero
    | succ f ih52 =>
      intro x52_4 x52_5 x52_6 A52 D52 lo52
      rcases D52 with ⟨fz0, t, a, b, c, ns, nm, sn, o, zz, lt0, B1, R1, z1⟩ | ⟨fz0, F1⟩
      ·
        have h401 := B1.at.1
        have hf0 := B1.2.2.2.2
        have hl0 := R1.2.2.2.2.1
        refine hpa_iloadS (by rfl) rfl ?_
        refine hpa_sipush (by rfl) rfl ?_
        refine hpj_cgt (by rfl) rfl hk_400 (fun q1 => False.elim (by omega)) (fun q1 => ?_)
        refine hpa_iload (by rfl) rfl ?_
        refine hpj_zeq (by rfl) rfl (fun q2 => False.elim (by omega)) (fun q2 => ?_)
        refine hpa_aload_n (by rfl) rfl ?_
        refine hpa_call0 (by rfl) (by rfl) (by rfl) (by rfl) (by rfl) (by rfl) (hP38 hT B1) ?_
        rintro _ _ ⟨rfl, z4, rfl, fz_A3⟩
        refine hpa_bipush (by rfl) rfl ?_
        refine hpj_ceq (by rfl) rfl hk_22 (fun q5 => ?_) (fun q5 => ?_)
        ·
          have hK22 : ht_K B n t = 22 := by omega
          refine hpa_aload_n (by rfl) rfl ?_
          refine hpj_getK (by rfl) (by rfl) (by rfl) rfl ?_
          refine hpj_zne (by rfl) rfl (fun q6 => False.elim (by omega)) (fun q6 => ?_)
          refine hpa_aload_n (by rfl) rfl ?_
          refine hpa_aload_n (by rfl) rfl ?_
          refine hpj_getK (by rfl) (by rfl) (by rfl) rfl ?_
          refine hpj_putI (by rfl) (by rfl) (by rfl) (by rfl) (fun A7 eA7 fA7 => ?_)
          refine hpa_aload_n (by rfl) rfl ?_
          refine hpa_aload_n (by rfl) rfl ?_
          refine hpj_getK (by rfl) (by rfl) (by rfl) (hkF eA7 (by omega) rfl) ?_
          refine hpj_putI (by rfl) (by rfl) (by rfl) (by rfl) (fun A8 eA8 fA8 => ?_)
          refine hpa_aload_n (by rfl) rfl ?_
          refine hpj_getK (by rfl) (by rfl) (by rfl) (hkF eA8 (by omega) (hkS eA7)) ?_
          exact hpa_ireturn (by rfl) rfl (hP _ _ ⟨_, rfl, by rw [show A8.1 20 6 = (A52.1 20 8) from (hkS eA8)]; exact hq_res.late B1.2.2.2.1 (hqd0_end hK22) hl0, B1.2.1.2.2.fr (by rw [fA8, fA7]), fun _ => ⟨_, _, B1.2.2.2.1, hqd0_end hK22, by rw [show A8.1 T 4 = (A52.1 T 4) from (hkF eA8 (by omega) (hkF eA7 (by omega) rfl))]; exact R1.1, by rw [show A8.1 T 5 = (A52.1 T 5) from (hkF eA8 (by omega) (hkF eA7 (by omega) rfl))]; exact R1.2.1⟩, fun _ => ⟨_, _, _, B1.2.2.2.1, hqd0_end hK22, (R1.m.mv (fun i k h1 h2 _ => by rw [eA7, hup2 (by omega)]) (fun i h1 h2 => by rw [fA7])).mv (fun i k h1 h2 _ => by rw [eA8, hup2 (by omega)]) (fun i h1 h2 => by rw [fA8])⟩⟩)
        ·
          refine hpa_aload_n (by rfl) rfl ?_
          refine hpa_call0 (by rfl) (by rfl) (by rfl) (by rfl) (by rfl) (by rfl) (hP38 hT B1) ?_
          rintro _ _ ⟨rfl, z10, rfl, fz_A9⟩
          refine hpa_s1 (by rfl) (Or.inr ⟨_, rfl, rfl⟩) rfl ?_
          refine hpa_iload (by rfl) rfl ?_
          by_cases q11 : z10.toInt = 0
          ·
            refine hpa_tabIn (by rfl) (by omega) (by omega) (by rw [q11]; rfl) (tgt := 128) (by rfl) ?_
            refine hpa_aload_n (by rfl) rfl ?_
            refine hpa_call0 (by rfl) (by rfl) (by rfl) (by rfl) (by rfl) (by rfl) (hP45 hT B1 R1 z1 (by omega)) ?_
            rintro _ A12 ⟨z13, rfl, (⟨fz_A12, OK_A12⟩ | ⟨fz_A12, F_A12⟩)⟩
            ·
              obtain ⟨t9, a9, b9, c9, ns9, nm9, sn9, o9, zz9, lt9, B9, R9, z9⟩ := OK_A12
              refine hpa_s1 (by rfl) (Or.inr ⟨_, rfl, rfl⟩) rfl ?_
              refine hpa_goto (by rfl) ?_
              refine hpj_iinc (by rfl) rfl rfl hk_1 (by omega) (by omega) (fun _ => rfl) (fun z14 ez14 => ?_)
              refine hpa_goto (by rfl) ?_
              exact ih52 z13 z14 (.int z10) A12 (Or.inl ⟨fz_A12, _, _, _, _, _, _, _, _, _, by omega, B9, R9, by omega⟩) (by omega)
            ·
              refine hpa_s1 (by rfl) (Or.inr ⟨_, rfl, rfl⟩) rfl ?_
              refine hpa_goto (by rfl) ?_
              refine hpj_iinc (by rfl) rfl rfl hk_1 (by omega) (by omega) (fun _ => rfl) (fun z15 ez15 => ?_)
              refine hpa_goto (by rfl) ?_
              exact ih52 z13 z15 (.int z10) A12 (Or.inr ⟨fz_A12, F_A12⟩) (by omega)
          ·
            by_cases q16 : z10.toInt = 1
            ·
              refine hpa_tabIn (by rfl) (by omega) (by omega) (by rw [q16]; rfl) (tgt := 137) (by rfl) ?_
              refine hpa_aload_n (by rfl) rfl ?_
              refine hpa_call0 (by rfl) (by rfl) (by rfl) (by rfl) (by rfl) (by rfl) (hP46 hT B1 R1 z1 (by omega)) ?_
              rintro _ A17 ⟨z18, rfl, (⟨fz_A17, OK_A17⟩ | ⟨fz_A17, F_A17⟩)⟩
              ·
                obtain ⟨t9, a9, b9, c9, ns9, nm9, sn9, o9, zz9, lt9, B9, R9, z9⟩ := OK_A17
                refine hpa_s1 (by rfl) (Or.inr ⟨_, rfl, rfl⟩) rfl ?_
                refine hpa_goto (by rfl) ?_
                refine hpj_iinc (by rfl) rfl rfl hk_1 (by omega) (by omega) (fun _ => rfl) (fun z19 ez19 => ?_)
                refine hpa_goto (by rfl) ?_
                exact ih52 z18 z19 (.int z10) A17 (Or.inl ⟨fz_A17, _, _, _, _, _, _, _, _, _, by omega, B9, R9, by omega⟩) (by omega)
              ·
                refine hpa_s1 (by rfl) (Or.inr ⟨_, rfl, rfl⟩) rfl ?_
                refine hpa_goto (by rfl) ?_
                refine hpj_iinc (by rfl) rfl rfl hk_1 (by omega) (by omega) (fun _ => rfl) (fun z20 ez20 => ?_)
                refine hpa_goto (by rfl) ?_
                exact ih52 z18 z20 (.int z10) A17 (Or.inr ⟨fz_A17, F_A17⟩) (by omega)
            ·
              by_cases q21 : z10.toInt = 2
              ·
                refine hpa_tabIn (by rfl) (by omega) (by omega) (by rw [q21]; rfl) (tgt := 146) (by rfl) ?_
                refine hpa_aload_n (by rfl) rfl ?_
                refine hpa_iload (by rfl) rfl ?_
                refine hpa_iconst (by rfl) rfl ?_
                refine hpj_isub (by rfl) rfl hk_2 (by omega) (by omega) (fun z22 ez22 => ?_)
                refine hpa_call0 (by rfl) (by rfl) (by rfl) (by rfl) (by rfl) (by rfl) (hP49 hT z22 B1 R1 z1 (by omega) (by omega) ht_W_ok) ?_
                rintro _ A23 ⟨z24, rfl, (⟨fz_A23, OK_A23⟩ | ⟨fz_A23, F_A23⟩)⟩
                ·
                  obtain ⟨t9, a9, b9, c9, ns9, nm9, sn9, o9, zz9, lt9, B9, R9, z9⟩ := OK_A23
                  refine hpa_s1 (by rfl) (Or.inr ⟨_, rfl, rfl⟩) rfl ?_
                  refine hpa_goto (by rfl) ?_
                  refine hpj_iinc (by rfl) rfl rfl hk_1 (by omega) (by omega) (fun _ => rfl) (fun z25 ez25 => ?_)
                  refine hpa_goto (by rfl) ?_
                  exact ih52 z24 z25 (.int z10) A23 (Or.inl ⟨fz_A23, _, _, _, _, _, _, _, _, _, by omega, B9, R9, by omega⟩) (by omega)
                ·
                  refine hpa_s1 (by rfl) (Or.inr ⟨_, rfl, rfl⟩) rfl ?_
                  refine hpa_goto (by rfl) ?_
                  refine hpj_iinc (by rfl) rfl rfl hk_1 (by omega) (by omega) (fun _ => rfl) (fun z26 ez26 => ?_)
                  refine hpa_goto (by rfl) ?_
                  exact ih52 z24 z26 (.int z10) A23 (Or.inr ⟨fz_A23, F_A23⟩) (by omega)
              ·
                by_cases q27 : z10.toInt = 3
                ·
                  refine hpa_tabIn (by rfl) (by omega) (by omega) (by rw [q27]; rfl) (tgt := 146) (by rfl) ?_
                  refine hpa_aload_n (by rfl) rfl ?_
                  refine hpa_iload (by rfl) rfl ?_
                  refine hpa_iconst (by rfl) rfl ?_
                  refine hpj_isub (by rfl) rfl hk_2 (by omega) (by omega) (fun z28 ez28 => ?_)
                  refine hpa_call0 (by rfl) (by rfl) (by rfl) (by rfl) (by rfl) (by rfl) (hP49 hT z28 B1 R1 z1 (by omega) (by omega) ht_W_ok) ?_
                  rintro _ A29 ⟨z30, rfl, (⟨fz_A29, OK_A29⟩ | ⟨fz_A29, F_A29⟩)⟩
                  ·
                    obtain ⟨t9, a9, b9, c9, ns9, nm9, sn9, o9, zz9, lt9, B9, R9, z9⟩ := OK_A29
                    refine hpa_s1 (by rfl) (Or.inr ⟨_, rfl, rfl⟩) rfl ?_
                    refine hpa_goto (by rfl) ?_
                    refine hpj_iinc (by rfl) rfl rfl hk_1 (by omega) (by omega) (fun _ => rfl) (fun z31 ez31 => ?_)
                    refine hpa_goto (by rfl) ?_
                    exact ih52 z30 z31 (.int z10) A29 (Or.inl ⟨fz_A29, _, _, _, _, _, _, _, _, _, by omega, B9, R9, by omega⟩) (by omega)
                  ·
                    refine hpa_s1 (by rfl) (Or.inr ⟨_, rfl, rfl⟩) rfl ?_
                    refine hpa_goto (by rfl) ?_
                    refine hpj_iinc (by rfl) rfl rfl hk_1 (by omega) (by omega) (fun _ => rfl) (fun z32 ez32 => ?_)
                    refine hpa_goto (by rfl) ?_
                    exact ih52 z30 z32 (.int z10) A29 (Or.inr ⟨fz_A29, F_A29⟩) (by omega)
                ·
                  by_cases q33 : z10.toInt = 4
                  ·
                    refine hpa_tabIn (by rfl) (by omega) (by omega) (by rw [q33]; rfl) (tgt := 146) (by rfl) ?_
                    refine hpa_aload_n (by rfl) rfl ?_
                    refine hpa_iload (by rfl) rfl ?_
                    refine hpa_iconst (by rfl) rfl ?_
                    refine hpj_isub (by rfl) rfl hk_2 (by omega) (by omega) (fun z34 ez34 => ?_)
                    refine hpa_call0 (by rfl) (by rfl) (by rfl) (by rfl) (by rfl) (by rfl) (hP49 hT z34 B1 R1 z1 (by omega) (by omega) ht_W_ok) ?_
                    rintro _ A35 ⟨z36, rfl, (⟨fz_A35, OK_A35⟩ | ⟨fz_A35, F_A35⟩)⟩
                    ·
                      obtain ⟨t9, a9, b9, c9, ns9, nm9, sn9, o9, zz9, lt9, B9, R9, z9⟩ := OK_A35
                      refine hpa_s1 (by rfl) (Or.inr ⟨_, rfl, rfl⟩) rfl ?_
                      refine hpa_goto (by rfl) ?_
                      refine hpj_iinc (by rfl) rfl rfl hk_1 (by omega) (by omega) (fun _ => rfl) (fun z37 ez37 => ?_)
                      refine hpa_goto (by rfl) ?_
                      exact ih52 z36 z37 (.int z10) A35 (Or.inl ⟨fz_A35, _, _, _, _, _, _, _, _, _, by omega, B9, R9, by omega⟩) (by omega)
                    ·
                      refine hpa_s1 (by rfl) (Or.inr ⟨_, rfl, rfl⟩) rfl ?_
                      refine hpa_goto (by rfl) ?_
                      refine hpj_iinc (by rfl) rfl rfl hk_1 (by omega) (by omega) (fun _ => rfl) (fun z38 ez38 => ?_)
                      refine hpa_goto (by rfl) ?_
                      exact ih52 z36 z38 (.int z10) A35 (Or.inr ⟨fz_A35, F_A35⟩) (by omega)
                  ·
                    by_cases q39 : z10.toInt = 5
                    ·
                      refine hpa_tabIn (by rfl) (by omega) (by omega) (by rw [q39]; rfl) (tgt := 146) (by rfl) ?_
                      refine hpa_aload_n (by rfl) rfl ?_
                      refine hpa_iload (by rfl) rfl ?_
                      refine hpa_iconst (by rfl) rfl ?_
                      refine hpj_isub (by rfl) rfl hk_2 (by omega) (by omega) (fun z40 ez40 => ?_)
                      refine hpa_call0 (by rfl) (by rfl) (by rfl) (by rfl) (by rfl) (by rfl) (hP49 hT z40 B1 R1 z1 (by omega) (by omega) ht_W_ok) ?_
                      rintro _ A41 ⟨z42, rfl, (⟨fz_A41, OK_A41⟩ | ⟨fz_A41, F_A41⟩)⟩
                      ·
                        obtain ⟨t9, a9, b9, c9, ns9, nm9, sn9, o9, zz9, lt9, B9, R9, z9⟩ := OK_A41
                        refine hpa_s1 (by rfl) (Or.inr ⟨_, rfl, rfl⟩) rfl ?_
                        refine hpa_goto (by rfl) ?_
                        refine hpj_iinc (by rfl) rfl rfl hk_1 (by omega) (by omega) (fun _ => rfl) (fun z43 ez43 => ?_)
                        refine hpa_goto (by rfl) ?_
                        exact ih52 z42 z43 (.int z10) A41 (Or.inl ⟨fz_A41, _, _, _, _, _, _, _, _, _, by omega, B9, R9, by omega⟩) (by omega)
                      ·
                        refine hpa_s1 (by rfl) (Or.inr ⟨_, rfl, rfl⟩) rfl ?_
                        refine hpa_goto (by rfl) ?_
                        refine hpj_iinc (by rfl) rfl rfl hk_1 (by omega) (by omega) (fun _ => rfl) (fun z44 ez44 => ?_)
                        refine hpa_goto (by rfl) ?_
                        exact ih52 z42 z44 (.int z10) A41 (Or.inr ⟨fz_A41, F_A41⟩) (by omega)
                    ·
                      by_cases q45 : z10.toInt = 6
                      ·
                        refine hpa_tabIn (by rfl) (by omega) (by omega) (by rw [q45]; rfl) (tgt := 159) (by rfl) ?_
                        refine hpa_aload_n (by rfl) rfl ?_
                        refine hpa_call0 (by rfl) (by rfl) (by rfl) (by rfl) (by rfl) (by rfl) (hP47 hT B1 R1 z1 (by omega)) ?_
                        rintro _ A46 ⟨z47, rfl, (⟨fz_A46, OK_A46⟩ | ⟨fz_A46, F_A46⟩)⟩
                        ·
                          obtain ⟨t9, a9, b9, c9, ns9, nm9, sn9, o9, zz9, lt9, B9, R9, z9⟩ := OK_A46
                          refine hpa_s1 (by rfl) (Or.inr ⟨_, rfl, rfl⟩) rfl ?_
                          refine hpa_goto (by rfl) ?_
                          refine hpj_iinc (by rfl) rfl rfl hk_1 (by omega) (by omega) (fun _ => rfl) (fun z48 ez48 => ?_)
                          refine hpa_goto (by rfl) ?_
                          exact ih52 z47 z48 (.int z10) A46 (Or.inl ⟨fz_A46, _, _, _, _, _, _, _, _, _, by omega, B9, R9, by omega⟩) (by omega)
                        ·
                          refine hpa_s1 (by rfl) (Or.inr ⟨_, rfl, rfl⟩) rfl ?_
                          refine hpa_goto (by rfl) ?_
                          refine hpj_iinc (by rfl) rfl rfl hk_1 (by omega) (by omega) (fun _ => rfl) (fun z49 ez49 => ?_)
                          refine hpa_goto (by rfl) ?_
                          exact ih52 z47 z49 (.int z10) A46 (Or.inr ⟨fz_A46, F_A46⟩) (by omega)
                      ·
                        by_cases q50 : z10.toInt = 7
                        ·
                          refine hpa_tabIn (by rfl) (by omega) (by omega) (by rw [q50]; rfl) (tgt := 168) (by rfl) ?_
                          refine hpa_aload_n (by rfl) rfl ?_
                          refine hpa_call0 (by rfl) (by rfl) (by rfl) (by rfl) (by rfl) (by rfl) (hP48 hT B1 R1 z1 (by omega)) ?_
                          rintro _ A51 ⟨z52, rfl, (⟨fz_A51, OK_A51⟩ | ⟨fz_A51, F_A51⟩)⟩
                          ·
                            obtain ⟨t9, a9, b9, c9, ns9, nm9, sn9, o9, zz9, lt9, B9, R9, z9⟩ := OK_A51
                            refine hpa_s1 (by rfl) (Or.inr ⟨_, rfl, rfl⟩) rfl ?_
                            refine hpa_goto (by rfl) ?_
                            refine hpj_iinc (by rfl) rfl rfl hk_1 (by omega) (by omega) (fun _ => rfl) (fun z53 ez53 => ?_)
                            refine hpa_goto (by rfl) ?_
                            exact ih52 z52 z53 (.int z10) A51 (Or.inl ⟨fz_A51, _, _, _, _, _, _, _, _, _, by omega, B9, R9, by omega⟩) (by omega)
                          ·
                            refine hpa_s1 (by rfl) (Or.inr ⟨_, rfl, rfl⟩) rfl ?_
                            refine hpa_goto (by rfl) ?_
                            refine hpj_iinc (by rfl) rfl rfl hk_1 (by omega) (by omega) (fun _ => rfl) (fun z54 ez54 => ?_)
                            refine hpa_goto (by rfl) ?_
                            exact ih52 z52 z54 (.int z10) A51 (Or.inr ⟨fz_A51, F_A51⟩) (by omega)
                        ·
                          refine hpa_tabOut (by rfl) (by omega) (tgt := 177) (by rfl) ?_
                          refine hpa_aload_n (by rfl) rfl ?_
                          refine hpa_iconst (by rfl) rfl ?_
                          refine hpa_call0 (by rfl) (by rfl) (by rfl) (by rfl) (by rfl) (by rfl) (hP39 hT (Int32.ofNat 1) B1 ⟨_, B1.2.2.2.1, hqd0_else (by omega) (by omega)⟩ (by decide) hk_1) ?_
                          rintro _ A55 ⟨z56, rfl, fz_A55, F_A55⟩
                          refine hpa_s1 (by rfl) (Or.inr ⟨_, rfl, rfl⟩) rfl ?_
                          refine hpj_iinc (by rfl) rfl rfl hk_1 (by omega) (by omega) (fun _ => rfl) (fun z57 ez57 => ?_)
                          refine hpa_goto (by rfl) ?_
                          exact ih52 z56 z57 (.int z10) A55 (Or.inr ⟨fz_A55, F_A55⟩) (by omega)
      ·
        obtain ⟨frf, fU, ft, fk, fq, fk0, fv, fp⟩ := id F1
        refine hpa_iloadS (by rfl) rfl ?_
        refine hpa_sipush (by rfl) rfl ?_
        refine hpj_cgt (by rfl) rfl hk_400 (fun q58 => ?_) (fun q58 => ?_)
        ·
          refine hpa_aload_n (by rfl) rfl ?_
          refine hpj_getK (by rfl) (by rfl) (by rfl) rfl ?_
          refine hpj_zne (by rfl) rfl (fun q59 => ?_) (fun q59 => False.elim (by omega))
          refine hpa_aload_n (by rfl) rfl ?_
          refine hpj_getK (by rfl) (by rfl) (by rfl) rfl ?_
          exact hpa_ireturn (by rfl) rfl (hP _ _ ⟨_, rfl, Or.inl ⟨ft, fk, fq, fk0, fv, fp⟩, fU, fun q => False.elim (by omega), fun q => False.elim (by omega)⟩)
        ·
          refine hpa_iload (by rfl) rfl ?_
          refine hpj_zeq (by rfl) rfl (fun q60 => ?_) (fun q60 => False.elim (by omega))
          refine hpa_aload_n (by rfl) rfl ?_
          refine hpj_getK (by rfl) (by rfl) (by rfl) rfl ?_
          refine hpj_zne (by rfl) rfl (fun q61 => ?_) (fun q61 => False.elim (by omega))
          refine hpa_aload_n (by rfl) rfl ?_
          refine hpj_getK (by rfl) (by rfl) (by rfl) rfl ?_
          exact hpa_ireturn (by rfl) rfl (hP _ _ ⟨_, rfl, Or.inl ⟨ft, fk, fq, fk0, fv, fp⟩, fU, fun q => False.elim (by omega), fun q => False.elim (by omega)⟩)
  refine hpa_aload_n (by rfl) rfl ?_
  refine hpa_aload_n (by rfl) rfl ?_
  refine hpj_putR (i := 20) (by rfl) (by rfl) (by rfl) (by rfl) (fun A1 eA1 fA1 gA1 iA1 => ?_)
  have hrf : A1.2.2.2 20 2 = T + 1 ∧ True := ⟨by rw [iA1]; simp [hs_upN], trivial⟩
  refine hpa_aload_n (by rfl) rfl ?_
  refine hpj_getT (by rfl) (by rfl) (by rfl) hrf.1 ?_
  refine hpa_call0 (by rfl) (by rfl) (by rfl) (hsT hT) (by rfl) (by rfl) (hP54 (V := ht_W B n) hT) ?_
  rintro _ A62 ⟨rfl, Z_A62, h4_A62, h5_A62, M_A62⟩
  have hA2 : hcTp B n A62 := fun i hi => by rw [Z_A62.2.1 1 (by omega), fA1]; exact hA i hi
  have hU2 : hcU A62 := hU.fr (by rw [Z_A62.2.2, gA1])
  have hrf2 : A62.2.2.2 20 2 = T + 1 := by rw [Z_A62.2.2]; exact hrf.1
  refine hpa_aload_n (by rfl) rfl ?_
  refine hpa_get (v := .ref 22) (by rfl) (by rfl) (by rfl) rfl ?_
  refine hpa_aload_n (by rfl) rfl ?_
  refine hpa_iload_n (by rfl) rfl ?_
  refine hpa_call0 (by rfl) (by rfl) (by rfl) (by rfl) (by rfl) (by rfl) (hP58 a1 hA2 h1 hn hBr hU2) ?_
  rintro _ A63 ⟨rfl, C_A63, TE_A63⟩
  refine hpa_aload_n (by rfl) rfl ?_
  refine hpa_iconst (by rfl) rfl ?_
  refine hpj_putI (by rfl) (by rfl) (by rfl) (by rfl) (fun A64 eA64 fA64 => ?_)
  refine hpa_aload_n (by rfl) rfl ?_
  refine hpa_iconst (by rfl) rfl ?_
  refine hpj_putI (by rfl) (by rfl) (by rfl) (by rfl) (fun A65 eA65 fA65 => ?_)
  refine hpa_aload_n (by rfl) rfl ?_
  refine hpa_iconst (by rfl) rfl ?_
  refine hpj_putI (by rfl) (by rfl) (by rfl) (by rfl) (fun A66 eA66 fA66 => ?_)
  refine hpa_aload_n (by rfl) rfl ?_
  refine hpa_iconst (by rfl) rfl ?_
  refine hpj_putI (by rfl) (by rfl) (by rfl) (by rfl) (fun A67 eA67 fA67 => ?_)
  refine hpa_aload_n (by rfl) rfl ?_
  refine hpa_iconst (by rfl) rfl ?_
  refine hpj_putI (by rfl) (by rfl) (by rfl) (by rfl) (fun A68 eA68 fA68 => ?_)
  obtain ⟨B0, R00⟩ := hc_init hT9 hrf2 h4_A62 h5_A62 C_A63 TE_A63 eA64 fA64 eA65 fA65 eA66 fA66 eA67 fA67 eA68 fA68
  have M0 := (M_A62.mv (fun i k h1 h2 _ => C_A63.1 i k (by omega)) (fun i h1 h2 => C_A63.2.1 i (by omega) (by omega)))
  replace M0 := M0.mv (fun i k h1 h2 _ => by rw [eA64, hup2 (by omega)]) (fun i h1 h2 => by rw [fA64])
  replace M0 := M0.mv (fun i k h1 h2 _ => by rw [eA65, hup2 (by omega)]) (fun i h1 h2 => by rw [fA65])
  replace M0 := M0.mv (fun i k h1 h2 _ => by rw [eA66, hup2 (by omega)]) (fun i h1 h2 => by rw [fA66])
  replace M0 := M0.mv (fun i k h1 h2 _ => by rw [eA67, hup2 (by omega)]) (fun i h1 h2 => by rw [fA67])
  replace M0 := M0.mv (fun i k h1 h2 _ => by rw [eA68, hup2 (by omega)]) (fun i h1 h2 => by rw [fA68])
  have R0 := hcR2.of R00 M0
  refine hpa_iconst (by rfl) rfl ?_
  refine hpa_s1 (by rfl) (Or.inr ⟨_, rfl, rfl⟩) rfl ?_
  refine hpa_iconst (by rfl) rfl ?_
  refine hpa_s1 (by rfl) (Or.inr ⟨_, rfl, rfl⟩) rfl ?_
  exact L52 _ (Int32.ofNat 1) (Int32.ofNat 0) (.retAddr 0) A68 (Or.inl ⟨hk_1, _, _, _, _, _, _, _, _, _, by omega, B0, R0, by omega⟩) (by omega)
theorem hP37n {g d : Nat} {A : hs_A} {B : Nat → Int} {n T : Nat} (hT : hTT T) (a1 : Int32) (hA : hcTp B n A) (h1 : a1.toInt = (n : Int)) (hn : n ≤ 2000) (hBr : ∀ i, i < n → B i ≤ 127) (hU : hcU A) : hpC g d 37 hm_m37 [.ref 21, .ref (T + 1), .ref 2, .int a1] A (fun r A' => ∃ z : Int32, r = some (.int z) ∧ hq_res (ht_K B n) (ht_W B n) (fun u => (ht_S B n u : Int)) (ht_E B n) z.toInt (A'.1 20 6).toInt ∧ hcU A' ∧ (z.toInt = 0 → hq_hs (ht_K B n) (ht_W B n) (ht_E B n) (A'.1 T 4).toInt (A'.1 T 5).toInt) ∧ (z.toInt = 0 → hcQ (ht_K B n) (ht_W B n) (ht_E B n) T A')) := hpC.all (fun f d => hW37n hT a1 hA h1 hn hBr hU (fun r A' h => h))
theorem hP37 {g d : Nat} {A : hs_A} {B : Nat → Int} {n T : Nat} (hT : hTT T) (a1 : Int32) (hA : hcTp B n A) (h1 : a1.toInt = (n : Int)) (hn : n ≤ 2000) (hBr : ∀ i, i < n → B i ≤ 127) (hU : hcU A) : hpC g d 37 hm_m37 [.ref 21, .ref (T + 1), .ref 2, .int a1] A (fun r A' => ∃ z : Int32, r = some (.int z) ∧ hq_res (ht_K B n) (ht_W B n) (fun u => (ht_S B n u : Int)) (ht_E B n) z.toInt (A'.1 20 6).toInt ∧ hcU A') := (hP37n hT a1 hA h1 hn hBr hU).imp (fun r A' h => by obtain ⟨z, e, x, y, -⟩ := h; exact ⟨z, e, x, y⟩)
theorem hi8 {x : Int32} (h0 : -128 ≤ x.toInt) (h1 : x.toInt ≤ 127) : x.toInt8.toInt32 = x := by
  have key : ∀ j : Fin 256, (Int32.ofInt ((j.1 : Int) - 128)).toInt8.toInt32 = Int32.ofInt ((j.1 : Int) - 128) := by decide +kernel
  have := key ⟨(x.toInt + 128).toNat, by omega⟩
  dsimp only at this
  rw [show (((x.toInt + 128).toNat : Nat) : Int) - 128 = x.toInt by omega, Int32.ofInt_toInt] at this
  exact this
def hmPo (A A' : hs_A) : Prop := A'.1 = A.1 ∧ (∀ i, 370 ≤ i ∧ i ≤ 372 → A'.2.1 i = A.2.1 i) ∧ A'.2.2 = A.2.2
theorem hmPo.a {A A1 A' : hs_A} {i0 k : Nat} {x : Int32} (h : hmPo A A1) (e : A'.1 = A1.1) (f : A'.2.1 = hs_up A1.2.1 i0 k x) (g : A'.2.2 = A1.2.2) (hi0 : 373 ≤ i0) : hmPo A A' := ⟨e.trans h.1, fun i hi => by
  rw [f, ← h.2.1 i hi]
  funext j
  exact hup2 (fun q => by omega), g.trans h.2.2⟩
theorem hmPo.rfl {A : hs_A} : hmPo A A := ⟨Eq.refl _, fun _ _ => Eq.refl _, Eq.refl _⟩
theorem hzk {A1 A' : hs_A} {c i0 k j : Nat} {x : Int32} (h : (A1.2.1 c j).toInt = 0) (f : A'.2.1 = hs_up A1.2.1 i0 k x) (hne : ¬ c = i0) : (A'.2.1 c j).toInt = 0 := by
  rw [f, hup2 (fun q => hne q.1)]
  exact h
/-- the reference at a reading's start -/
theorem hm_init {K V S : Nat → Int} {E : Nat → Nat → Bool} {sd : Nat} {A3 A4 A5 A6 A7 A8 A9 B0 B1 B2 : hs_A} {y : Int32} {x1 x2 : Int32} (hsd : sd ≤ 1) (TE : hmT K V S A3 ∧ hmE K E A3) (e4 : A4.1 = hs_up A3.1 367 11 (Int32.ofNat 0)) (f4 : A4.2 = A3.2) (e5 : A5.1 = hs_up A4.1 367 12 (Int32.ofNat 0)) (f5 : A5.2 = A4.2) (e6 : A6.1 = hs_up A5.1 367 13 (Int32.ofNat 0)) (f6 : A6.2 = A5.2) (e7 : A7.1 = hs_up A6.1 367 15 (Int32.ofNat 0)) (f7 : A7.2 = A6.2) (e8 : A8.1 = hs_up A7.1 367 19 y) (f8 : A8.2 = A7.2) (hy : y.toInt = (sd : Int)) (e9 : A9.1 = hs_up A8.1 367 20 (Int32.ofNat 0)) (f9 : A9.2 = A8.2) (hP : hmPo A9 B0) (z1 : (B0.2.1 376 sd).toInt = 0) (z2 : (B0.2.1 379 sd).toInt = 0) (g1 : B1.1 = hs_up B0.1 367 31 x1) (h1 : B1.2 = B0.2) (g2 : B2.1 = hs_up B1.1 367 37 x2) (h2 : B2.2 = B1.2) : hmB K V S E B2 0 (0, 0, 0, 0, [], 0, 0, none) ∧ hmR S B2 0 [] 0 none sd 0 := by
  have ef : A9.2 = A3.2 := by rw [f9, f8, f7, f6, f5, f4]
  have ar : ∀ i, 370 ≤ i ∧ i ≤ 372 → B2.2.1 i = A3.2.1 i := fun i hi => by rw [h2, h1, hP.2.1 i hi, ef]
  have lg : B2.2.2 = A3.2.2 := by rw [h2, h1, hP.2.2, ef]
  have fd : ∀ k, ¬ k = 31 → ¬ k = 37 → B2.1 367 k = A9.1 367 k := fun k k1 k2 => by rw [g2, hup2 (by omega), g1, hup2 (by omega), hP.1]
  refine ⟨⟨⟨fun j j1 j2 => ?_, fun u t u1 u2 u3 u4 u5 u6 => ?_, TE.2.2.fr (by rw [lg])⟩, ?_, Eq.refl _, ?_⟩, ?_, hsd, ?_, ?_, ?_, ?_, trivial, ?_⟩
  · rw [ar 370 (by omega), ar 371 (by omega), ar 372 (by omega)]
    exact TE.1 j j1 j2
  · rw [lg]
    exact TE.2.1 u t u1 u2 u3 u4 u5 u6
  · rw [fd 11 (by omega) (by omega), e9, hup2 (by omega), e8, hup2 (by omega), e7, hup2 (by omega), e6, hup2 (by omega), e5, hup2 (by omega), e4, hup1]
    exact hk_0
  · rw [fd 13 (by omega) (by omega), e9, hup2 (by omega), e8, hup2 (by omega), e7, hup2 (by omega), e6, hup1]
    exact hk_0
  · rw [fd 19 (by omega) (by omega), e9, hup2 (by omega), e8, hup1]
    exact hy
  · rw [fd 12 (by omega) (by omega), e9, hup2 (by omega), e8, hup2 (by omega), e7, hup2 (by omega), e6, hup2 (by omega), e5, hup1]
    exact hk_0
  · rw [h2, h1]
    exact z1
  · rw [h2, h1]
    exact z2
  · rw [fd 20 (by omega) (by omega), e9, hup1]
    exact hk_0
  · show (B2.1 367 15).toInt = 0
    rw [fd 15 (by omega) (by omega), e9, hup2 (by omega), e8, hup2 (by omega), e7, hup1]
    exact hk_0
theorem hq_res.bad {K V S : Nat → Int} {E : Nat → Nat → Bool} {x y : Int} {b t : Nat} {s : hq_S} (h : hq_q K V E t = some s) (hd : hq_dl K V E t s = .inr 0) (l : hmL S x y b s.2.2.2.2.2.2.2) (hx : 0 < x) : hq_res K V S E x y := by
  refine Or.inr ⟨t, s, h, hd, ?_⟩
  cases ho : s.2.2.2.2.2.2.2 with
  | none =>
    rw [ho] at l
    have l' : x = 0 := l
    omega
  | some c => rw [ho] at l; exact Or.inr ⟨c, rfl, l.1, l.2.1⟩
theorem hq_res.fine {K V S : Nat → Int} {E : Nat → Nat → Bool} {x y : Int} {b t : Nat} {s : hq_S} (h : hq_q K V E t = some s) (hd : hq_dl K V E t s = .inr 0) (l : hmL S x y b s.2.2.2.2.2.2.2) (hx : x ≤ 0) : hq_res K V S E 0 (-1) := by
  refine Or.inr ⟨t, s, h, hd, ?_⟩
  cases ho : s.2.2.2.2.2.2.2 with
  | none => exact Or.inl ⟨rfl, rfl, rfl⟩
  | some c => rw [ho] at l; exact absurd l.2.2.1 (by have := l.1; omega)
/-! TWO WORLDS OF ONE HEAP -/
section HVIS
variable {A A' : hs_A}
theorem hs_vis.f (h : hs_vis A A') {i k c : Nat} {ks : List Nat} (hs : hc_get hs_sh i = some (3, c, ks)) (hk : hc_nth ks k = some 0) : A'.1 i k = A.1 i k := by
  obtain ⟨hh, h1, h2⟩ := h
  have e := (h1 i _ hs).symm.trans (h2 i _ hs)
  rw [hs_cell3, hs_cell3] at e
  have e2 : hs_fs A i ks = hs_fs A' i ks := by injection e with e; injection e with e; injection e
  have a1 := hs_fs_at (A := A) (i := i) hk
  have a2 := hs_fs_at (A := A') (i := i) hk
  rw [e2, a2] at a1
  have a3 : Value.int (A'.1 i k) = Value.int (A.1 i k) := Option.some.inj a1
  injection a3
theorem hs_vis.a (h : hs_vis A A') {i t m j : Nat} (hs : hc_get hs_sh i = some (0, t, [m])) (hj : j < m) : A'.2.1 i j = A.2.1 i j := by
  obtain ⟨hh, h1, h2⟩ := h
  have e := (h1 i _ hs).symm.trans (h2 i _ hs)
  rw [hs_cell0, hs_cell0] at e
  have e2 : hs_ar A i m = hs_ar A' i m := by injection e with e; injection e with e; injection e
  have a1 := hs_ar_at (A := A) (i := i) hj
  have a2 := hs_ar_at (A := A') (i := i) hj
  rw [e2, a2] at a1
  have a3 : Value.int (A'.2.1 i j) = Value.int (A.2.1 i j) := Option.some.inj a1
  injection a3
theorem hs_vis.l (h : hs_vis A A') {i t m j : Nat} (hs : hc_get hs_sh i = some (1, t, [m])) (hj : j < m) : A'.2.2.1 i j = A.2.2.1 i j := by
  obtain ⟨hh, h1, h2⟩ := h
  have e := (h1 i _ hs).symm.trans (h2 i _ hs)
  rw [hs_cell1, hs_cell1] at e
  have e2 : hs_al A i m = hs_al A' i m := by injection e with e; injection e with e; injection e
  have a1 := hs_al_at (A := A) (i := i) hj
  have a2 := hs_al_at (A := A') (i := i) hj
  rw [e2, a2] at a1
  have a3 : Value.long (A'.2.2.1 i j) = Value.long (A.2.2.1 i j) := Option.some.inj a1
  injection a3
theorem hs_vis.U (h : hs_vis A A') (u : hcU A') : hcU A := fun q hq => by
  rw [← h.l (i := 374) (t := 2) (m := 20) (by rfl) hq]
  exact u q hq
end HVIS
theorem hY74q31 {d : Nat} {N : Int} {A : hs_A} (hA : hJ 0 N (N + 72) A A) (h3 : A.2.2.2 0 3 = 12) (h4 : A.2.2.2 0 4 = 3) (hp : hPg A 5)  {P : Option Value → hs_A → Prop} (hP : ∀ (r : Option Value) (A' : hs_A), (hJ 0 (N + 72) (N + 144) A' A' ∧ r = none ∧ (A'.1 0 1 = A.1 0 1 ∧ A'.1 367 2 = A.1 367 2 ∧ A'.1 0 2 = A.1 0 2 ∧ A'.2.2.1 = A.2.2.1 ∧ (∀ j, A'.2.1 368 j = A.2.1 368 j))) → P r A') : hxa (d + 1) none hm_t74 0 [.ref 1, .retAddr 0] [] A P := by
  obtain ⟨T0, hT0, -, eT0⟩ := hA.T
  refine hxa_aload_n (by rfl) rfl ?_
  refine hxj_getT (by rfl) (by rfl) (by rfl) h3 ?_
  refine hxa_astore_n (by rfl) rfl ?_
  refine hxa_aload_n (by rfl) rfl ?_
  refine hxa_aload_n (by rfl) rfl ?_
  refine hxj_getT (by rfl) (by rfl) (by rfl) h4 ?_
  refine hxa_putR (i := 0) (by rfl) (by rfl) (by rfl) (by rfl) ?_
  refine hxa_aload_n (by rfl) rfl ?_
  refine hxa_aload_n (by rfl) rfl ?_
  refine hxa_putR (i := 0) (by rfl) (by rfl) (by rfl) (by rfl) ?_
  have hsw := hJ.swap1 hA h3 h4 hp
  obtain ⟨W5, eW5⟩ : ∃ W : hs_A, W = (A.1, A.2.1, A.2.2.1, hs_upN (hs_upN A.2.2.2 0 3 3) 0 4 12) := ⟨_, rfl⟩
  rw [← eW5] at hsw
  have w03 : W5.2.2.2 0 3 = 3 := by rw [eW5]; simp [hs_upN]
  have w1 : W5.1 = A.1 := by rw [eW5]
  show hxa _ _ _ _ _ _ (A.1, A.2.1, A.2.2.1, hs_upN (hs_upN A.2.2.2 0 3 3) 0 4 12) _
  rw [← eW5]
  obtain ⟨T5, hT5, eT5⟩ : ∃ T, hTT T ∧ W5.2.2.2 0 3 = T + 1 := ⟨2, Or.inl rfl, w03⟩
  refine hxa_aload_n (by rfl) rfl ?_
  refine hxa_get (v := .ref 27) (by rfl) (by rfl) (by rfl) rfl ?_
  refine hxa_aload_n (by rfl) rfl ?_
  refine hxj_getT (by rfl) (by rfl) (by rfl) eT5 ?_
  refine hxa_call0 (by rfl) (by rfl) (by rfl) (by rfl) (by rfl) (by rfl) (hX16 (d := d + 0) hsw hL26 hT5 eT5) ?_
  rintro _ A1 ⟨hA1, rfl⟩
  refine hxa_aload_n (by rfl) rfl ?_
  refine hxa_get (v := .ref 41) (by rfl) (by rfl) (by rfl) rfl ?_
  refine hxa_iconst (by rfl) rfl ?_
  refine hxj_putI (by rfl) (by rfl) (by rfl) (by rfl) hA1 (hbok (by rfl) hk_0 (by omega) (by omega)) (by rfl) (by rfl) (fun A2 hA2 eA2 fA2 => ?_)
  refine hxa_aload_n (by rfl) rfl ?_
  refine hxa_get (v := .ref 341) (by rfl) (by rfl) (by rfl) rfl ?_
  refine hxa_iconst (by rfl) rfl ?_
  refine hxj_putI (by rfl) (by rfl) (by rfl) (by rfl) hA2 (hbok (by rfl) hk_0 (by omega) (by omega)) (by rfl) (by rfl) (fun A3 hA3 eA3 fA3 => ?_)
  refine hxa_aload_n (by rfl) rfl ?_
  refine hxa_iconst (by rfl) rfl ?_
  refine hxj_putI (by rfl) (by rfl) (by rfl) (by rfl) hA3 (hbokN (by rfl)) (by rfl) (by rfl) (fun A4 hA4 eA4 fA4 => ?_)
  refine hxa_aload_n (by rfl) rfl ?_
  refine hxa_get (v := .ref 329) (by rfl) (by rfl) (by rfl) rfl ?_
  refine hxa_iconst (by rfl) rfl ?_
  refine hxj_putI (by rfl) (by rfl) (by rfl) (by rfl) hA4 (hbok (by rfl) hk_0 (by omega) (by omega)) (by rfl) (by rfl) (fun A5 hA5 eA5 fA5 => ?_)
  exact hxa_return (by rfl) rfl (hP _ _ ⟨(hJ.mono (hJ.self hA5) (by omega) (by omega)), rfl, ⟨(hA5.2.2.1.1 0 1 (by rfl)).trans (congrFun (congrFun w1 0) 1), (hA5.2.2.1.1 367 2 (by rfl)).trans (congrFun (congrFun w1 367) 2), (hA5.2.2.1.1 0 2 (by rfl)).trans (congrFun (congrFun w1 0) 2), (hA5.2.2.1.2.2.1 rfl).trans (by rw [eW5]), fun j => (hA5.2.2.1.2.1 368 (by rfl) j).trans (by rw [eW5])⟩⟩)
theorem hX74q31 {d : Nat} {N : Int} {A : hs_A} (hA : hJ 0 N (N + 72) A A) (h3 : A.2.2.2 0 3 = 12) (h4 : A.2.2.2 0 4 = 3) (hp : hPg A 5)  : hxC (d + 2) 74 hm_m74 [.ref 1] A (fun r A' => hJ 0 (N + 72) (N + 144) A' A' ∧ r = none ∧ (A'.1 0 1 = A.1 0 1 ∧ A'.1 367 2 = A.1 367 2 ∧ A'.1 0 2 = A.1 0 2 ∧ A'.2.2.1 = A.2.2.1 ∧ (∀ j, A'.2.1 368 j = A.2.1 368 j))) := hxC.of (by rfl) (hY74q31 hA h3 h4 hp (fun r A' h => h))
theorem hY73q31 {d : Nat} {N : Int} {A : hs_A} (hA : hJ 0 N (N + 72) A A) (h3 : A.2.2.2 0 3 = 12) (h4 : A.2.2.2 0 4 = 3) {B : Nat → Int} {n : Nat} (hTp : hcTp B n A) (h1 : (A.1 0 1).toInt = (n : Int)) (hBr : ∀ i, i < n → -128 ≤ B i ∧ B i ≤ 127) (hU : hcU A)  {P : Option Value → hs_A → Prop} (hP : ∀ (r : Option Value) (A' : hs_A), (hJ 0 (N + 72) (N + 144) A' A' ∧ ∃ z : Int32, r = some (.int z) ∧ ((A'.1 0 1).toInt = 0 ∧ A'.1 367 2 = A.1 367 2 ∧ hq_res (ht_K B n) (ht_W B n) (fun u => (ht_S B n u : Int)) (ht_E B n) z.toInt (A'.1 0 2).toInt ∧ hcU A' ∧ (∀ j, A'.2.1 368 j = A.2.1 368 j))) → P r A') : hxa (d + 25) (some (.int)) hm_t73 0 [.ref 1, .retAddr 0] [] A P := by
  refine hxa_aload_n (by rfl) rfl ?_
  refine hxa_get (v := .ref 21) (by rfl) (by rfl) (by rfl) rfl ?_
  refine hxa_aload_n (by rfl) rfl ?_
  refine hxj_getT (by rfl) (by rfl) (by rfl) h4 ?_
  refine hxa_aload_n (by rfl) rfl ?_
  refine hxa_get (v := .ref 2) (by rfl) (by rfl) (by rfl) rfl ?_
  refine hxa_aload_n (by rfl) rfl ?_
  refine hxj_getB (by rfl) (by rfl) (by rfl) hA (by rfl) (fun z1 ez1 fz1 gz1 => ?_)
  have h1z : z1.toInt = (n : Int) := by rw [← ez1]; exact h1
  refine hxa_call0 (by rfl) (by rfl) (by rfl) (by rfl) (by rfl) (by rfl) (hxC.and (g := 0) (hX37q1 (d := d + 0) hA z1 (by omega) (by omega)) (fun g => hP37 (T := 2) (Or.inl rfl) z1 hTp h1z (by omega) (fun i hi => (hBr i hi).2) hU)) ?_
  rintro _ A2 ⟨⟨hA2, z3, rfl, fz3⟩, A2v, hvis, z3v, ez3v, RS, hU2⟩
  have ezz : z3v = z3 := by injection ez3v with e; injection e with e; exact e.symm
  rw [ezz] at RS
  have RS2 : hq_res (ht_K B n) (ht_W B n) (fun u => (ht_S B n u : Int)) (ht_E B n) z3.toInt (A2.1 20 6).toInt := by rw [← hvis.f (i := 20) (k := 6) (by rfl) (by rfl)]; exact RS
  have hU3 : hcU A2 := hvis.U hU2
  have hen := hJ.end1 hA2 h3 h4
  have h10 := hJ.to10 hen.1
  refine hxa_s1 (by rfl) (Or.inl ⟨_, rfl, rfl⟩) rfl ?_
  refine hxa_aload_n (by rfl) rfl ?_
  refine hxa_iconst (by rfl) rfl ?_
  refine hxj_putI (by rfl) (by rfl) (by rfl) (by rfl) h10 (hbok (by rfl) hk_0 (by omega) (by omega)) (by rfl) (by rfl) (fun A4 hA4 eA4 fA4 => ?_)
  refine hxa_aload_n (by rfl) rfl ?_
  refine hxa_aload_n (by rfl) rfl ?_
  refine hxa_get (v := .ref 21) (by rfl) (by rfl) (by rfl) rfl ?_
  refine hxj_getI (by rfl) (by rfl) (by rfl) (fun z5 ez5 => ?_)
  refine hxj_putI (by rfl) (by rfl) (by rfl) (by rfl) hA4 (hbokN (by rfl)) (by rfl) (by rfl) (fun A6 hA6 eA6 fA6 => ?_)
  refine hxa_iload_n (by rfl) rfl ?_
  refine hxj_zne (by rfl) rfl (fun q7 => ?_) (fun q7 => ?_)
  ·
    refine hxa_iload_n (by rfl) rfl ?_
    have he := hJ.end10 hA6
    exact hxa_ireturn (by rfl) rfl (hP _ _ ⟨(hJ.mono he.1 (by omega) (by omega)), _, rfl, ⟨by rw [(show A6.1 0 1 = (Int32.ofNat 0) from (hkF eA6 (by omega) (hkS eA4)))]; decide, Eq.trans (hkF eA6 (by omega) (hkF eA4 (by omega) rfl)) hen.2.2.2, by rw [show A6.1 0 2 = z5 from hkS eA6, ← ez5, hkF eA4 (by omega) rfl]; exact RS2, hU3.fr (by rw [fA6, fA4]), fun j => by rw [fA6, fA4]; exact hA2.2.2.1.2.1 368 (by rfl) j⟩⟩)
  ·
    refine hxa_aload_n (by rfl) rfl ?_
    have he := hJ.end10 hA6
    have hpg : hPg A6 5 := fun j hj => by rw [hA6.2.2.1.2.1 5 (by rfl) j]; exact (fz3 (by omega)) j hj
    refine hxa_call0 (by rfl) (by rfl) (by rfl) (by rfl) (by rfl) (by rfl) (hX74q31 (d := d + 23) he.1 (he.2.1.trans hen.2.1) (he.2.2.trans hen.2.2.1) hpg) ?_
    rintro _ A8 ⟨hA8, rfl, fA8⟩
    refine hxa_iload_n (by rfl) rfl ?_
    exact hxa_ireturn (by rfl) rfl (hP _ _ ⟨(hJ.mono hA8 (by omega) (by omega)), _, rfl, ⟨by rw [(show A8.1 0 1 = (Int32.ofNat 0) from ((fA8.1).trans (hkF eA6 (by omega) (hkS eA4))))]; decide, ((fA8.2.1).trans (Eq.trans (hkF eA6 (by omega) (hkF eA4 (by omega) rfl)) hen.2.2.2)), by rw [fA8.2.2.1]; rw [show A6.1 0 2 = z5 from hkS eA6, ← ez5, hkF eA4 (by omega) rfl]; exact RS2, hU3.fr (by rw [fA8.2.2.2.1, fA6, fA4]), fun j => by rw [fA8.2.2.2.2 j, fA6, fA4]; exact hA2.2.2.1.2.1 368 (by rfl) j⟩⟩)
theorem hX73q31 {d : Nat} {N : Int} {A : hs_A} (hA : hJ 0 N (N + 72) A A) (h3 : A.2.2.2 0 3 = 12) (h4 : A.2.2.2 0 4 = 3) {B : Nat → Int} {n : Nat} (hTp : hcTp B n A) (h1 : (A.1 0 1).toInt = (n : Int)) (hBr : ∀ i, i < n → -128 ≤ B i ∧ B i ≤ 127) (hU : hcU A)  : hxC (d + 26) 73 hm_m73 [.ref 1] A (fun r A' => hJ 0 (N + 72) (N + 144) A' A' ∧ ∃ z : Int32, r = some (.int z) ∧ ((A'.1 0 1).toInt = 0 ∧ A'.1 367 2 = A.1 367 2 ∧ hq_res (ht_K B n) (ht_W B n) (fun u => (ht_S B n u : Int)) (ht_E B n) z.toInt (A'.1 0 2).toInt ∧ hcU A' ∧ (∀ j, A'.2.1 368 j = A.2.1 368 j))) := hxC.of (by rfl) (hY73q31 hA h3 h4 hTp h1 hBr hU (fun r A' h => h))
theorem hY74q32 {d : Nat} {N : Int} {A : hs_A} (hA : hJ 0 N (N + 72) A A) (h3 : A.2.2.2 0 3 = 3) (h4 : A.2.2.2 0 4 = 12) (hp : hPg A 14)  {P : Option Value → hs_A → Prop} (hP : ∀ (r : Option Value) (A' : hs_A), (hJ 0 (N + 72) (N + 144) A' A' ∧ r = none ∧ (A'.1 0 1 = A.1 0 1 ∧ A'.1 367 2 = A.1 367 2 ∧ A'.1 0 2 = A.1 0 2 ∧ A'.2.2.1 = A.2.2.1 ∧ (∀ j, A'.2.1 368 j = A.2.1 368 j))) → P r A') : hxa (d + 1) none hm_t74 0 [.ref 1, .retAddr 0] [] A P := by
  obtain ⟨T0, hT0, -, eT0⟩ := hA.T
  refine hxa_aload_n (by rfl) rfl ?_
  refine hxj_getT (by rfl) (by rfl) (by rfl) h3 ?_
  refine hxa_astore_n (by rfl) rfl ?_
  refine hxa_aload_n (by rfl) rfl ?_
  refine hxa_aload_n (by rfl) rfl ?_
  refine hxj_getT (by rfl) (by rfl) (by rfl) h4 ?_
  refine hxa_putR (i := 0) (by rfl) (by rfl) (by rfl) (by rfl) ?_
  refine hxa_aload_n (by rfl) rfl ?_
  refine hxa_aload_n (by rfl) rfl ?_
  refine hxa_putR (i := 0) (by rfl) (by rfl) (by rfl) (by rfl) ?_
  have hsw := hJ.swap2 hA h3 h4 hp
  obtain ⟨W5, eW5⟩ : ∃ W : hs_A, W = (A.1, A.2.1, A.2.2.1, hs_upN (hs_upN A.2.2.2 0 3 12) 0 4 3) := ⟨_, rfl⟩
  rw [← eW5] at hsw
  have w03 : W5.2.2.2 0 3 = 12 := by rw [eW5]; simp [hs_upN]
  have w1 : W5.1 = A.1 := by rw [eW5]
  show hxa _ _ _ _ _ _ (A.1, A.2.1, A.2.2.1, hs_upN (hs_upN A.2.2.2 0 3 12) 0 4 3) _
  rw [← eW5]
  obtain ⟨T5, hT5, eT5⟩ : ∃ T, hTT T ∧ W5.2.2.2 0 3 = T + 1 := ⟨11, Or.inr rfl, w03⟩
  refine hxa_aload_n (by rfl) rfl ?_
  refine hxa_get (v := .ref 27) (by rfl) (by rfl) (by rfl) rfl ?_
  refine hxa_aload_n (by rfl) rfl ?_
  refine hxj_getT (by rfl) (by rfl) (by rfl) eT5 ?_
  refine hxa_call0 (by rfl) (by rfl) (by rfl) (by rfl) (by rfl) (by rfl) (hX16 (d := d + 0) hsw hL26 hT5 eT5) ?_
  rintro _ A1 ⟨hA1, rfl⟩
  refine hxa_aload_n (by rfl) rfl ?_
  refine hxa_get (v := .ref 41) (by rfl) (by rfl) (by rfl) rfl ?_
  refine hxa_iconst (by rfl) rfl ?_
  refine hxj_putI (by rfl) (by rfl) (by rfl) (by rfl) hA1 (hbok (by rfl) hk_0 (by omega) (by omega)) (by rfl) (by rfl) (fun A2 hA2 eA2 fA2 => ?_)
  refine hxa_aload_n (by rfl) rfl ?_
  refine hxa_get (v := .ref 341) (by rfl) (by rfl) (by rfl) rfl ?_
  refine hxa_iconst (by rfl) rfl ?_
  refine hxj_putI (by rfl) (by rfl) (by rfl) (by rfl) hA2 (hbok (by rfl) hk_0 (by omega) (by omega)) (by rfl) (by rfl) (fun A3 hA3 eA3 fA3 => ?_)
  refine hxa_aload_n (by rfl) rfl ?_
  refine hxa_iconst (by rfl) rfl ?_
  refine hxj_putI (by rfl) (by rfl) (by rfl) (by rfl) hA3 (hbokN (by rfl)) (by rfl) (by rfl) (fun A4 hA4 eA4 fA4 => ?_)
  refine hxa_aload_n (by rfl) rfl ?_
  refine hxa_get (v := .ref 329) (by rfl) (by rfl) (by rfl) rfl ?_
  refine hxa_iconst (by rfl) rfl ?_
  refine hxj_putI (by rfl) (by rfl) (by rfl) (by rfl) hA4 (hbok (by rfl) hk_0 (by omega) (by omega)) (by rfl) (by rfl) (fun A5 hA5 eA5 fA5 => ?_)
  exact hxa_return (by rfl) rfl (hP _ _ ⟨(hJ.mono (hJ.self hA5) (by omega) (by omega)), rfl, ⟨(hA5.2.2.1.1 0 1 (by rfl)).trans (congrFun (congrFun w1 0) 1), (hA5.2.2.1.1 367 2 (by rfl)).trans (congrFun (congrFun w1 367) 2), (hA5.2.2.1.1 0 2 (by rfl)).trans (congrFun (congrFun w1 0) 2), (hA5.2.2.1.2.2.1 rfl).trans (by rw [eW5]), fun j => (hA5.2.2.1.2.1 368 (by rfl) j).trans (by rw [eW5])⟩⟩)
theorem hX74q32 {d : Nat} {N : Int} {A : hs_A} (hA : hJ 0 N (N + 72) A A) (h3 : A.2.2.2 0 3 = 3) (h4 : A.2.2.2 0 4 = 12) (hp : hPg A 14)  : hxC (d + 2) 74 hm_m74 [.ref 1] A (fun r A' => hJ 0 (N + 72) (N + 144) A' A' ∧ r = none ∧ (A'.1 0 1 = A.1 0 1 ∧ A'.1 367 2 = A.1 367 2 ∧ A'.1 0 2 = A.1 0 2 ∧ A'.2.2.1 = A.2.2.1 ∧ (∀ j, A'.2.1 368 j = A.2.1 368 j))) := hxC.of (by rfl) (hY74q32 hA h3 h4 hp (fun r A' h => h))
theorem hY73q32 {d : Nat} {N : Int} {A : hs_A} (hA : hJ 0 N (N + 72) A A) (h3 : A.2.2.2 0 3 = 3) (h4 : A.2.2.2 0 4 = 12) {B : Nat → Int} {n : Nat} (hTp : hcTp B n A) (h1 : (A.1 0 1).toInt = (n : Int)) (hBr : ∀ i, i < n → -128 ≤ B i ∧ B i ≤ 127) (hU : hcU A)  {P : Option Value → hs_A → Prop} (hP : ∀ (r : Option Value) (A' : hs_A), (hJ 0 (N + 72) (N + 144) A' A' ∧ ∃ z : Int32, r = some (.int z) ∧ ((A'.1 0 1).toInt = 0 ∧ A'.1 367 2 = A.1 367 2 ∧ hq_res (ht_K B n) (ht_W B n) (fun u => (ht_S B n u : Int)) (ht_E B n) z.toInt (A'.1 0 2).toInt ∧ hcU A' ∧ (∀ j, A'.2.1 368 j = A.2.1 368 j))) → P r A') : hxa (d + 25) (some (.int)) hm_t73 0 [.ref 1, .retAddr 0] [] A P := by
  refine hxa_aload_n (by rfl) rfl ?_
  refine hxa_get (v := .ref 21) (by rfl) (by rfl) (by rfl) rfl ?_
  refine hxa_aload_n (by rfl) rfl ?_
  refine hxj_getT (by rfl) (by rfl) (by rfl) h4 ?_
  refine hxa_aload_n (by rfl) rfl ?_
  refine hxa_get (v := .ref 2) (by rfl) (by rfl) (by rfl) rfl ?_
  refine hxa_aload_n (by rfl) rfl ?_
  refine hxj_getB (by rfl) (by rfl) (by rfl) hA (by rfl) (fun z1 ez1 fz1 gz1 => ?_)
  have h1z : z1.toInt = (n : Int) := by rw [← ez1]; exact h1
  refine hxa_call0 (by rfl) (by rfl) (by rfl) (by rfl) (by rfl) (by rfl) (hxC.and (g := 0) (hX37q2 (d := d + 0) hA z1 (by omega) (by omega)) (fun g => hP37 (T := 11) (Or.inr rfl) z1 hTp h1z (by omega) (fun i hi => (hBr i hi).2) hU)) ?_
  rintro _ A2 ⟨⟨hA2, z3, rfl, fz3⟩, A2v, hvis, z3v, ez3v, RS, hU2⟩
  have ezz : z3v = z3 := by injection ez3v with e; injection e with e; exact e.symm
  rw [ezz] at RS
  have RS2 : hq_res (ht_K B n) (ht_W B n) (fun u => (ht_S B n u : Int)) (ht_E B n) z3.toInt (A2.1 20 6).toInt := by rw [← hvis.f (i := 20) (k := 6) (by rfl) (by rfl)]; exact RS
  have hU3 : hcU A2 := hvis.U hU2
  have hen := hJ.end2 hA2 h3 h4
  have h10 := hJ.to10 hen.1
  refine hxa_s1 (by rfl) (Or.inl ⟨_, rfl, rfl⟩) rfl ?_
  refine hxa_aload_n (by rfl) rfl ?_
  refine hxa_iconst (by rfl) rfl ?_
  refine hxj_putI (by rfl) (by rfl) (by rfl) (by rfl) h10 (hbok (by rfl) hk_0 (by omega) (by omega)) (by rfl) (by rfl) (fun A4 hA4 eA4 fA4 => ?_)
  refine hxa_aload_n (by rfl) rfl ?_
  refine hxa_aload_n (by rfl) rfl ?_
  refine hxa_get (v := .ref 21) (by rfl) (by rfl) (by rfl) rfl ?_
  refine hxj_getI (by rfl) (by rfl) (by rfl) (fun z5 ez5 => ?_)
  refine hxj_putI (by rfl) (by rfl) (by rfl) (by rfl) hA4 (hbokN (by rfl)) (by rfl) (by rfl) (fun A6 hA6 eA6 fA6 => ?_)
  refine hxa_iload_n (by rfl) rfl ?_
  refine hxj_zne (by rfl) rfl (fun q7 => ?_) (fun q7 => ?_)
  ·
    refine hxa_iload_n (by rfl) rfl ?_
    have he := hJ.end10 hA6
    exact hxa_ireturn (by rfl) rfl (hP _ _ ⟨(hJ.mono he.1 (by omega) (by omega)), _, rfl, ⟨by rw [(show A6.1 0 1 = (Int32.ofNat 0) from (hkF eA6 (by omega) (hkS eA4)))]; decide, Eq.trans (hkF eA6 (by omega) (hkF eA4 (by omega) rfl)) hen.2.2.2, by rw [show A6.1 0 2 = z5 from hkS eA6, ← ez5, hkF eA4 (by omega) rfl]; exact RS2, hU3.fr (by rw [fA6, fA4]), fun j => by rw [fA6, fA4]; exact hA2.2.2.1.2.1 368 (by rfl) j⟩⟩)
  ·
    refine hxa_aload_n (by rfl) rfl ?_
    have he := hJ.end10 hA6
    have hpg : hPg A6 14 := fun j hj => by rw [hA6.2.2.1.2.1 14 (by rfl) j]; exact (fz3 (by omega)) j hj
    refine hxa_call0 (by rfl) (by rfl) (by rfl) (by rfl) (by rfl) (by rfl) (hX74q32 (d := d + 23) he.1 (he.2.1.trans hen.2.1) (he.2.2.trans hen.2.2.1) hpg) ?_
    rintro _ A8 ⟨hA8, rfl, fA8⟩
    refine hxa_iload_n (by rfl) rfl ?_
    exact hxa_ireturn (by rfl) rfl (hP _ _ ⟨(hJ.mono hA8 (by omega) (by omega)), _, rfl, ⟨by rw [(show A8.1 0 1 = (Int32.ofNat 0) from ((fA8.1).trans (hkF eA6 (by omega) (hkS eA4))))]; decide, ((fA8.2.1).trans (Eq.trans (hkF eA6 (by omega) (hkF eA4 (by omega) rfl)) hen.2.2.2)), by rw [fA8.2.2.1]; rw [show A6.1 0 2 = z5 from hkS eA6, ← ez5, hkF eA4 (by omega) rfl]; exact RS2, hU3.fr (by rw [fA8.2.2.2.1, fA6, fA4]), fun j => by rw [fA8.2.2.2.2 j, fA6, fA4]; exact hA2.2.2.1.2.1 368 (by rfl) j⟩⟩)
theorem hX73q32 {d : Nat} {N : Int} {A : hs_A} (hA : hJ 0 N (N + 72) A A) (h3 : A.2.2.2 0 3 = 3) (h4 : A.2.2.2 0 4 = 12) {B : Nat → Int} {n : Nat} (hTp : hcTp B n A) (h1 : (A.1 0 1).toInt = (n : Int)) (hBr : ∀ i, i < n → -128 ≤ B i ∧ B i ≤ 127) (hU : hcU A)  : hxC (d + 26) 73 hm_m73 [.ref 1] A (fun r A' => hJ 0 (N + 72) (N + 144) A' A' ∧ ∃ z : Int32, r = some (.int z) ∧ ((A'.1 0 1).toInt = 0 ∧ A'.1 367 2 = A.1 367 2 ∧ hq_res (ht_K B n) (ht_W B n) (fun u => (ht_S B n u : Int)) (ht_E B n) z.toInt (A'.1 0 2).toInt ∧ hcU A' ∧ (∀ j, A'.2.1 368 j = A.2.1 368 j))) := hxC.of (by rfl) (hY73q32 hA h3 h4 hTp h1 hBr hU (fun r A' h => h))
/-! WHAT feed WRITES -/
def hvb (w : Int32) (q : Nat) : Int32 := (w >>> (Int32.ofNat (24 - 8 * q) &&& 31)).toInt8.toInt32
theorem hvb_rng (x : Int8) : -128 ≤ x.toInt32.toInt ∧ x.toInt32.toInt ≤ 127 := by
  rw [Int8.toInt_toInt32]
  have h1 := Int8.le_toInt x
  have h2 := Int8.toInt_lt x
  omega
theorem hvb8 (x : Int8) : x.toInt32.toInt8.toInt32 = x.toInt32 := hi8 (hvb_rng x).1 (hvb_rng x).2
theorem hvbx {x : Int32} {q : Nat} (h : x.toInt = 24 - 8 * (q : Int)) (hq : q ≤ 3) : x = Int32.ofNat (24 - 8 * q) := by
  apply Int32.toInt_inj.mp
  rw [hn_c (n := 24 - 8 * q) rfl (by omega)]
  omega
theorem hvb_u (w : Int32) {q : Nat} (hq : q ≤ 3) : ((w.toUInt32 >>> ((Int32.ofNat (24 - 8 * q)).toUInt32 &&& Int32.toUInt32 31)).toInt32).toInt8 = (w >>> (Int32.ofNat (24 - 8 * q) &&& 31)).toInt8 := by
  have hc : q = 0 ∨ q = 1 ∨ q = 2 ∨ q = 3 := by omega
  apply Int8.toBitVec_inj.mp
  rcases hc with rfl | rfl | rfl | rfl
  · show ((w.toBitVec >>> (24 : Nat)).signExtend 8 : BitVec 8) = ((w.toBitVec.sshiftRight 24).signExtend 8 : BitVec 8)
    apply BitVec.eq_of_getLsbD_eq
    intro i hi
    rw [BitVec.getLsbD_signExtend, BitVec.getLsbD_signExtend]
    have : i < 32 := by omega
    have h2 : 24 + i < 32 := by omega
    have h3 : ¬ 32 ≤ i := by omega
    simp [this, h2, h3, hi, BitVec.getLsbD_sshiftRight, BitVec.getElem_sshiftRight]
  · show ((w.toBitVec >>> (16 : Nat)).signExtend 8 : BitVec 8) = ((w.toBitVec.sshiftRight 16).signExtend 8 : BitVec 8)
    apply BitVec.eq_of_getLsbD_eq
    intro i hi
    rw [BitVec.getLsbD_signExtend, BitVec.getLsbD_signExtend]
    have : i < 32 := by omega
    have h2 : 16 + i < 32 := by omega
    have h3 : ¬ 32 ≤ i := by omega
    simp [this, h2, h3, hi, BitVec.getLsbD_sshiftRight, BitVec.getElem_sshiftRight]
  · show ((w.toBitVec >>> (8 : Nat)).signExtend 8 : BitVec 8) = ((w.toBitVec.sshiftRight 8).signExtend 8 : BitVec 8)
    apply BitVec.eq_of_getLsbD_eq
    intro i hi
    rw [BitVec.getLsbD_signExtend, BitVec.getLsbD_signExtend]
    have : i < 32 := by omega
    have h2 : 8 + i < 32 := by omega
    have h3 : ¬ 32 ≤ i := by omega
    simp [this, h2, h3, hi, BitVec.getLsbD_sshiftRight, BitVec.getElem_sshiftRight]
  · show ((w.toBitVec >>> (0 : Nat)).signExtend 8 : BitVec 8) = ((w.toBitVec.sshiftRight 0).signExtend 8 : BitVec 8)
    apply BitVec.eq_of_getLsbD_eq
    intro i hi
    rw [BitVec.getLsbD_signExtend, BitVec.getLsbD_signExtend]
    have : i < 32 := by omega
    simp [this, BitVec.getLsbD_sshiftRight]
def hfw (f : Nat → Int32) (len : Nat) (w : Int32) (q : Nat) : Nat → Int32 := fun i => if len ≤ i ∧ i < len + q then hvb w (i - len) else f i
theorem hfw_0 {f : Nat → Int32} {len : Nat} {w : Int32} : f = hfw f len w 0 := by
  funext i
  unfold hfw
  rw [if_neg (by omega)]
theorem hfw_s {f : Nat → Int32} {g g' : Nat → Nat → Int32} {len c j q : Nat} {w x : Int32} (h : g c = hfw f len w q) (hg : g' = hs_up g c j x) (hj : j = len + q) (hx : x = hvb w q) : g' c = hfw f len w (q + 1) := by
  funext i
  rw [hg]
  unfold hfw
  by_cases e : i = j
  · subst e
    rw [hup1, if_pos (by omega), hx, show i - len = q by omega]
  · rw [hup2 (fun w => e w.2), h]
    unfold hfw
    by_cases k : len ≤ i ∧ i < len + q
    · rw [if_pos k, if_pos (by omega)]
    · rw [if_neg k, if_neg (by omega)]
def hf5 (f : Nat → Int32) (len : Nat) (a b c d e : Int32) : Nat → Int32 := if len ≤ 1980 then hfw (hfw (hfw (hfw (hfw f len a 4) (len + 4) b 4) (len + 8) c 4) (len + 12) d 4) (len + 16) e 4 else f
theorem hW71 {g d f : Nat} {A : hs_A} {len : Nat} (a1 : Int32) (h : (A.1 0 1).toInt = (len : Int)) (hl : len + 4 ≤ 2000) {P : Option Value → hs_A → Prop} (hP : ∀ (r : Option Value) (A' : hs_A), (r = none ∧ ((A'.1 0 1).toInt = (len : Int) + 4 ∧ A'.2.1 1 = hfw (A.2.1 1) len a1 4 ∧ (∀ i, ¬ i = 1 → A'.2.1 i = A.2.1 i) ∧ A'.2.2 = A.2.2 ∧ (∀ i k, ¬ (i = 0 ∧ k = 1) → A'.1 i k = A.1 i k))) → P r A') : hpa (f, g) d none hm_t71 0 [.ref 1, .int a1, .retAddr 0] [] A P := by
  have k1 := hk_1
  have k2000 := hk_2000
  have k24 := hk_24
  have k4294967288 := hk_4294967288
  have L3 : ∀ (f : Nat) (x3_2 : Int32) (A3 : hs_A) (q : Nat) (lq : x3_2.toInt = 24 - 8 * (q : Int)) (q4 : q ≤ 4) (ln : (A3.1 0 1).toInt = (len : Int) + q) (tp : A3.2.1 1 = hfw (A.2.1 1) len a1 q) (ta : ∀ i, ¬ i = 1 → A3.2.1 i = A.2.1 i) (tl : A3.2.2 = A.2.2) (fe : ∀ i k, ¬ (i = 0 ∧ k = 1) → A3.1 i k = A.1 i k), hpa (f, g) d none hm_t71 3 [.ref 1, .int a1, .int x3_2] [] A3 P := by
    intro f
    induction f with
    | zero => intros; exact hpa.zero
    | succ f ih3 =>
      intro x3_2 A3 q lq q4 ln tp ta tl fe
      refine hpa_iload_nS (by rfl) rfl ?_
      refine hpj_zlt (by rfl) rfl (fun q101 => ?_) (fun q101 => ?_)
      ·
        obtain rfl : q = 4 := by omega
        exact hpa_return (by rfl) rfl (hP _ _ ⟨rfl, by omega, tp, ta, tl, fe⟩)
      ·
        refine hpa_aload_n (by rfl) rfl ?_
        refine hpj_getK (by rfl) (by rfl) (by rfl) rfl ?_
        refine hpa_sipush (by rfl) rfl ?_
        refine hpj_cge (by rfl) rfl hk_2000 (fun q102 => False.elim (by omega)) (fun q102 => ?_)
        refine hpa_aload_n (by rfl) rfl ?_
        refine hpa_get (v := .ref 2) (by rfl) (by rfl) (by rfl) rfl ?_
        refine hpa_aload_n (by rfl) rfl ?_
        refine hpj_getK (by rfl) (by rfl) (by rfl) rfl ?_
        refine hpa_iload_n (by rfl) rfl ?_
        refine hpa_iload_n (by rfl) rfl ?_
        refine hpa_iushr (by rfl) ?_
        refine hpa_i2b (by rfl) ?_
        refine hpx_bast (by rfl) (by rfl) (fun A103 h0A103 h1A103 eA103 fA103 gA103 => ?_)
        have hcn := hn_cn (j := (A3.1 0 1)) (by omega)
        have hx3 := hvbx (q := q) lq (by omega)
        have tp1 : A103.2.1 1 = hfw (A.2.1 1) len a1 (q + 1) := hfw_s tp fA103 (by omega) (by rw [hvb8, hx3, hvb_u a1 (by omega)]; rfl)
        have ta2 : ∀ i, ¬ i = 1 → A103.2.1 i = A.2.1 i := fun i hi => by rw [fA103, ← ta i hi]; funext b; exact hup2 (fun w => hi w.1)
        refine hpa_aload_n (by rfl) rfl ?_
        refine hpa_dupR (by rfl) ?_
        refine hpj_getK (by rfl) (by rfl) (by rfl) (hkA eA103 rfl) ?_
        refine hpa_iconst (by rfl) rfl ?_
        refine hpj_iadd (by rfl) rfl hk_1 (by omega) (by omega) (fun z104 ez104 => ?_)
        refine hpj_putI (by rfl) (by rfl) (by rfl) (by rfl) (fun A105 eA105 fA105 => ?_)
        have tp2 : A105.2.1 1 = hfw (A.2.1 1) len a1 (q + 1) := by rw [fA105]; exact tp1
        refine hpj_iinc (by rfl) rfl rfl hk_4294967288 (by omega) (by omega) (fun _ => rfl) (fun z106 ez106 => ?_)
        refine hpa_goto (by rfl) ?_
        exact ih3 z106 A105 (q + 1) (by omega) (by omega) (by rw [eA105, hup1]; omega) tp2 (fun i hi => by rw [fA105]; exact ta2 i hi) (by rw [fA105, gA103]; exact tl) (fun i k hi => by rw [eA105, hup2 hi, eA103]; exact fe i k hi)
  refine hpa_bipush (by rfl) rfl ?_
  refine hpa_s1 (by rfl) (Or.inl ⟨_, rfl, rfl⟩) rfl ?_
  exact L3 _ (Int32.ofNat 24) A 0 hk_24 (by omega) (by omega) hfw_0 (fun _ _ => rfl) rfl (fun _ _ _ => rfl)
theorem hP71 {g d : Nat} {A : hs_A} {len : Nat} (a1 : Int32) (h : (A.1 0 1).toInt = (len : Int)) (hl : len + 4 ≤ 2000) : hpC g d 71 hm_m71 [.ref 1, .int a1] A (fun r A' => r = none ∧ ((A'.1 0 1).toInt = (len : Int) + 4 ∧ A'.2.1 1 = hfw (A.2.1 1) len a1 4 ∧ (∀ i, ¬ i = 1 → A'.2.1 i = A.2.1 i) ∧ A'.2.2 = A.2.2 ∧ (∀ i k, ¬ (i = 0 ∧ k = 1) → A'.1 i k = A.1 i k))) := hpC.all (fun f d => hW71 a1 h hl (fun r A' h => h))
theorem hW70 {g d f : Nat} {A : hs_A} {len : Nat} (a1 a2 a3 a4 a5 : Int32) (h : (A.1 0 1).toInt = (len : Int)) (hl : len ≤ 2000) {P : Option Value → hs_A → Prop} (hP : ∀ (r : Option Value) (A' : hs_A), (∃ z : Int32, r = some (.int z) ∧ A'.2.1 1 = hf5 (A.2.1 1) len a1 a2 a3 a4 a5 ∧ (∀ i, ¬ i = 1 → A'.2.1 i = A.2.1 i) ∧ A'.2.2 = A.2.2 ∧ (∀ i k, ¬ (i = 0 ∧ k = 1) → A'.1 i k = A.1 i k)) → P r A') : hpa (f, g) d (some (.int)) hm_t70 0 [.ref 1, .int a1, .int a2, .int a3, .int a4, .int a5] [] A P := by
  have k1980 := hk_1980
  have k4294967295 := hk_4294967295
  refine hpa_aload_n (by rfl) rfl ?_
  refine hpj_getK (by rfl) (by rfl) (by rfl) rfl ?_
  refine hpa_sipush (by rfl) rfl ?_
  refine hpj_cle (by rfl) rfl hk_1980 (fun q101 => ?_) (fun q101 => ?_)
  ·
    refine hpa_aload_n (by rfl) rfl ?_
    refine hpa_iload_n (by rfl) rfl ?_
    refine hpa_call0 (by rfl) (by rfl) (by rfl) (by rfl) (by rfl) (by rfl) (hP71 a1 (show _ = (len : Int) by omega) (by omega)) ?_
    rintro _ A102 ⟨rfl, ln_A102, tp_A102, ta_A102, tl_A102, fe_A102⟩
    refine hpa_aload_n (by rfl) rfl ?_
    refine hpa_iload_n (by rfl) rfl ?_
    refine hpa_call0 (by rfl) (by rfl) (by rfl) (by rfl) (by rfl) (by rfl) (hP71 a2 (show _ = ((len + 4 : Nat) : Int) by omega) (by omega)) ?_
    rintro _ A103 ⟨rfl, ln_A103, tp_A103, ta_A103, tl_A103, fe_A103⟩
    refine hpa_aload_n (by rfl) rfl ?_
    refine hpa_iload_n (by rfl) rfl ?_
    refine hpa_call0 (by rfl) (by rfl) (by rfl) (by rfl) (by rfl) (by rfl) (hP71 a3 (show _ = ((len + 8 : Nat) : Int) by omega) (by omega)) ?_
    rintro _ A104 ⟨rfl, ln_A104, tp_A104, ta_A104, tl_A104, fe_A104⟩
    refine hpa_aload_n (by rfl) rfl ?_
    refine hpa_iload (by rfl) rfl ?_
    refine hpa_call0 (by rfl) (by rfl) (by rfl) (by rfl) (by rfl) (by rfl) (hP71 a4 (show _ = ((len + 12 : Nat) : Int) by omega) (by omega)) ?_
    rintro _ A105 ⟨rfl, ln_A105, tp_A105, ta_A105, tl_A105, fe_A105⟩
    refine hpa_aload_n (by rfl) rfl ?_
    refine hpa_iload (by rfl) rfl ?_
    refine hpa_call0 (by rfl) (by rfl) (by rfl) (by rfl) (by rfl) (by rfl) (hP71 a5 (show _ = ((len + 16 : Nat) : Int) by omega) (by omega)) ?_
    rintro _ A106 ⟨rfl, ln_A106, tp_A106, ta_A106, tl_A106, fe_A106⟩
    refine hpa_aload_n (by rfl) rfl ?_
    refine hpj_getK (by rfl) (by rfl) (by rfl) rfl ?_
    exact hpa_ireturn (by rfl) rfl (hP _ _ ⟨_, rfl, by unfold hf5; rw [if_pos (by omega), tp_A106, tp_A105, tp_A104, tp_A103, tp_A102], fun i hi => by rw [ta_A106 i hi, ta_A105 i hi, ta_A104 i hi, ta_A103 i hi, ta_A102 i hi], by rw [tl_A106, tl_A105, tl_A104, tl_A103, tl_A102], fun i k hi => by rw [fe_A106 i k hi, fe_A105 i k hi, fe_A104 i k hi, fe_A103 i k hi, fe_A102 i k hi]⟩)
  ·
    refine hpa_iconst (by rfl) rfl ?_
    exact hpa_ireturn (by rfl) rfl (hP _ _ ⟨_, rfl, by unfold hf5; rw [if_neg (by omega)], fun _ _ => rfl, rfl, fun _ _ _ => rfl⟩)
theorem hP70 {g d : Nat} {A : hs_A} {len : Nat} (a1 a2 a3 a4 a5 : Int32) (h : (A.1 0 1).toInt = (len : Int)) (hl : len ≤ 2000) : hpC g d 70 hm_m70 [.ref 1, .int a1, .int a2, .int a3, .int a4, .int a5] A (fun r A' => ∃ z : Int32, r = some (.int z) ∧ A'.2.1 1 = hf5 (A.2.1 1) len a1 a2 a3 a4 a5 ∧ (∀ i, ¬ i = 1 → A'.2.1 i = A.2.1 i) ∧ A'.2.2 = A.2.2 ∧ (∀ i k, ¬ (i = 0 ∧ k = 1) → A'.1 i k = A.1 i k)) := hpC.all (fun f d => hW70 a1 a2 a3 a4 a5 h hl (fun r A' h => h))
theorem hW134 {g d f : Nat} {A : hs_A} {len : Nat} (a1 : Int32) (h : (A.1 367 2).toInt = (len : Int)) (hl : len + 4 ≤ 2000) {P : Option Value → hs_A → Prop} (hP : ∀ (r : Option Value) (A' : hs_A), (r = none ∧ ((A'.1 367 2).toInt = (len : Int) + 4 ∧ A'.2.1 368 = hfw (A.2.1 368) len a1 4 ∧ (∀ i, ¬ i = 368 → A'.2.1 i = A.2.1 i) ∧ A'.2.2 = A.2.2 ∧ (∀ i k, ¬ (i = 367 ∧ k = 2) → A'.1 i k = A.1 i k))) → P r A') : hpa (f, g) d none hm_t134 0 [.ref 368, .int a1, .retAddr 0] [] A P := by
  have k1 := hk_1
  have k24 := hk_24
  have k4294967288 := hk_4294967288
  have L3 : ∀ (f : Nat) (x3_2 : Int32) (A3 : hs_A) (q : Nat) (lq : x3_2.toInt = 24 - 8 * (q : Int)) (q4 : q ≤ 4) (ln : (A3.1 367 2).toInt = (len : Int) + q) (tp : A3.2.1 368 = hfw (A.2.1 368) len a1 q) (ta : ∀ i, ¬ i = 368 → A3.2.1 i = A.2.1 i) (tl : A3.2.2 = A.2.2) (fe : ∀ i k, ¬ (i = 367 ∧ k = 2) → A3.1 i k = A.1 i k), hpa (f, g) d none hm_t134 3 [.ref 368, .int a1, .int x3_2] [] A3 P := by
    intro f
    induction f with
    | zero => intros; exact hpa.zero
    | succ f ih3 =>
      intro x3_2 A3 q lq q4 ln tp ta tl fe
      refine hpa_iload_nS (by rfl) rfl ?_
      refine hpj_zlt (by rfl) rfl (fun q101 => ?_) (fun q101 => ?_)
      ·
        obtain rfl : q = 4 := by omega
        exact hpa_return (by rfl) rfl (hP _ _ ⟨rfl, by omega, tp, ta, tl, fe⟩)
      ·
        refine hpa_aload_n (by rfl) rfl ?_
        refine hpa_get (v := .ref 369) (by rfl) (by rfl) (by rfl) rfl ?_
        refine hpa_aload_n (by rfl) rfl ?_
        refine hpj_getK (by rfl) (by rfl) (by rfl) rfl ?_
        refine hpa_iload_n (by rfl) rfl ?_
        refine hpa_iload_n (by rfl) rfl ?_
        refine hpa_ishr (by rfl) ?_
        refine hpa_i2b (by rfl) ?_
        refine hpx_bast (by rfl) (by rfl) (fun A102 h0A102 h1A102 eA102 fA102 gA102 => ?_)
        have hcn := hn_cn (j := (A3.1 367 2)) (by omega)
        have hx3 := hvbx (q := q) lq (by omega)
        have tp1 : A102.2.1 368 = hfw (A.2.1 368) len a1 (q + 1) := hfw_s tp fA102 (by omega) (by rw [hvb8, hx3]; rfl)
        have ta2 : ∀ i, ¬ i = 368 → A102.2.1 i = A.2.1 i := fun i hi => by rw [fA102, ← ta i hi]; funext b; exact hup2 (fun w => hi w.1)
        refine hpa_aload_n (by rfl) rfl ?_
        refine hpa_dupR (by rfl) ?_
        refine hpj_getK (by rfl) (by rfl) (by rfl) (hkA eA102 rfl) ?_
        refine hpa_iconst (by rfl) rfl ?_
        refine hpj_iadd (by rfl) rfl hk_1 (by omega) (by omega) (fun z103 ez103 => ?_)
        refine hpj_putI (by rfl) (by rfl) (by rfl) (by rfl) (fun A104 eA104 fA104 => ?_)
        have tp2 : A104.2.1 368 = hfw (A.2.1 368) len a1 (q + 1) := by rw [fA104]; exact tp1
        refine hpj_iinc (by rfl) rfl rfl hk_4294967288 (by omega) (by omega) (fun _ => rfl) (fun z105 ez105 => ?_)
        refine hpa_goto (by rfl) ?_
        exact ih3 z105 A104 (q + 1) (by omega) (by omega) (by rw [eA104, hup1]; omega) tp2 (fun i hi => by rw [fA104]; exact ta2 i hi) (by rw [fA104, gA102]; exact tl) (fun i k hi => by rw [eA104, hup2 hi, eA102]; exact fe i k hi)
  refine hpa_bipush (by rfl) rfl ?_
  refine hpa_s1 (by rfl) (Or.inl ⟨_, rfl, rfl⟩) rfl ?_
  exact L3 _ (Int32.ofNat 24) A 0 hk_24 (by omega) (by omega) hfw_0 (fun _ _ => rfl) rfl (fun _ _ _ => rfl)
theorem hP134 {g d : Nat} {A : hs_A} {len : Nat} (a1 : Int32) (h : (A.1 367 2).toInt = (len : Int)) (hl : len + 4 ≤ 2000) : hpC g d 134 hm_m134 [.ref 368, .int a1] A (fun r A' => r = none ∧ ((A'.1 367 2).toInt = (len : Int) + 4 ∧ A'.2.1 368 = hfw (A.2.1 368) len a1 4 ∧ (∀ i, ¬ i = 368 → A'.2.1 i = A.2.1 i) ∧ A'.2.2 = A.2.2 ∧ (∀ i k, ¬ (i = 367 ∧ k = 2) → A'.1 i k = A.1 i k))) := hpC.all (fun f d => hW134 a1 h hl (fun r A' h => h))
theorem hW133 {g d f : Nat} {A : hs_A} {len : Nat} (a1 a2 a3 a4 a5 : Int32) (h : (A.1 367 2).toInt = (len : Int)) (hl : len ≤ 2000) {P : Option Value → hs_A → Prop} (hP : ∀ (r : Option Value) (A' : hs_A), (∃ z : Int32, r = some (.int z) ∧ A'.2.1 368 = hf5 (A.2.1 368) len a1 a2 a3 a4 a5 ∧ (∀ i, ¬ i = 368 → A'.2.1 i = A.2.1 i) ∧ A'.2.2 = A.2.2 ∧ (∀ i k, ¬ (i = 367 ∧ k = 2) → A'.1 i k = A.1 i k)) → P r A') : hpa (f, g) d (some (.int)) hm_t133 0 [.ref 368, .int a1, .int a2, .int a3, .int a4, .int a5] [] A P := by
  have k20 := hk_20
  have k2000 := hk_2000
  have k4294967295 := hk_4294967295
  refine hpa_aload_n (by rfl) rfl ?_
  refine hpj_getK (by rfl) (by rfl) (by rfl) rfl ?_
  refine hpa_bipush (by rfl) rfl ?_
  refine hpj_iadd (by rfl) rfl hk_20 (by omega) (by omega) (fun z101 ez101 => ?_)
  refine hpa_sipush (by rfl) rfl ?_
  refine hpj_cle (by rfl) rfl hk_2000 (fun q102 => ?_) (fun q102 => ?_)
  ·
    refine hpa_aload_n (by rfl) rfl ?_
    refine hpa_iload_n (by rfl) rfl ?_
    refine hpa_call0 (by rfl) (by rfl) (by rfl) (by rfl) (by rfl) (by rfl) (hP134 a1 (show _ = (len : Int) by omega) (by omega)) ?_
    rintro _ A103 ⟨rfl, ln_A103, tp_A103, ta_A103, tl_A103, fe_A103⟩
    refine hpa_aload_n (by rfl) rfl ?_
    refine hpa_iload_n (by rfl) rfl ?_
    refine hpa_call0 (by rfl) (by rfl) (by rfl) (by rfl) (by rfl) (by rfl) (hP134 a2 (show _ = ((len + 4 : Nat) : Int) by omega) (by omega)) ?_
    rintro _ A104 ⟨rfl, ln_A104, tp_A104, ta_A104, tl_A104, fe_A104⟩
    refine hpa_aload_n (by rfl) rfl ?_
    refine hpa_iload_n (by rfl) rfl ?_
    refine hpa_call0 (by rfl) (by rfl) (by rfl) (by rfl) (by rfl) (by rfl) (hP134 a3 (show _ = ((len + 8 : Nat) : Int) by omega) (by omega)) ?_
    rintro _ A105 ⟨rfl, ln_A105, tp_A105, ta_A105, tl_A105, fe_A105⟩
    refine hpa_aload_n (by rfl) rfl ?_
    refine hpa_iload (by rfl) rfl ?_
    refine hpa_call0 (by rfl) (by rfl) (by rfl) (by rfl) (by rfl) (by rfl) (hP134 a4 (show _ = ((len + 12 : Nat) : Int) by omega) (by omega)) ?_
    rintro _ A106 ⟨rfl, ln_A106, tp_A106, ta_A106, tl_A106, fe_A106⟩
    refine hpa_aload_n (by rfl) rfl ?_
    refine hpa_iload (by rfl) rfl ?_
    refine hpa_call0 (by rfl) (by rfl) (by rfl) (by rfl) (by rfl) (by rfl) (hP134 a5 (show _ = ((len + 16 : Nat) : Int) by omega) (by omega)) ?_
    rintro _ A107 ⟨rfl, ln_A107, tp_A107, ta_A107, tl_A107, fe_A107⟩
    refine hpa_aload_n (by rfl) rfl ?_
    refine hpj_getK (by rfl) (by rfl) (by rfl) rfl ?_
    exact hpa_ireturn (by rfl) rfl (hP _ _ ⟨_, rfl, by unfold hf5; rw [if_pos (by omega), tp_A107, tp_A106, tp_A105, tp_A104, tp_A103], fun i hi => by rw [ta_A107 i hi, ta_A106 i hi, ta_A105 i hi, ta_A104 i hi, ta_A103 i hi], by rw [tl_A107, tl_A106, tl_A105, tl_A104, tl_A103], fun i k hi => by rw [fe_A107 i k hi, fe_A106 i k hi, fe_A105 i k hi, fe_A104 i k hi, fe_A103 i k hi]⟩)
  ·
    refine hpa_iconst (by rfl) rfl ?_
    exact hpa_ireturn (by rfl) rfl (hP _ _ ⟨_, rfl, by unfold hf5; rw [if_neg (by omega)], fun _ _ => rfl, rfl, fun _ _ _ => rfl⟩)
theorem hP133 {g d : Nat} {A : hs_A} {len : Nat} (a1 a2 a3 a4 a5 : Int32) (h : (A.1 367 2).toInt = (len : Int)) (hl : len ≤ 2000) : hpC g d 133 hm_m133 [.ref 368, .int a1, .int a2, .int a3, .int a4, .int a5] A (fun r A' => ∃ z : Int32, r = some (.int z) ∧ A'.2.1 368 = hf5 (A.2.1 368) len a1 a2 a3 a4 a5 ∧ (∀ i, ¬ i = 368 → A'.2.1 i = A.2.1 i) ∧ A'.2.2 = A.2.2 ∧ (∀ i k, ¬ (i = 367 ∧ k = 2) → A'.1 i k = A.1 i k)) := hpC.all (fun f d => hW133 a1 a2 a3 a4 a5 h hl (fun r A' h => h))
theorem hW72 {g d f : Nat} {A : hs_A} (a1 : Int32) {P : Option Value → hs_A → Prop} (hP : ∀ (r : Option Value) (A' : hs_A), (∃ z : Int32, r = some (.int z) ∧ (∀ i k, ¬ (i = 0 ∧ k = 1) → A'.1 i k = A.1 i k) ∧ A'.2 = A.2) → P r A') : hpa (f, g) d (some (.int)) hm_t72 0 [.ref 1, .int a1] [] A P := by
  have k4294967295 := hk_4294967295
  refine hpa_iload_n (by rfl) rfl ?_
  refine hpj_zlt (by rfl) rfl (fun q101 => ?_) (fun q101 => ?_)
  ·
    refine hpa_iconst (by rfl) rfl ?_
    exact hpa_ireturn (by rfl) rfl (hP _ _ ⟨_, rfl, fun _ _ _ => rfl, rfl⟩)
  ·
    refine hpa_iload_n (by rfl) rfl ?_
    refine hpa_aload_n (by rfl) rfl ?_
    refine hpj_getK (by rfl) (by rfl) (by rfl) rfl ?_
    refine hpj_cle (by rfl) rfl rfl (fun q102 => ?_) (fun q102 => ?_)
    ·
      refine hpa_aload_n (by rfl) rfl ?_
      refine hpa_dupR (by rfl) ?_
      refine hpj_getK (by rfl) (by rfl) (by rfl) rfl ?_
      refine hpa_iload_n (by rfl) rfl ?_
      refine hpj_isubU (by rfl) (fun z103 => ?_)
      refine hpj_putI (by rfl) (by rfl) (by rfl) (by rfl) (fun A104 eA104 fA104 => ?_)
      refine hpa_aload_n (by rfl) rfl ?_
      refine hpj_getK (by rfl) (by rfl) (by rfl) (hkS eA104) ?_
      exact hpa_ireturn (by rfl) rfl (hP _ _ ⟨_, rfl, fun i k hi => by rw [eA104, hup2 hi], fA104⟩)
    ·
      refine hpa_iconst (by rfl) rfl ?_
      exact hpa_ireturn (by rfl) rfl (hP _ _ ⟨_, rfl, fun _ _ _ => rfl, rfl⟩)
theorem hP72 {g d : Nat} {A : hs_A} (a1 : Int32) : hpC g d 72 hm_m72 [.ref 1, .int a1] A (fun r A' => ∃ z : Int32, r = some (.int z) ∧ (∀ i k, ¬ (i = 0 ∧ k = 1) → A'.1 i k = A.1 i k) ∧ A'.2 = A.2) := hpC.all (fun f d => hW72 a1 (fun r A' h => h))
theorem hW135 {g d f : Nat} {A : hs_A} (a1 : Int32) {P : Option Value → hs_A → Prop} (hP : ∀ (r : Option Value) (A' : hs_A), (∃ z : Int32, r = some (.int z) ∧ (∀ i k, ¬ (i = 367 ∧ k = 2) → A'.1 i k = A.1 i k) ∧ A'.2 = A.2) → P r A') : hpa (f, g) d (some (.int)) hm_t135 0 [.ref 368, .int a1] [] A P := by
  have k4294967295 := hk_4294967295
  refine hpa_iload_n (by rfl) rfl ?_
  refine hpj_zlt (by rfl) rfl (fun q101 => ?_) (fun q101 => ?_)
  ·
    refine hpa_iconst (by rfl) rfl ?_
    exact hpa_ireturn (by rfl) rfl (hP _ _ ⟨_, rfl, fun _ _ _ => rfl, rfl⟩)
  ·
    refine hpa_iload_n (by rfl) rfl ?_
    refine hpa_aload_n (by rfl) rfl ?_
    refine hpj_getK (by rfl) (by rfl) (by rfl) rfl ?_
    refine hpj_cle (by rfl) rfl rfl (fun q102 => ?_) (fun q102 => ?_)
    ·
      refine hpa_aload_n (by rfl) rfl ?_
      refine hpa_dupR (by rfl) ?_
      refine hpj_getK (by rfl) (by rfl) (by rfl) rfl ?_
      refine hpa_iload_n (by rfl) rfl ?_
      refine hpj_isubU (by rfl) (fun z103 => ?_)
      refine hpj_putI (by rfl) (by rfl) (by rfl) (by rfl) (fun A104 eA104 fA104 => ?_)
      refine hpa_aload_n (by rfl) rfl ?_
      refine hpj_getK (by rfl) (by rfl) (by rfl) (hkS eA104) ?_
      exact hpa_ireturn (by rfl) rfl (hP _ _ ⟨_, rfl, fun i k hi => by rw [eA104, hup2 hi], fA104⟩)
    ·
      refine hpa_iconst (by rfl) rfl ?_
      exact hpa_ireturn (by rfl) rfl (hP _ _ ⟨_, rfl, fun _ _ _ => rfl, rfl⟩)
theorem hP135 {g d : Nat} {A : hs_A} (a1 : Int32) : hpC g d 135 hm_m135 [.ref 368, .int a1] A (fun r A' => ∃ z : Int32, r = some (.int z) ∧ (∀ i k, ¬ (i = 367 ∧ k = 2) → A'.1 i k = A.1 i k) ∧ A'.2 = A.2) := hpC.all (fun f d => hW135 a1 (fun r A' h => h))
theorem hW75 {g d f : Nat} {A : hs_A}  {P : Option Value → hs_A → Prop} (hP : ∀ (r : Option Value) (A' : hs_A), (A = A' ∧ ∃ z : Int32, r = some (.int z) ∧ z = A.1 0 2) → P r A') : hpa (f, g) d (some (.int)) hm_t75 0 [.ref 1] [] A P := by
  refine hpa_aload_n (by rfl) rfl ?_
  refine hpj_getK (by rfl) (by rfl) (by rfl) rfl ?_
  exact hpa_ireturn (by rfl) rfl (hP _ _ ⟨rfl, _, rfl, rfl⟩)
theorem hP75 {g d : Nat} {A : hs_A}  : hpC g d 75 hm_m75 [.ref 1] A (fun r A' => A = A' ∧ ∃ z : Int32, r = some (.int z) ∧ z = A.1 0 2) := hpC.all (fun f d => hW75  (fun r A' h => h))
theorem hW151 {g d f : Nat} {A : hs_A}  {P : Option Value → hs_A → Prop} (hP : ∀ (r : Option Value) (A' : hs_A), (A = A' ∧ ∃ z : Int32, r = some (.int z) ∧ z = A.1 367 17) → P r A') : hpa (f, g) d (some (.int)) hm_t151 0 [.ref 368] [] A P := by
  refine hpa_aload_n (by rfl) rfl ?_
  refine hpj_getK (by rfl) (by rfl) (by rfl) rfl ?_
  exact hpa_ireturn (by rfl) rfl (hP _ _ ⟨rfl, _, rfl, rfl⟩)
theorem hP151 {g d : Nat} {A : hs_A}  : hpC g d 151 hm_m151 [.ref 368] A (fun r A' => A = A' ∧ ∃ z : Int32, r = some (.int z) ∧ z = A.1 367 17) := hpC.all (fun f d => hW151  (fun r A' h => h))
/-! GROUPS OF CELLS: what a field or a row may refer to, which mark a write to it leaves -/
def ug_gt : List (List (Option Nat)) := [[some 0, some 1, some 2, some 3, some 4, some 5, some 6, some 7, some 8, some 9, some 10, some 11, some 12, some 13, some 14, some 15, some 16, some 17, some 18, some 19, some 20, some 21, some 22, some 23, some 24, some 25, some 26, some 27, some 28, some 29, some 30, some 31],
  [some 32, some 33, some 34, some 35, some 36, some 37, some 38, some 39, some 40, some 41, some 42, some 43, some 44, some 45, some 46, some 47, some 48, some 42, some 43, some 44, some 45, some 46, some 47, some 48, some 42, some 43, some 44, some 45, some 46, some 47, some 48, some 42],
  [some 43, some 44, some 45, some 46, some 47, some 48, some 42, some 43, some 44, some 45, some 46, some 47, some 48, some 42, some 43, some 44, some 45, some 46, some 47, some 48, some 42, some 43, some 44, some 45, some 46, some 47, some 48, some 42, some 43, some 44, some 45, some 46],
  [some 47, some 48, some 42, some 43, some 44, some 45, some 46, some 47, some 48, some 42, some 43, some 44, some 45, some 46, some 47, some 48, some 42, some 43, some 44, some 45, some 46, some 47, some 48, some 42, some 43, some 44, some 45, some 46, some 47, some 48, some 42, some 43],
  [some 44, some 45, some 46, some 47, some 48, some 42, some 43, some 44, some 45, some 46, some 47, some 48, some 42, some 43, some 44, some 45, some 46, some 47, some 48, some 42, some 43, some 44, some 45, some 46, some 47, some 48, some 42, some 43, some 44, some 45, some 46, some 47],
  [some 48, some 42, some 43, some 44, some 45, some 46, some 47, some 48, some 42, some 43, some 44, some 45, some 46, some 47, some 48, some 42, some 43, some 44, some 45, some 46, some 47, some 48, some 42, some 43, some 44, some 45, some 46, some 47, some 48, some 42, some 43, some 44],
  [some 45, some 46, some 47, some 48, some 42, some 43, some 44, some 45, some 46, some 47, some 48, some 42, some 43, some 44, some 45, some 46, some 47, some 48, some 42, some 43, some 44, some 45, some 46, some 47, some 48, some 42, some 43, some 44, some 45, some 46, some 47, some 48],
  [some 42, some 43, some 44, some 45, some 46, some 47, some 48, some 42, some 43, some 44, some 45, some 46, some 47, some 48, some 42, some 43, some 44, some 45, some 46, some 47, some 48, some 42, some 43, some 44, some 45, some 46, some 47, some 48, some 42, some 43, some 44, some 45],
  [some 46, some 47, some 48, some 42, some 43, some 44, some 45, some 46, some 47, some 48, some 42, some 43, some 44, some 45, some 46, some 47, some 48, some 42, some 43, some 44, some 45, some 46, some 47, some 48, some 42, some 43, some 44, some 45, some 46, some 47, some 48, some 42],
  [some 43, some 44, some 45, some 46, some 47, some 48, some 42, some 43, some 44, some 45, some 46, some 47, some 48, some 42, some 43, some 44, some 45, some 46, some 47, some 48, some 42, some 43, some 44, some 45, some 46, some 47, some 48, some 42, some 43, some 44, some 45, some 46],
  [some 47, some 48, some 49, some 50, some 51, some 52, some 53, some 54, some 55, some 56, some 57, some 58, some 59, some 60, some 61, some 62, some 63, some 64, some 65, some 66, some 67, some 68, some 69, some 70, some 71, some 72, some 73, some 74, some 75, some 76, some 77, some 78],
  [some 79, some 73, some 74, some 75, some 76, some 77, some 78, some 79, some 73, some 74, some 75, some 76, some 77, some 78, some 79, some 80, some 81, some 82, some 83, some 84, some 85, some 86, some 87, some 88, some 89, some 90, some 91, some 92, some 93, some 94, some 95, some 96],
  [some 97, some 98, some 99, some 100, some 101, some 102, some 103, some 104, some 105, some 106, some 107, some 108, some 109, some 110, some 111, some 112, some 113, some 114, some 115, some 116, some 117, some 118, some 119, some 120, some 121, some 122]]
noncomputable def ug_g (i : Nat) : Nat := match hc_get ug_gt i with
  | some g => g
  | none => 127
def ug_Ft : List (List (Option (List (List Nat)))) := [[some [[1], [], [], [2, 11], [2, 11], [20], [26], [33], [40], [49], [], [50], [55], [67], [70], [71], [72]], none, some [[3], [4], [5], [6], [], [], [], []], none, none, none, some [[7], [8], [9], [10], [], []], none, none, none, none, some [[12], [13], [14], [15], [], [], [], []], none, none, none, some [[16], [17], [18], [19], [], []], none, none, none, none, some [[21], [25], [2, 11], [], [], [], [], [], []], some [[22], [23], [24], []], none, none, none, none, some [[27], [28], [29], [30], [31], [32], [], [], [], [], []], none, none, none, none, none],
  [none, some [[34], [35], [36], [37], [38], [39], [], [], [], [], []], none, none, none, none, none, none, some [[41], [], []], none, some [[43], [44], [45], [46], [47], [48], [], [], [], [], []], none, none, none, none, none, none, none, some [[51], [52], [53], [54], [], [6, 15]], none, none, none, none, some [[56], []], none, none, none, none, none, none, none, none],
  [none, none, none, some [[68], [69], []], none, none, none, none, none, some [[74], [75], [76], [77], [78], [79], [], [], [], [], []], none, none, none, none, none, none, some [[], [81], [], [82], [], [83], [84], [85], [86], [87], [], [], [], [], [], [], [], [], [], [], [], [88], [89], [90], [91], [92], [93], [94], [95], [96], [97], [], [98], [99], [100], [101], [102], [], [103], [104], [105], [], [106], [107], [], [108], [109], [], [], [110], [111], [], [112], [113], [114], [115], [116], [117], [118], [], [119], [120], [121], [122]], none, none, none, none, none, none, none, none, none, none, none, none, none, none, none],
  [none, none, none, none, none, none, none, none, none, none, none, none, none, none, none, none, none, none, none, none, none, none, none, none, none, none, none]]
noncomputable def ug_F (G k : Nat) : List Nat := match hc_get ug_Ft G with
  | none => []
  | some fs => match hc_nth fs k with
    | none => []
    | some m => m
def ug_Et : List (List (Option (Option (List Nat ⊕ Bool)))) := [[none, some (some (.inl [])), none, some (some (.inl [])), some (some (.inl [])), some (some (.inl [])), none, some (some (.inl [])), some (some (.inl [])), some (some (.inl [])), some (some (.inl [])), none, some (some (.inl [])), some (some (.inl [])), some (some (.inl [])), none, some (some (.inl [])), some (some (.inl [])), some (some (.inl [])), some (some (.inl [])), none, none, some (some (.inl [])), some (some (.inr true)), some (some (.inl [])), some (some (.inr true)), none, some (some (.inl [])), some (some (.inl [])), some (some (.inl [])), some (some (.inl [])), some (some (.inl []))],
  [some (some (.inl [])), none, some (some (.inl [])), some (some (.inl [])), some (some (.inl [])), some (some (.inl [])), some (some (.inl [])), some (some (.inl [])), none, some (some (.inl [42])), none, some (some (.inl [])), some (some (.inl [])), some (some (.inl [])), some (some (.inl [])), some (some (.inl [])), some (some (.inl [])), some (some (.inl [73])), none, some (some (.inl [])), some (some (.inl [])), some (some (.inl [])), some (some (.inl [])), none, some (some (.inl [57, 58, 59, 60, 61, 62, 63, 64, 65, 66])), some (some (.inl [])), some (some (.inl [])), some (some (.inl [])), some (some (.inl [])), some (some (.inl [])), some (some (.inl [])), some (some (.inl []))],
  [some (some (.inl [])), some (some (.inl [])), some (some (.inl [])), none, some (some (.inl [])), some (some (.inl [])), some (some (.inl [])), some (some (.inl [])), some (some (.inl [])), none, some (some (.inl [])), some (some (.inl [])), some (some (.inl [])), some (some (.inl [])), some (some (.inl [])), some (some (.inl [])), none, some (some (.inl [])), some (some (.inl [])), some (some (.inl [])), some (some (.inl [])), some (some (.inl [])), some (some (.inr true)), some (some (.inr true)), some (some (.inr true)), some (some (.inl [])), some (some (.inl [])), some (some (.inl [])), some (some (.inl [])), some (some (.inl [])), some (some (.inl [])), some (some (.inl []))],
  [some (some (.inl [])), some (some (.inl [])), some (some (.inl [])), some (some (.inl [])), some (some (.inl [])), some (some (.inl [])), some (some (.inl [])), some (some (.inl [])), some (some (.inl [])), some (some (.inl [])), some (some (.inl [])), some (some (.inl [])), some (some (.inl [])), some (some (.inl [])), some (some (.inl [])), some (some (.inl [])), some (some (.inl [])), some (some (.inl [])), some (some (.inl [])), some (some (.inl [])), some (some (.inl [])), some (some (.inl [])), some (some (.inl [])), some (some (.inl [])), some (some (.inl [])), some (some (.inl [])), some (some (.inl []))]]
noncomputable def ug_E (G : Nat) : Option (List Nat ⊕ Bool) := match hc_get ug_Et G with
  | none => some (.inl [])
  | some t => t
def ug_ot : List (List (Option Nat)) := [[some 128, none, some 145, none, none, none, some 153, none, none, none, none, some 159, none, none, none, some 167, none, none, none, none, some 173, some 182, none, none, none, none, some 186, none, none, none, none, none],
  [none, some 197, none, none, none, none, none, none, some 208, none, some 211, none, none, none, none, none, none, none, some 222, none, none, none, none, some 228, none, none, none, none, none, none, none, none],
  [none, none, none, some 230, none, none, none, none, none, some 233, none, none, none, none, none, none, some 244, none, none, none, none, none, none, none, none, none, none, none, none, none, none, none],
  [none, none, none, none, none, none, none, none, none, none, none, none, none, none, none, none, none, none, none, none, none, none, none, none, none, none, none]]
noncomputable def ug_o (G k : Nat) : Nat := match hc_get ug_ot G with
  | none => 100000
  | some b => b + k
