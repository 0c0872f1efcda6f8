theorem hY153q5 {d : Nat} {Bn Br : Int} {A0 A : hs_A} (hA : hJ 5 Bn Br A0 A)  (a1 : Int32) (p1 : 0 ≤ a1.toInt) (q1 : a1.toInt ≤ 9999) (a2 : Int32) {P : Option Value → hs_A → Prop} (hP : ∀ (r : Option Value) (A' : hs_A), (hJ 5 Bn Br A0 A' ∧ A'.1 367 12 = A.1 367 12 ∧ A'.1 367 19 = A.1 367 19 ∧ A'.1 367 20 = A.1 367 20 ∧ A'.1 367 31 = A.1 367 31 ∧ A'.1 367 37 = A.1 367 37 ∧ A'.1 367 41 = A.1 367 41 ∧ A'.2.1 = A.2.1 ∧ ∃ z : Int32, r = some (.int z) ∧ ((0 ≤ z.toInt ∧ z.toInt ≤ 9999) ∧ (¬ (A'.1 367 13).toInt = 0 ∨ ((A.1 367 13).toInt = 0 ∧ (A.1 367 11).toInt + 3 ≤ (A'.1 367 11).toInt)) ∧ (A.1 367 11).toInt ≤ (A'.1 367 11).toInt)) → P r A') : hxa (d + 3) (some (.int)) hm_t153 0 [.ref 368, .int a1, .int a2, .retAddr 0] [] A P := by
  have k4 := hk_4
  have fb367_11 := hA.f (i := 367) (k := 11) (by rfl)
  have fb367_12 := hA.f (i := 367) (k := 12) (by rfl)
  have fb367_13 := hA.f (i := 367) (k := 13) (by rfl)
  have fb367_19 := hA.f (i := 367) (k := 19) (by rfl)
  have fb367_20 := hA.f (i := 367) (k := 20) (by rfl)
  have fb367_31 := hA.f (i := 367) (k := 31) (by rfl)
  have fb367_37 := hA.f (i := 367) (k := 37) (by rfl)
  have fb367_41 := hA.f (i := 367) (k := 41) (by rfl)
  refine hxa_aload_n (by rfl) rfl ?_
  refine hxa_call0 (by rfl) (by rfl) (by rfl) (by rfl) (by rfl) (by rfl) (hX147q5 (d := d + 1) hA ) ?_
  rintro _ A1 ⟨hA1, frA1_0, frA1_1, frA1_2, frA1_3, frA1_4, frA1_5, aeA1, rfl, fA1⟩
  have ttA1_12 : (A1.1 367 12).toInt = (A.1 367 12).toInt := congrArg Int32.toInt (frA1_0.trans rfl)
  have ttA1_19 : (A1.1 367 19).toInt = (A.1 367 19).toInt := congrArg Int32.toInt (frA1_1.trans rfl)
  have ttA1_20 : (A1.1 367 20).toInt = (A.1 367 20).toInt := congrArg Int32.toInt (frA1_2.trans rfl)
  have ttA1_31 : (A1.1 367 31).toInt = (A.1 367 31).toInt := congrArg Int32.toInt (frA1_3.trans rfl)
  have ttA1_37 : (A1.1 367 37).toInt = (A.1 367 37).toInt := congrArg Int32.toInt (frA1_4.trans rfl)
  have ttA1_41 : (A1.1 367 41).toInt = (A.1 367 41).toInt := congrArg Int32.toInt (frA1_5.trans rfl)
  have fbA1_367_11 := hA1.f (i := 367) (k := 11) (by rfl)
  have fbA1_367_13 := hA1.f (i := 367) (k := 13) (by rfl)
  refine hxa_aload_n (by rfl) rfl ?_
  refine hxa_iload_n (by rfl) rfl ?_
  refine hxa_iload_n (by rfl) rfl ?_
  refine hxa_call0 (by rfl) (by rfl) (by rfl) (by rfl) (by rfl) (by rfl) (hX155q5 (d := d + 0) hA1 a1 (by omega) (by omega) a2) ?_
  rintro _ A2 ⟨hA2, frA2_0, frA2_1, frA2_2, frA2_3, frA2_4, frA2_5, aeA2, z3, rfl, fz3⟩
  have ttA2_12 : (A2.1 367 12).toInt = (A.1 367 12).toInt := congrArg Int32.toInt (frA2_0.trans (frA1_0.trans rfl))
  have ttA2_19 : (A2.1 367 19).toInt = (A.1 367 19).toInt := congrArg Int32.toInt (frA2_1.trans (frA1_1.trans rfl))
  have ttA2_20 : (A2.1 367 20).toInt = (A.1 367 20).toInt := congrArg Int32.toInt (frA2_2.trans (frA1_2.trans rfl))
  have ttA2_31 : (A2.1 367 31).toInt = (A.1 367 31).toInt := congrArg Int32.toInt (frA2_3.trans (frA1_3.trans rfl))
  have ttA2_37 : (A2.1 367 37).toInt = (A.1 367 37).toInt := congrArg Int32.toInt (frA2_4.trans (frA1_4.trans rfl))
  have ttA2_41 : (A2.1 367 41).toInt = (A.1 367 41).toInt := congrArg Int32.toInt (frA2_5.trans (frA1_5.trans rfl))
  have fbA2_367_11 := hA2.f (i := 367) (k := 11) (by rfl)
  have fbA2_367_13 := hA2.f (i := 367) (k := 13) (by rfl)
  refine hxa_s1 (by rfl) (Or.inl ⟨_, rfl, rfl⟩) rfl ?_
  refine hxa_aload_n (by rfl) rfl ?_
  refine hxa_iconst (by rfl) rfl ?_
  refine hxa_call0 (by rfl) (by rfl) (by rfl) (by rfl) (by rfl) (by rfl) (hX148q5 (d := d + 0) hA2 (Int32.ofNat 4)) ?_
  rintro _ A4 ⟨hA4, frA4_0, frA4_1, frA4_2, frA4_3, frA4_4, frA4_5, aeA4, rfl, fA4⟩
  have ttA4_12 : (A4.1 367 12).toInt = (A.1 367 12).toInt := congrArg Int32.toInt (frA4_0.trans (frA2_0.trans (frA1_0.trans rfl)))
  have ttA4_19 : (A4.1 367 19).toInt = (A.1 367 19).toInt := congrArg Int32.toInt (frA4_1.trans (frA2_1.trans (frA1_1.trans rfl)))
  have ttA4_20 : (A4.1 367 20).toInt = (A.1 367 20).toInt := congrArg Int32.toInt (frA4_2.trans (frA2_2.trans (frA1_2.trans rfl)))
  have ttA4_31 : (A4.1 367 31).toInt = (A.1 367 31).toInt := congrArg Int32.toInt (frA4_3.trans (frA2_3.trans (frA1_3.trans rfl)))
  have ttA4_37 : (A4.1 367 37).toInt = (A.1 367 37).toInt := congrArg Int32.toInt (frA4_4.trans (frA2_4.trans (frA1_4.trans rfl)))
  have ttA4_41 : (A4.1 367 41).toInt = (A.1 367 41).toInt := congrArg Int32.toInt (frA4_5.trans (frA2_5.trans (frA1_5.trans rfl)))
  have fbA4_367_11 := hA4.f (i := 367) (k := 11) (by rfl)
  have fbA4_367_13 := hA4.f (i := 367) (k := 13) (by rfl)
  refine hxa_iload_n (by rfl) rfl ?_
  exact hxa_ireturn (by rfl) rfl (hP _ _ ⟨hA4, (frA4_0.trans (frA2_0.trans (frA1_0.trans rfl))), (frA4_1.trans (frA2_1.trans (frA1_1.trans rfl))), (frA4_2.trans (frA2_2.trans (frA1_2.trans rfl))), (frA4_3.trans (frA2_3.trans (frA1_3.trans rfl))), (frA4_4.trans (frA2_4.trans (frA1_4.trans rfl))), (frA4_5.trans (frA2_5.trans (frA1_5.trans rfl))), (aeA4.trans (aeA2.trans (aeA1.trans rfl))), _, rfl, by omega⟩)
theorem hX153q5 {d : Nat} {Bn Br : Int} {A0 A : hs_A} (hA : hJ 5 Bn Br A0 A)  (a1 : Int32) (p1 : 0 ≤ a1.toInt) (q1 : a1.toInt ≤ 9999) (a2 : Int32) : hxC (d + 4) 153 hm_m153 [.ref 368, .int a1, .int a2] A (fun r A' => hJ 5 Bn Br A0 A' ∧ A'.1 367 12 = A.1 367 12 ∧ A'.1 367 19 = A.1 367 19 ∧ A'.1 367 20 = A.1 367 20 ∧ A'.1 367 31 = A.1 367 31 ∧ A'.1 367 37 = A.1 367 37 ∧ A'.1 367 41 = A.1 367 41 ∧ A'.2.1 = A.2.1 ∧ ∃ z : Int32, r = some (.int z) ∧ ((0 ≤ z.toInt ∧ z.toInt ≤ 9999) ∧ (¬ (A'.1 367 13).toInt = 0 ∨ ((A.1 367 13).toInt = 0 ∧ (A.1 367 11).toInt + 3 ≤ (A'.1 367 11).toInt)) ∧ (A.1 367 11).toInt ≤ (A'.1 367 11).toInt)) := hxC.of (by rfl) (hY153q5 hA a1 p1 q1 a2 (fun r A' h => h))
theorem hY136q5 {d : Nat} {Bn Br : Int} {A0 A : hs_A} (hA : hJ 5 Bn Br A0 A)  (a1 : Int32) (p1 : 0 ≤ a1.toInt) {P : Option Value → hs_A → Prop} (hP : ∀ (r : Option Value) (A' : hs_A), (A = A' ∧ ∃ z : Int32, r = some (.int z) ∧ (z = hby A a1 ∧ (z.toInt = 0 ∨ a1.toInt < 2000) ∧ 0 ≤ z.toInt ∧ z.toInt ≤ 255)) → P r A') : hxa (d + 0) (some (.int)) hm_t136 0 [.ref 368, .int a1] [] A P := by
  have k0 := hk_0
  have fb367_4 := hA.f (i := 367) (k := 4) (by rfl)
  refine hxa_iload_n (by rfl) rfl ?_
  refine hxa_aload_n (by rfl) rfl ?_
  refine hxj_getK (by rfl) (by rfl) (by rfl) rfl ?_
  have rga1 := hn_rng a1
  refine hxj_cge (by rfl) rfl rfl (fun q1 => ?_) (fun q1 => ?_)
  ·
    refine hxa_iconst (by rfl) rfl ?_
    exact hxa_ireturn (by rfl) rfl (hP _ _ ⟨rfl, _, rfl, ⟨by unfold hby; rw [if_neg (by omega)], by omega, by omega, by omega⟩⟩)
  ·
    refine hxa_aload_n (by rfl) rfl ?_
    refine hxa_get (v := .ref 370) (by rfl) (by rfl) (by rfl) rfl ?_
    refine hxa_iload_n (by rfl) rfl ?_
    refine hxj_bald (by rfl) (by rfl) rfl (by omega) (by omega) (fun z2 ez2 => ?_)
    refine hxa_sipush (by rfl) rfl ?_
    refine hxa_iand (by rfl) (hn_top (fun z3 ez3 => ?_))
    have fz3 : 0 ≤ z3.toInt ∧ z3.toInt ≤ 255 := by
      have q := hn_and (x := z2) (y := (Int32.ofNat 255)) (by rw [hk_255]; decide)
      rw [← ez3, hk_255] at q
      exact q
    refine hxa_goto (by rfl) ?_
    exact hxa_ireturn (by rfl) rfl (hP _ _ ⟨rfl, _, rfl, ⟨by unfold hby; rw [if_pos (by omega), ez2, ez3], by omega, by omega, by omega⟩⟩)
theorem hX136q5 {d : Nat} {Bn Br : Int} {A0 A : hs_A} (hA : hJ 5 Bn Br A0 A)  (a1 : Int32) (p1 : 0 ≤ a1.toInt) : hxC (d + 1) 136 hm_m136 [.ref 368, .int a1] A (fun r A' => A = A' ∧ ∃ z : Int32, r = some (.int z) ∧ (z = hby A a1 ∧ (z.toInt = 0 ∨ a1.toInt < 2000) ∧ 0 ≤ z.toInt ∧ z.toInt ≤ 255)) := hxC.of (by rfl) (hY136q5 hA a1 p1 (fun r A' h => h))
theorem hY141q5 {d : Nat} {Bn Br : Int} {A0 A : hs_A} (hA : hJ 5 Bn Br A0 A)  (a1 : Int32) (p1 : 0 ≤ a1.toInt) (q1 : a1.toInt ≤ 39) (a2 : Int32) (a3 : Int32) (p3 : 0 ≤ a3.toInt) (q3 : a3.toInt ≤ 9999) (a4 : Int64) (fl0 : 0 ≤ (A.1 367 10).toInt) (fh0 : (A.1 367 10).toInt ≤ 401) {P : Option Value → hs_A → Prop} (hP : ∀ (r : Option Value) (A' : hs_A), (hJ 5 Bn Br A0 A' ∧ r = none ∧ ((A'.1 367 10).toInt = (A.1 367 10).toInt + 1)) → P r A') : hxa (d + 0) none hm_t141 0 [.ref 368, .int a1, .int a2, .int a3, .long a4, .double 0] [] A P := by
  refine hxa_aload_n (by rfl) rfl ?_
  refine hxa_get (v := .ref 371) (by rfl) (by rfl) (by rfl) rfl ?_
  refine hxa_aload_n (by rfl) rfl ?_
  refine hxj_getK (by rfl) (by rfl) (by rfl) rfl ?_
  refine hxa_iload_n (by rfl) rfl ?_
  refine hxj_iast (by rfl) (by rfl) rfl (by omega) (by omega) hA (hbok (by rfl) rfl (by omega) (by omega)) (by rfl) (by rfl) (fun A1 hA1 eA1 fA1 gA1 => ?_)
  refine hxa_aload_n (by rfl) rfl ?_
  refine hxa_get (v := .ref 372) (by rfl) (by rfl) (by rfl) rfl ?_
  refine hxa_aload_n (by rfl) rfl ?_
  refine hxj_getK (by rfl) (by rfl) (by rfl) (hkA eA1 rfl) ?_
  refine hxa_iload_n (by rfl) rfl ?_
  refine hxj_iast (by rfl) (by rfl) rfl (by omega) (by omega) hA1 (hbokN (by rfl)) (by rfl) (by rfl) (fun A2 hA2 eA2 fA2 gA2 => ?_)
  refine hxa_aload_n (by rfl) rfl ?_
  refine hxa_get (v := .ref 373) (by rfl) (by rfl) (by rfl) rfl ?_
  refine hxa_aload_n (by rfl) rfl ?_
  refine hxj_getK (by rfl) (by rfl) (by rfl) (hkA eA2 (hkA eA1 rfl)) ?_
  refine hxa_iload_n (by rfl) rfl ?_
  refine hxj_iast (by rfl) (by rfl) rfl (by omega) (by omega) hA2 (hbok (by rfl) rfl (by omega) (by omega)) (by rfl) (by rfl) (fun A3 hA3 eA3 fA3 gA3 => ?_)
  refine hxa_aload_n (by rfl) rfl ?_
  refine hxa_get (v := .ref 374) (by rfl) (by rfl) (by rfl) rfl ?_
  refine hxa_aload_n (by rfl) rfl ?_
  refine hxj_getK (by rfl) (by rfl) (by rfl) (hkA eA3 (hkA eA2 (hkA eA1 rfl))) ?_
  refine hxa_lload (by rfl) rfl ?_
  refine hxj_last (by rfl) (by rfl) rfl (by omega) (by omega) hA3 (by omega) (fun A4 hA4 eA4 fA4 => ?_)
  refine hxa_aload_n (by rfl) rfl ?_
  refine hxa_dupR (by rfl) ?_
  refine hxj_getK (by rfl) (by rfl) (by rfl) (hkA eA4 (hkA eA3 (hkA eA2 (hkA eA1 rfl)))) ?_
  refine hxa_iconst (by rfl) rfl ?_
  refine hxj_iadd (by rfl) rfl hk_1 (by omega) (by omega) (fun z5 ez5 => ?_)
  refine hxj_putI (by rfl) (by rfl) (by rfl) (by rfl) hA4 (hbok (by rfl) rfl (by omega) (by omega)) (by rfl) (by rfl) (fun A6 hA6 eA6 fA6 => ?_)
  exact hxa_return (by rfl) rfl (hP _ _ ⟨hA6, rfl, by rw [(show A6.1 367 10 = z5 from (hkS eA6))]; omega⟩)
theorem hX141q5 {d : Nat} {Bn Br : Int} {A0 A : hs_A} (hA : hJ 5 Bn Br A0 A)  (a1 : Int32) (p1 : 0 ≤ a1.toInt) (q1 : a1.toInt ≤ 39) (a2 : Int32) (a3 : Int32) (p3 : 0 ≤ a3.toInt) (q3 : a3.toInt ≤ 9999) (a4 : Int64) (fl0 : 0 ≤ (A.1 367 10).toInt) (fh0 : (A.1 367 10).toInt ≤ 401) : hxC (d + 1) 141 hm_m141 [.ref 368, .int a1, .int a2, .int a3, .long a4] A (fun r A' => hJ 5 Bn Br A0 A' ∧ r = none ∧ ((A'.1 367 10).toInt = (A.1 367 10).toInt + 1)) := hxC.of (by rfl) (hY141q5 hA a1 p1 q1 a2 a3 p3 q3 a4 fl0 fh0 (fun r A' h => h))
theorem hY143q5 {d : Nat} {Bn Br : Int} {A0 A : hs_A} (hA : hJ 5 Bn Br A0 A)  (a1 : Int32) (a2 : Int32) (a3 : Int32) (fl0 : 0 ≤ (A.1 367 10).toInt) (fh0 : (A.1 367 10).toInt ≤ 401) {P : Option Value → hs_A → Prop} (hP : ∀ (r : Option Value) (A' : hs_A), (hJ 5 Bn Br A0 A' ∧ ∃ z : Int32, r = some (.int z) ∧ (z.toInt = 1 ∧ (A'.1 367 10).toInt = (A.1 367 10).toInt + 1)) → P r A') : hxa (d + 1) (some (.int)) hm_t143 0 [.ref 368, .int a1, .int a2, .int a3, .retAddr 0] [] A P := by
  have k0 := hk_0
  have k1 := hk_1
  have k10 := hk_10
  have k13 := hk_13
  have k15 := hk_15
  have k3 := hk_3
  have k4 := hk_4
  have k5 := hk_5
  have k6 := hk_6
  have k7 := hk_7
  have k8 := hk_8
  have k9 := hk_9
  have L85 : ∀ (x85_4 : Int32) (bx85_4 : 3 ≤ x85_4.toInt) (cx85_4 : x85_4.toInt ≤ 15), hxa (d + 1) (some (.int)) hm_t143 85 [.ref 368, .int a1, .int a2, .int a3, .int x85_4] [] A P := by
    intro x85_4 bx85_4 cx85_4
    refine hxa_iload_n (by rfl) rfl ?_
    refine hxa_bipush (by rfl) rfl ?_
    refine hxj_cne (by rfl) rfl hk_60 (fun q1 => ?_) (fun q1 => ?_)
    ·
      refine hxa_aload_n (by rfl) rfl ?_
      refine hxa_iload (by rfl) rfl ?_
      refine hxa_iload_n (by rfl) rfl ?_
      refine hxa_iconst (by rfl) rfl ?_
      refine hxa_lconst (by rfl) rfl ?_
      refine hxa_call0 (by rfl) (by rfl) (by rfl) (by rfl) (by rfl) (by rfl) (hX141q5 (d := d + 0) hA x85_4 (by omega) (by omega) a1 (Int32.ofNat 0) (by omega) (by omega) (Int64.ofNat 0) (by omega) (by omega)) ?_
      rintro _ A2 ⟨hA2, rfl, fA2⟩
      have fbA2_367_10 := hA2.f (i := 367) (k := 10) (by rfl)
      refine hxa_iconst (by rfl) rfl ?_
      exact hxa_ireturn (by rfl) rfl (hP _ _ ⟨hA2, _, rfl, by omega⟩)
    ·
      refine hxa_bipush (by rfl) rfl ?_
      refine hxa_s1 (by rfl) (Or.inr ⟨_, rfl, rfl⟩) rfl ?_
      refine hxa_aload_n (by rfl) rfl ?_
      refine hxa_iload (by rfl) rfl ?_
      refine hxa_iload_n (by rfl) rfl ?_
      refine hxa_iconst (by rfl) rfl ?_
      refine hxa_lconst (by rfl) rfl ?_
      refine hxa_call0 (by rfl) (by rfl) (by rfl) (by rfl) (by rfl) (by rfl) (hX141q5 (d := d + 0) hA (Int32.ofNat 13) (by omega) (by omega) a1 (Int32.ofNat 0) (by omega) (by omega) (Int64.ofNat 0) (by omega) (by omega)) ?_
      rintro _ A3 ⟨hA3, rfl, fA3⟩
      have fbA3_367_10 := hA3.f (i := 367) (k := 10) (by rfl)
      refine hxa_iconst (by rfl) rfl ?_
      exact hxa_ireturn (by rfl) rfl (hP _ _ ⟨hA3, _, rfl, by omega⟩)
  have L55 : ∀ (x55_4 : Int32) (bx55_4 : 3 ≤ x55_4.toInt) (cx55_4 : x55_4.toInt ≤ 8), hxa (d + 1) (some (.int)) hm_t143 55 [.ref 368, .int a1, .int a2, .int a3, .int x55_4] [] A P := by
    intro x55_4 bx55_4 cx55_4
    refine hxa_iload_n (by rfl) rfl ?_
    refine hxa_bipush (by rfl) rfl ?_
    refine hxj_cne (by rfl) rfl hk_45 (fun q4 => ?_) (fun q4 => ?_)
    ·
      refine hxa_iload_n (by rfl) rfl ?_
      refine hxa_bipush (by rfl) rfl ?_
      refine hxj_cne (by rfl) rfl hk_42 (fun q5 => ?_) (fun q5 => ?_)
      ·
        refine hxa_iload_n (by rfl) rfl ?_
        refine hxa_bipush (by rfl) rfl ?_
        refine hxj_cne (by rfl) rfl hk_47 (fun q6 => ?_) (fun q6 => ?_)
        ·
          exact L85 x55_4 (by omega) (by omega)
        ·
          refine hxa_bipush (by rfl) rfl ?_
          refine hxa_s1 (by rfl) (Or.inr ⟨_, rfl, rfl⟩) rfl ?_
          exact L85 (Int32.ofNat 15) (by omega) (by omega)
      ·
        refine hxa_bipush (by rfl) rfl ?_
        refine hxa_s1 (by rfl) (Or.inr ⟨_, rfl, rfl⟩) rfl ?_
        refine hxa_iload_n (by rfl) rfl ?_
        refine hxa_bipush (by rfl) rfl ?_
        refine hxj_cne (by rfl) rfl hk_47 (fun q7 => ?_) (fun q7 => False.elim (by omega))
        exact L85 (Int32.ofNat 10) (by omega) (by omega)
    ·
      refine hxa_bipush (by rfl) rfl ?_
      refine hxa_s1 (by rfl) (Or.inr ⟨_, rfl, rfl⟩) rfl ?_
      refine hxa_iload_n (by rfl) rfl ?_
      refine hxa_bipush (by rfl) rfl ?_
      refine hxj_cne (by rfl) rfl hk_42 (fun q8 => ?_) (fun q8 => False.elim (by omega))
      refine hxa_iload_n (by rfl) rfl ?_
      refine hxa_bipush (by rfl) rfl ?_
      refine hxj_cne (by rfl) rfl hk_47 (fun q9 => ?_) (fun q9 => False.elim (by omega))
      exact L85 (Int32.ofNat 9) (by omega) (by omega)
  refine hxa_iload_n (by rfl) rfl ?_
  refine hxa_bipush (by rfl) rfl ?_
  refine hxj_cne (by rfl) rfl hk_59 (fun q10 => ?_) (fun q10 => ?_)
  ·
    refine hxa_iload_n (by rfl) rfl ?_
    refine hxa_bipush (by rfl) rfl ?_
    refine hxj_cne (by rfl) rfl hk_61 (fun q11 => ?_) (fun q11 => ?_)
    ·
      refine hxa_iload_n (by rfl) rfl ?_
      refine hxa_bipush (by rfl) rfl ?_
      refine hxj_cne (by rfl) rfl hk_40 (fun q12 => ?_) (fun q12 => ?_)
      ·
        refine hxa_iload_n (by rfl) rfl ?_
        refine hxa_bipush (by rfl) rfl ?_
        refine hxj_cne (by rfl) rfl hk_41 (fun q13 => ?_) (fun q13 => ?_)
        ·
          refine hxa_iconst (by rfl) rfl ?_
          refine hxa_s1 (by rfl) (Or.inr ⟨_, rfl, rfl⟩) rfl ?_
          refine hxa_iload_n (by rfl) rfl ?_
          refine hxa_bipush (by rfl) rfl ?_
          refine hxj_cne (by rfl) rfl hk_43 (fun q14 => ?_) (fun q14 => ?_)
          ·
            exact L55 (Int32.ofNat 3) (by omega) (by omega)
          ·
            refine hxa_bipush (by rfl) rfl ?_
            refine hxa_s1 (by rfl) (Or.inr ⟨_, rfl, rfl⟩) rfl ?_
            exact L55 (Int32.ofNat 8) (by omega) (by omega)
        ·
          refine hxa_bipush (by rfl) rfl ?_
          refine hxa_goto (by rfl) ?_
          refine hxa_s1 (by rfl) (Or.inr ⟨_, rfl, rfl⟩) rfl ?_
          refine hxa_iload_n (by rfl) rfl ?_
          refine hxa_bipush (by rfl) rfl ?_
          refine hxj_cne (by rfl) rfl hk_43 (fun q15 => ?_) (fun q15 => False.elim (by omega))
          exact L55 (Int32.ofNat 7) (by omega) (by omega)
      ·
        refine hxa_bipush (by rfl) rfl ?_
        refine hxa_goto (by rfl) ?_
        refine hxa_s1 (by rfl) (Or.inr ⟨_, rfl, rfl⟩) rfl ?_
        refine hxa_iload_n (by rfl) rfl ?_
        refine hxa_bipush (by rfl) rfl ?_
        refine hxj_cne (by rfl) rfl hk_43 (fun q16 => ?_) (fun q16 => False.elim (by omega))
        exact L55 (Int32.ofNat 6) (by omega) (by omega)
    ·
      refine hxa_iconst (by rfl) rfl ?_
      refine hxa_goto (by rfl) ?_
      refine hxa_s1 (by rfl) (Or.inr ⟨_, rfl, rfl⟩) rfl ?_
      refine hxa_iload_n (by rfl) rfl ?_
      refine hxa_bipush (by rfl) rfl ?_
      refine hxj_cne (by rfl) rfl hk_43 (fun q17 => ?_) (fun q17 => False.elim (by omega))
      exact L55 (Int32.ofNat 5) (by omega) (by omega)
  ·
    refine hxa_iconst (by rfl) rfl ?_
    refine hxa_goto (by rfl) ?_
    refine hxa_s1 (by rfl) (Or.inr ⟨_, rfl, rfl⟩) rfl ?_
    refine hxa_iload_n (by rfl) rfl ?_
    refine hxa_bipush (by rfl) rfl ?_
    refine hxj_cne (by rfl) rfl hk_43 (fun q18 => ?_) (fun q18 => False.elim (by omega))
    exact L55 (Int32.ofNat 4) (by omega) (by omega)
theorem hX143q5 {d : Nat} {Bn Br : Int} {A0 A : hs_A} (hA : hJ 5 Bn Br A0 A)  (a1 : Int32) (a2 : Int32) (a3 : Int32) (fl0 : 0 ≤ (A.1 367 10).toInt) (fh0 : (A.1 367 10).toInt ≤ 401) : hxC (d + 2) 143 hm_m143 [.ref 368, .int a1, .int a2, .int a3] A (fun r A' => hJ 5 Bn Br A0 A' ∧ ∃ z : Int32, r = some (.int z) ∧ (z.toInt = 1 ∧ (A'.1 367 10).toInt = (A.1 367 10).toInt + 1)) := hxC.of (by rfl) (hY143q5 hA a1 a2 a3 fl0 fh0 (fun r A' h => h))
theorem hY142q5 {d : Nat} {Bn Br : Int} {A0 A : hs_A} (hA : hJ 5 Bn Br A0 A)   {P : Option Value → hs_A → Prop} (hP : ∀ (r : Option Value) (A' : hs_A), (hJ 5 Bn Br A0 A' ∧ r = none) → P r A') : hxa (d + 2) none hm_t142 0 [.ref 368, .retAddr 0, .retAddr 0, .retAddr 0, .retAddr 0, .retAddr 0, .retAddr 0, .retAddr 0] [] A P := by
  have k0 := hk_0
  have k1 := hk_1
  have k2 := hk_2
  have k3 := hk_3
  have L7 : ∀ (m7 : Nat) (w7_0 : Int32) (x7_1 : Int32) (x7_2 : Value) (x7_3 : Value) (x7_4 : Value) (x7_5 : Value) (x7_6 : Value) (x7_7 : Value) (Ac7 : hs_A) (hx7_2 : hc_two (some x7_2) = false) (hx7_3 : hc_two (some x7_3) = false) (hx7_5 : hc_two (some x7_5) = false) (hx7_6 : hc_two (some x7_6) = false) (hAc7 : hJ 5 Bn Br A0 Ac7) (ek7_0 : Ac7.1 367 10 = w7_0) (bx7_1 : 0 ≤ x7_1.toInt) (cx7_1 : x7_1.toInt ≤ 2000) (bw7_0 : 0 ≤ w7_0.toInt) (cw7_0 : w7_0.toInt ≤ 402) (hm7 : (402 - w7_0.toInt) * 3000 + (2001 - x7_1.toInt) < (m7 : Int)), hxa (d + 2) none hm_t142 7 [.ref 368, .int x7_1, x7_2, x7_3, x7_4, x7_5, x7_6, x7_7] [] Ac7 P := by
    intro m7
    induction m7 with
    | zero => intro w7_0 x7_1 x7_2 x7_3 x7_4 x7_5 x7_6 x7_7 Ac7 hx7_2 hx7_3 hx7_5 hx7_6 hAc7 ek7_0 bx7_1 cx7_1 bw7_0 cw7_0 hm7;  exact False.elim (by omega)
    | succ m7 ih7 =>
      intro w7_0 x7_1 x7_2 x7_3 x7_4 x7_5 x7_6 x7_7 Ac7 hx7_2 hx7_3 hx7_5 hx7_6 hAc7 ek7_0 bx7_1 cx7_1 bw7_0 cw7_0 hm7
      have tk7_0 : (Ac7.1 367 10).toInt = w7_0.toInt := congrArg Int32.toInt ek7_0
      have L208 : ∀ (m208 : Nat) (x208_2 : Int32) (x208_3 : Int32) (x208_4 : Int32) (bx208_2 : 48 ≤ x208_2.toInt) (cx208_2 : x208_2.toInt ≤ 57) (bx208_3 : 0 ≤ x208_3.toInt) (cx208_3 : x208_3.toInt ≤ 2000) (bx208_4 : 0 ≤ x208_4.toInt) (cx208_4 : x208_4.toInt ≤ 9999) (cx7_1 : x7_1.toInt ≤ 1999) (cw7_0 : w7_0.toInt ≤ 400) (u208_0 : x7_1.toInt + x208_3.toInt ≤ 2000) (u208_1 : (x208_3.toInt = 0 ∧ x208_4.toInt = 0) ∨ (x208_3.toInt = 1 ∧ x208_4.toInt ≤ 9) ∨ (x208_3.toInt = 2 ∧ x208_4.toInt ≤ 99) ∨ (x208_3.toInt = 3 ∧ x208_4.toInt ≤ 999) ∨ 4 ≤ x208_3.toInt) (hm208 : 2000 - x208_3.toInt < (m208 : Int)), hxa (d + 2) none hm_t142 208 [.ref 368, .int x7_1, .int x208_2, .int x208_3, .int x208_4, x7_5, x7_6, x7_7] [] Ac7 P := by
        intro m208
        induction m208 with
        | zero => intro x208_2 x208_3 x208_4 bx208_2 cx208_2 bx208_3 cx208_3 bx208_4 cx208_4 cx7_1 cw7_0 u208_0 u208_1 hm208;  exact False.elim (by omega)
        | succ m208 ih208 =>
          intro x208_2 x208_3 x208_4 bx208_2 cx208_2 bx208_3 cx208_3 bx208_4 cx208_4 cx7_1 cw7_0 u208_0 u208_1 hm208
          refine hxa_aload_n (by rfl) rfl ?_
          refine hxa_iload_n (by rfl) rfl ?_
          refine hxa_iload_n (by rfl) rfl ?_
          refine hxj_iadd (by rfl) rfl rfl (by omega) (by omega) (fun z1 ez1 => ?_)
          refine hxa_call0 (by rfl) (by rfl) (by rfl) (by rfl) (by rfl) (by rfl) (hX136q5 (d := d + 1) hAc7 z1 (by omega)) ?_
          rintro _ _ ⟨rfl, z2, rfl, fz2⟩
          refine hxa_call2 (by rfl) (by decide) (by rfl) (by rfl) (by rfl) (hX137 (d := d + 1)  z2) ?_
          rintro _ _ ⟨rfl, z3, rfl, fz3⟩
          rcases fz3 with fz3 | fz3
          ·
            refine hxj_zeq (by rfl) rfl (fun q4 => False.elim (by omega)) (fun q4 => ?_)
            refine hxa_iload_n (by rfl) rfl ?_
            refine hxa_iconst (by rfl) rfl ?_
            refine hxj_cge (by rfl) rfl hk_4 (fun q5 => ?_) (fun q5 => ?_)
            ·
              refine hxj_iinc (by rfl) rfl rfl hk_1 (by omega) (by omega) (fun _ => rfl) (fun z6 ez6 => ?_)
              refine hxa_goto (by rfl) ?_
              exact ih208 x208_2 z6 x208_4 (by omega) (by omega) (by omega) (by omega) (by omega) (by omega) (by omega) (by omega) (by omega) (by omega) (by omega)
            ·
              refine hxa_bipush (by rfl) rfl ?_
              refine hxa_iload (by rfl) rfl ?_
              refine hxj_imul (by rfl) hk_10 rfl (by omega) (by omega) (fun z7 ez7 => ?_)
              refine hxa_aload_n (by rfl) rfl ?_
              refine hxa_iload_n (by rfl) rfl ?_
              refine hxa_iload_n (by rfl) rfl ?_
              refine hxj_iadd (by rfl) rfl rfl (by omega) (by omega) (fun z8 ez8 => ?_)
              refine hxa_call0 (by rfl) (by rfl) (by rfl) (by rfl) (by rfl) (by rfl) (hX136q5 (d := d + 1) hAc7 z8 (by omega)) ?_
              rintro _ _ ⟨rfl, z9, rfl, fz9⟩
              have sb : z9.toInt = z2.toInt := by rw [fz9.1, fz2.1]; exact congrArg Int32.toInt (hby_c (by omega))
              refine hxj_iadd (by rfl) rfl rfl (by omega) (by omega) (fun z10 ez10 => ?_)
              refine hxa_bipush (by rfl) rfl ?_
              refine hxj_isub (by rfl) rfl hk_48 (by omega) (by omega) (fun z11 ez11 => ?_)
              refine hxa_s1 (by rfl) (Or.inr ⟨_, rfl, rfl⟩) rfl ?_
              refine hxj_iinc (by rfl) rfl rfl hk_1 (by omega) (by omega) (fun _ => rfl) (fun z12 ez12 => ?_)
              refine hxa_goto (by rfl) ?_
              exact ih208 x208_2 z12 z11 (by omega) (by omega) (by omega) (by omega) (by omega) (by omega) (by omega) (by omega) (by omega) (by omega) (by omega)
          ·
            refine hxj_zeq (by rfl) rfl (fun q13 => ?_) (fun q13 => False.elim (by omega))
            refine hxa_aload_n (by rfl) rfl ?_
            refine hxa_iload_n (by rfl) rfl ?_
            refine hxa_iconst (by rfl) rfl ?_
            refine hxj_cle (by rfl) rfl hk_4 (fun q14 => ?_) (fun q14 => ?_)
            ·
              refine hxa_iconst (by rfl) rfl ?_
              refine hxa_iload_n (by rfl) rfl ?_
              refine hxa_iload (by rfl) rfl ?_
              refine hxa_lconst (by rfl) rfl ?_
              refine hxa_call0 (by rfl) (by rfl) (by rfl) (by rfl) (by rfl) (by rfl) (hX141q5 (d := d + 1) hAc7 (Int32.ofNat 2) (by omega) (by omega) x7_1 x208_4 (by omega) (by omega) (Int64.ofNat 0) (by rw [(show Ac7.1 367 10 = w7_0 from ek7_0)]; omega) (by rw [(show Ac7.1 367 10 = w7_0 from ek7_0)]; omega)) ?_
              rintro _ A15 ⟨hA15, rfl, fA15⟩
              have fbA15_367_10 := hA15.f (i := 367) (k := 10) (by rfl)
              refine hxa_iload_n (by rfl) rfl ?_
              refine hxa_iload_n (by rfl) rfl ?_
              refine hxj_iadd (by rfl) rfl rfl (by omega) (by omega) (fun z16 ez16 => ?_)
              refine hxa_s1 (by rfl) (Or.inl ⟨_, rfl, rfl⟩) rfl ?_
              refine hxa_goto (by rfl) ?_
              refine hxa_goto (by rfl) ?_
              exact ih7 (A15.1 367 10) z16 (.int x208_2) (.int x208_3) (.int x208_4) (x7_5) (x7_6) (x7_7) A15 rfl rfl hx7_5 hx7_6 hA15 rfl (by omega) (by omega) (by omega) (by omega) (by omega)
            ·
              refine hxa_iconst (by rfl) rfl ?_
              refine hxa_goto (by rfl) ?_
              refine hxa_iload_n (by rfl) rfl ?_
              refine hxa_iload (by rfl) rfl ?_
              refine hxa_lconst (by rfl) rfl ?_
              refine hxa_call0 (by rfl) (by rfl) (by rfl) (by rfl) (by rfl) (by rfl) (hX141q5 (d := d + 1) hAc7 (Int32.ofNat 3) (by omega) (by omega) x7_1 x208_4 (by omega) (by omega) (Int64.ofNat 0) (by rw [(show Ac7.1 367 10 = w7_0 from ek7_0)]; omega) (by rw [(show Ac7.1 367 10 = w7_0 from ek7_0)]; omega)) ?_
              rintro _ A17 ⟨hA17, rfl, fA17⟩
              have fbA17_367_10 := hA17.f (i := 367) (k := 10) (by rfl)
              refine hxa_iload_n (by rfl) rfl ?_
              refine hxa_iload_n (by rfl) rfl ?_
              refine hxj_iadd (by rfl) rfl rfl (by omega) (by omega) (fun z18 ez18 => ?_)
              refine hxa_s1 (by rfl) (Or.inl ⟨_, rfl, rfl⟩) rfl ?_
              refine hxa_goto (by rfl) ?_
              refine hxa_goto (by rfl) ?_
              exact ih7 (A17.1 367 10) z18 (.int x208_2) (.int x208_3) (.int x208_4) (x7_5) (x7_6) (x7_7) A17 rfl rfl hx7_5 hx7_6 hA17 rfl (by omega) (by omega) (by omega) (by omega) (by omega)
      have L146 : ∀ (m146 : Nat) (x146_2 : Int32) (x146_3 : Int32) (x146_4 : Int64) (x146_6 : Int32) (x146_7 : Int32) (bx146_2 : 97 ≤ x146_2.toInt) (cx146_2 : x146_2.toInt ≤ 122) (bx146_3 : 0 ≤ x146_3.toInt) (cx146_3 : x146_3.toInt ≤ 8) (bx146_6 : 1 ≤ x146_6.toInt) (cx146_6 : x146_6.toInt ≤ 39) (bx146_7 : 0 ≤ x146_7.toInt) (cx146_7 : x146_7.toInt ≤ 20) (cx7_1 : x7_1.toInt ≤ 1999) (cw7_0 : w7_0.toInt ≤ 400) (u146_0 : x7_1.toInt + x146_3.toInt ≤ 2000) (hm146 : 20 - x146_7.toInt < (m146 : Int)), hxa (d + 2) none hm_t142 146 [.ref 368, .int x7_1, .int x146_2, .int x146_3, .long x146_4, .double 0, .int x146_6, .int x146_7] [] Ac7 P := by
        intro m146
        induction m146 with
        | zero => intro x146_2 x146_3 x146_4 x146_6 x146_7 bx146_2 cx146_2 bx146_3 cx146_3 bx146_6 cx146_6 bx146_7 cx146_7 cx7_1 cw7_0 u146_0 hm146;  exact False.elim (by omega)
        | succ m146 ih146 =>
          intro x146_2 x146_3 x146_4 x146_6 x146_7 bx146_2 cx146_2 bx146_3 cx146_3 bx146_6 cx146_6 bx146_7 cx146_7 cx7_1 cw7_0 u146_0 hm146
          refine hxa_iload (by rfl) rfl ?_
          refine hxa_bipush (by rfl) rfl ?_
          refine hxj_cge (by rfl) rfl hk_20 (fun q19 => ?_) (fun q19 => ?_)
          ·
            refine hxa_aload_n (by rfl) rfl ?_
            refine hxa_iload (by rfl) rfl ?_
            refine hxa_iload_n (by rfl) rfl ?_
            refine hxa_iconst (by rfl) rfl ?_
            refine hxa_lload (by rfl) rfl ?_
            refine hxa_call0 (by rfl) (by rfl) (by rfl) (by rfl) (by rfl) (by rfl) (hX141q5 (d := d + 1) hAc7 x146_6 (by omega) (by omega) x7_1 (Int32.ofNat 0) (by omega) (by omega) x146_4 (by rw [(show Ac7.1 367 10 = w7_0 from ek7_0)]; omega) (by rw [(show Ac7.1 367 10 = w7_0 from ek7_0)]; omega)) ?_
            rintro _ A20 ⟨hA20, rfl, fA20⟩
            have fbA20_367_10 := hA20.f (i := 367) (k := 10) (by rfl)
            refine hxa_iload_n (by rfl) rfl ?_
            refine hxa_iload_n (by rfl) rfl ?_
            refine hxj_iadd (by rfl) rfl rfl (by omega) (by omega) (fun z21 ez21 => ?_)
            refine hxa_s1 (by rfl) (Or.inl ⟨_, rfl, rfl⟩) rfl ?_
            refine hxa_goto (by rfl) ?_
            refine hxa_goto (by rfl) ?_
            exact ih7 (A20.1 367 10) z21 (.int x146_2) (.int x146_3) (.long x146_4) (.double 0) (.int x146_6) (.int x146_7) A20 rfl rfl rfl rfl hA20 rfl (by omega) (by omega) (by omega) (by omega) (by omega)
          ·
            refine hxa_aload_n (by rfl) rfl ?_
            refine hxa_get (v := .ref 375) (by rfl) (by rfl) (by rfl) rfl ?_
            refine hxa_iload (by rfl) rfl ?_
            refine hxj_lald (by rfl) (by rfl) rfl (by omega) (by omega) (fun j22 ej22 => ?_)
            refine hxa_lload (by rfl) rfl ?_
            refine hxa_lcmp (by rfl) (hn_top (fun z23 _ => ?_))
            refine hxj_zne (by rfl) rfl (fun q24 => ?_) (fun q24 => ?_)
            ·
              refine hxj_iinc (by rfl) rfl rfl hk_1 (by omega) (by omega) (fun _ => rfl) (fun z25 ez25 => ?_)
              refine hxa_goto (by rfl) ?_
              exact ih146 x146_2 x146_3 x146_4 x146_6 z25 (by omega) (by omega) (by omega) (by omega) (by omega) (by omega) (by omega) (by omega) (by omega) (by omega) (by omega) (by omega)
            ·
              refine hxa_bipush (by rfl) rfl ?_
              refine hxa_iload (by rfl) rfl ?_
              refine hxj_iadd (by rfl) hk_20 rfl (by omega) (by omega) (fun z26 ez26 => ?_)
              refine hxa_s1 (by rfl) (Or.inr ⟨_, rfl, rfl⟩) rfl ?_
              refine hxj_iinc (by rfl) rfl rfl hk_1 (by omega) (by omega) (fun _ => rfl) (fun z27 ez27 => ?_)
              refine hxa_goto (by rfl) ?_
              exact ih146 x146_2 x146_3 x146_4 z26 z27 (by omega) (by omega) (by omega) (by omega) (by omega) (by omega) (by omega) (by omega) (by omega) (by omega) (by omega) (by omega)
      have L135 : ∀ (x135_2 : Int32) (x135_3 : Int32) (x135_4 : Int64) (y135_0 : Int32) (bx135_2 : 97 ≤ x135_2.toInt) (cx135_2 : x135_2.toInt ≤ 122) (bx135_3 : 0 ≤ x135_3.toInt) (cx135_3 : x135_3.toInt ≤ 2000) (by135_0 : 1 ≤ y135_0.toInt) (cy135_0 : y135_0.toInt ≤ 3) (cx7_1 : x7_1.toInt ≤ 1999) (cw7_0 : w7_0.toInt ≤ 400) (u135_0 : x7_1.toInt + x135_3.toInt ≤ 2000), hxa (d + 2) none hm_t142 135 [.ref 368, .int x7_1, .int x135_2, .int x135_3, .long x135_4, .double 0, x7_6, x7_7] [.int y135_0] Ac7 P := by
        intro x135_2 x135_3 x135_4 y135_0 bx135_2 cx135_2 bx135_3 cx135_3 by135_0 cy135_0 cx7_1 cw7_0 u135_0
        refine hxa_s1 (by rfl) (Or.inr ⟨_, rfl, rfl⟩) rfl ?_
        refine hxa_iload_n (by rfl) rfl ?_
        refine hxa_bipush (by rfl) rfl ?_
        refine hxj_cgt (by rfl) rfl hk_8 (fun q28 => ?_) (fun q28 => ?_)
        ·
          refine hxa_aload_n (by rfl) rfl ?_
          refine hxa_iload (by rfl) rfl ?_
          refine hxa_iload_n (by rfl) rfl ?_
          refine hxa_iconst (by rfl) rfl ?_
          refine hxa_lload (by rfl) rfl ?_
          refine hxa_call0 (by rfl) (by rfl) (by rfl) (by rfl) (by rfl) (by rfl) (hX141q5 (d := d + 1) hAc7 y135_0 (by omega) (by omega) x7_1 (Int32.ofNat 0) (by omega) (by omega) x135_4 (by rw [(show Ac7.1 367 10 = w7_0 from ek7_0)]; omega) (by rw [(show Ac7.1 367 10 = w7_0 from ek7_0)]; omega)) ?_
          rintro _ A29 ⟨hA29, rfl, fA29⟩
          have fbA29_367_10 := hA29.f (i := 367) (k := 10) (by rfl)
          refine hxa_iload_n (by rfl) rfl ?_
          refine hxa_iload_n (by rfl) rfl ?_
          refine hxj_iadd (by rfl) rfl rfl (by omega) (by omega) (fun z30 ez30 => ?_)
          refine hxa_s1 (by rfl) (Or.inl ⟨_, rfl, rfl⟩) rfl ?_
          refine hxa_goto (by rfl) ?_
          refine hxa_goto (by rfl) ?_
          exact ih7 (A29.1 367 10) z30 (.int x135_2) (.int x135_3) (.long x135_4) (.double 0) (.int y135_0) (x7_7) A29 rfl rfl rfl rfl hA29 rfl (by omega) (by omega) (by omega) (by omega) (by omega)
        ·
          refine hxa_iconst (by rfl) rfl ?_
          refine hxa_s1 (by rfl) (Or.inr ⟨_, rfl, rfl⟩) rfl ?_
          exact L146 (Int.toNat (20 - 0) + 1) x135_2 x135_3 x135_4 y135_0 (Int32.ofNat 0) (by omega) (by omega) (by omega) (by omega) (by omega) (by omega) (by omega) (by omega) (by omega) (by omega) (by omega) (by omega)
      have L85 : ∀ (m85 : Nat) (x85_2 : Int32) (x85_3 : Int32) (x85_4 : Int64) (bx85_2 : 97 ≤ x85_2.toInt) (cx85_2 : x85_2.toInt ≤ 122) (bx85_3 : 0 ≤ x85_3.toInt) (cx85_3 : x85_3.toInt ≤ 2000) (cx7_1 : x7_1.toInt ≤ 1999) (cw7_0 : w7_0.toInt ≤ 400) (u85_0 : x7_1.toInt + x85_3.toInt ≤ 2000) (hm85 : 2000 - x85_3.toInt < (m85 : Int)), hxa (d + 2) none hm_t142 85 [.ref 368, .int x7_1, .int x85_2, .int x85_3, .long x85_4, .double 0, x7_6, x7_7] [] Ac7 P := by
        intro m85
        induction m85 with
        | zero => intro x85_2 x85_3 x85_4 bx85_2 cx85_2 bx85_3 cx85_3 cx7_1 cw7_0 u85_0 hm85;  exact False.elim (by omega)
        | succ m85 ih85 =>
          intro x85_2 x85_3 x85_4 bx85_2 cx85_2 bx85_3 cx85_3 cx7_1 cw7_0 u85_0 hm85
          refine hxa_aload_n (by rfl) rfl ?_
          refine hxa_iload_n (by rfl) rfl ?_
          refine hxa_iload_n (by rfl) rfl ?_
          refine hxj_iadd (by rfl) rfl rfl (by omega) (by omega) (fun z31 ez31 => ?_)
          refine hxa_call0 (by rfl) (by rfl) (by rfl) (by rfl) (by rfl) (by rfl) (hX136q5 (d := d + 1) hAc7 z31 (by omega)) ?_
          rintro _ _ ⟨rfl, z32, rfl, fz32⟩
          refine hxa_call2 (by rfl) (by decide) (by rfl) (by rfl) (by rfl) (hX138 (d := d + 1)  z32) ?_
          rintro _ _ ⟨rfl, z33, rfl, fz33⟩
          rcases fz33 with fz33 | fz33
          ·
            refine hxj_zeq (by rfl) rfl (fun q34 => False.elim (by omega)) (fun q34 => ?_)
            refine hxa_iload_n (by rfl) rfl ?_
            refine hxa_bipush (by rfl) rfl ?_
            refine hxj_cge (by rfl) rfl hk_8 (fun q35 => ?_) (fun q35 => ?_)
            ·
              refine hxj_iinc (by rfl) rfl rfl hk_1 (by omega) (by omega) (fun _ => rfl) (fun z36 ez36 => ?_)
              refine hxa_goto (by rfl) ?_
              exact ih85 x85_2 z36 x85_4 (by omega) (by omega) (by omega) (by omega) (by omega) (by omega) (by omega) (by omega)
            ·
              refine hxa_lload (by rfl) rfl ?_
              refine hxa_aload_n (by rfl) rfl ?_
              refine hxa_iload_n (by rfl) rfl ?_
              refine hxa_iload_n (by rfl) rfl ?_
              refine hxj_iadd (by rfl) rfl rfl (by omega) (by omega) (fun z37 ez37 => ?_)
              refine hxa_call0 (by rfl) (by rfl) (by rfl) (by rfl) (by rfl) (by rfl) (hX136q5 (d := d + 1) hAc7 z37 (by omega)) ?_
              rintro _ _ ⟨rfl, z38, rfl, fz38⟩
              refine hxa_call2 (by rfl) (by decide) (by rfl) (by rfl) (by rfl) (hX139 (d := d + 1)  x85_4 z38) ?_
              rintro _ _ ⟨rfl, j39, rfl⟩
              refine hxa_lstore (by rfl) rfl ?_
              refine hxj_iinc (by rfl) rfl rfl hk_1 (by omega) (by omega) (fun _ => rfl) (fun z40 ez40 => ?_)
              refine hxa_goto (by rfl) ?_
              exact ih85 x85_2 z40 j39 (by omega) (by omega) (by omega) (by omega) (by omega) (by omega) (by omega) (by omega)
          ·
            refine hxj_zeq (by rfl) rfl (fun q41 => ?_) (fun q41 => False.elim (by omega))
            refine hxa_iload_n (by rfl) rfl ?_
            refine hxa_bipush (by rfl) rfl ?_
            refine hxj_cle (by rfl) rfl hk_8 (fun q42 => ?_) (fun q42 => ?_)
            ·
              refine hxa_iconst (by rfl) rfl ?_
              exact L135 x85_2 x85_3 x85_4 (Int32.ofNat 1) (by omega) (by omega) (by omega) (by omega) (by omega) (by omega) (by omega) (by omega) (by omega)
            ·
              refine hxa_iconst (by rfl) rfl ?_
              refine hxa_goto (by rfl) ?_
              exact L135 x85_2 x85_3 x85_4 (Int32.ofNat 3) (by omega) (by omega) (by omega) (by omega) (by omega) (by omega) (by omega) (by omega) (by omega)
      refine hxa_aload_n (by rfl) rfl ?_
      refine hxj_getK (by rfl) (by rfl) (by rfl) ek7_0 ?_
      refine hxa_sipush (by rfl) rfl ?_
      refine hxj_cgt (by rfl) rfl hk_400 (fun q43 => ?_) (fun q43 => ?_)
      ·
        exact hxa_return (by rfl) rfl (hP _ _ ⟨hAc7, rfl⟩)
      ·
        refine hxa_aload_n (by rfl) rfl ?_
        refine hxa_iload_n (by rfl) rfl ?_
        refine hxa_call0 (by rfl) (by rfl) (by rfl) (by rfl) (by rfl) (by rfl) (hX136q5 (d := d + 1) hAc7 x7_1 (by omega)) ?_
        rintro _ _ ⟨rfl, z44, rfl, fz44⟩
        refine hxa_s1 (by rfl) (Or.inl ⟨_, rfl, rfl⟩) rfl ?_
        refine hxa_iload_n (by rfl) rfl ?_
        refine hxa_aload_n (by rfl) rfl ?_
        refine hxj_getB (by rfl) (by rfl) (by rfl) hAc7 (by rfl) (fun z45 ez45 fz45 gz45 => ?_)
        refine hxj_clt (by rfl) rfl rfl (fun q46 => ?_) (fun q46 => ?_)
        ·
          refine hxa_iload_n (by rfl) rfl ?_
          refine hxa_bipush (by rfl) rfl ?_
          refine hxj_ceq (by rfl) rfl hk_9 (fun q47 => ?_) (fun q47 => ?_)
          ·
            refine hxj_iinc (by rfl) rfl rfl hk_1 (by omega) (by omega) (fun _ => rfl) (fun z48 ez48 => ?_)
            refine hxa_goto (by rfl) ?_
            refine hxa_goto (by rfl) ?_
            exact ih7 w7_0 z48 (.int z44) (x7_3) (x7_4) (x7_5) (x7_6) (x7_7) Ac7 rfl hx7_3 hx7_5 hx7_6 hAc7 ek7_0 (by omega) (by omega) (by omega) (by omega) (by omega)
          ·
            refine hxa_iload_n (by rfl) rfl ?_
            refine hxa_bipush (by rfl) rfl ?_
            refine hxj_ceq (by rfl) rfl hk_10 (fun q49 => ?_) (fun q49 => ?_)
            ·
              refine hxj_iinc (by rfl) rfl rfl hk_1 (by omega) (by omega) (fun _ => rfl) (fun z50 ez50 => ?_)
              refine hxa_goto (by rfl) ?_
              refine hxa_goto (by rfl) ?_
              exact ih7 w7_0 z50 (.int z44) (x7_3) (x7_4) (x7_5) (x7_6) (x7_7) Ac7 rfl hx7_3 hx7_5 hx7_6 hAc7 ek7_0 (by omega) (by omega) (by omega) (by omega) (by omega)
            ·
              refine hxa_iload_n (by rfl) rfl ?_
              refine hxa_bipush (by rfl) rfl ?_
              refine hxj_ceq (by rfl) rfl hk_13 (fun q51 => ?_) (fun q51 => ?_)
              ·
                refine hxj_iinc (by rfl) rfl rfl hk_1 (by omega) (by omega) (fun _ => rfl) (fun z52 ez52 => ?_)
                refine hxa_goto (by rfl) ?_
                refine hxa_goto (by rfl) ?_
                exact ih7 w7_0 z52 (.int z44) (x7_3) (x7_4) (x7_5) (x7_6) (x7_7) Ac7 rfl hx7_3 hx7_5 hx7_6 hAc7 ek7_0 (by omega) (by omega) (by omega) (by omega) (by omega)
              ·
                refine hxa_iload_n (by rfl) rfl ?_
                refine hxa_bipush (by rfl) rfl ?_
                refine hxj_cne (by rfl) rfl hk_32 (fun q53 => ?_) (fun q53 => ?_)
                ·
                  refine hxa_iload_n (by rfl) rfl ?_
                  refine hxa_call2 (by rfl) (by decide) (by rfl) (by rfl) (by rfl) (hX138 (d := d + 1)  z44) ?_
                  rintro _ _ ⟨rfl, z54, rfl, fz54⟩
                  rcases fz54 with fz54 | fz54
                  ·
                    refine hxj_zeq (by rfl) rfl (fun q55 => False.elim (by omega)) (fun q55 => ?_)
                    refine hxa_iconst (by rfl) rfl ?_
                    refine hxa_s1 (by rfl) (Or.inl ⟨_, rfl, rfl⟩) rfl ?_
                    refine hxa_lconst (by rfl) rfl ?_
                    refine hxa_lstore (by rfl) rfl ?_
                    exact L85 (Int.toNat (2000 - 0) + 1) z44 (Int32.ofNat 0) (Int64.ofNat 0) (by omega) (by omega) (by omega) (by omega) (by omega) (by omega) (by omega) (by omega)
                  ·
                    refine hxj_zeq (by rfl) rfl (fun q56 => ?_) (fun q56 => False.elim (by omega))
                    refine hxa_iload_n (by rfl) rfl ?_
                    refine hxa_call2 (by rfl) (by decide) (by rfl) (by rfl) (by rfl) (hX137 (d := d + 1)  z44) ?_
                    rintro _ _ ⟨rfl, z57, rfl, fz57⟩
                    rcases fz57 with fz57 | fz57
                    ·
                      refine hxj_zeq (by rfl) rfl (fun q58 => False.elim (by omega)) (fun q58 => ?_)
                      refine hxa_iconst (by rfl) rfl ?_
                      refine hxa_s1 (by rfl) (Or.inl ⟨_, rfl, rfl⟩) rfl ?_
                      refine hxa_iconst (by rfl) rfl ?_
                      refine hxa_s1 (by rfl) (Or.inr ⟨_, rfl, rfl⟩) rfl ?_
                      exact L208 (Int.toNat (2000 - 0) + 1) z44 (Int32.ofNat 0) (Int32.ofNat 0) (by omega) (by omega) (by omega) (by omega) (by omega) (by omega) (by omega) (by omega) (by omega) (by omega) (by omega)
                    ·
                      refine hxj_zeq (by rfl) rfl (fun q59 => ?_) (fun q59 => False.elim (by omega))
                      refine hxa_iload_n (by rfl) rfl ?_
                      refine hxa_aload_n (by rfl) rfl ?_
                      refine hxa_iload_n (by rfl) rfl ?_
                      refine hxa_iload_n (by rfl) rfl ?_
                      refine hxa_aload_n (by rfl) rfl ?_
                      refine hxa_iload_n (by rfl) rfl ?_
                      refine hxa_iconst (by rfl) rfl ?_
                      refine hxj_iadd (by rfl) rfl hk_1 (by omega) (by omega) (fun z60 ez60 => ?_)
                      refine hxa_call0 (by rfl) (by rfl) (by rfl) (by rfl) (by rfl) (by rfl) (hX136q5 (d := d + 1) hAc7 z60 (by omega)) ?_
                      rintro _ _ ⟨rfl, z61, rfl, fz61⟩
                      refine hxa_call0 (by rfl) (by rfl) (by rfl) (by rfl) (by rfl) (by rfl) (hX143q5 (d := d + 0) hAc7 x7_1 z44 z61 (by rw [(show Ac7.1 367 10 = w7_0 from ek7_0)]; omega) (by rw [(show Ac7.1 367 10 = w7_0 from ek7_0)]; omega)) ?_
                      rintro _ A62 ⟨hA62, z63, rfl, fz63⟩
                      have fbA62_367_10 := hA62.f (i := 367) (k := 10) (by rfl)
                      refine hxj_iadd (by rfl) rfl rfl (by omega) (by omega) (fun z64 ez64 => ?_)
                      refine hxa_s1 (by rfl) (Or.inl ⟨_, rfl, rfl⟩) rfl ?_
                      refine hxa_goto (by rfl) ?_
                      exact ih7 (A62.1 367 10) z64 (.int z44) (x7_3) (x7_4) (x7_5) (x7_6) (x7_7) A62 rfl hx7_3 hx7_5 hx7_6 hA62 rfl (by omega) (by omega) (by omega) (by omega) (by omega)
                ·
                  refine hxj_iinc (by rfl) rfl rfl hk_1 (by omega) (by omega) (fun _ => rfl) (fun z65 ez65 => ?_)
                  refine hxa_goto (by rfl) ?_
                  refine hxa_goto (by rfl) ?_
                  exact ih7 w7_0 z65 (.int z44) (x7_3) (x7_4) (x7_5) (x7_6) (x7_7) Ac7 rfl hx7_3 hx7_5 hx7_6 hAc7 ek7_0 (by omega) (by omega) (by omega) (by omega) (by omega)
        ·
          refine hxa_aload_n (by rfl) rfl ?_
          refine hxa_iconst (by rfl) rfl ?_
          refine hxa_aload_n (by rfl) rfl ?_
          refine hxj_getK (by rfl) (by rfl) (by rfl) ez45 ?_
          refine hxa_iconst (by rfl) rfl ?_
          refine hxa_lconst (by rfl) rfl ?_
          refine hxa_call0 (by rfl) (by rfl) (by rfl) (by rfl) (by rfl) (by rfl) (hX141q5 (d := d + 1) hAc7 (Int32.ofNat 0) (by omega) (by omega) z45 (Int32.ofNat 0) (by omega) (by omega) (Int64.ofNat 0) (by rw [(show Ac7.1 367 10 = w7_0 from ek7_0)]; omega) (by rw [(show Ac7.1 367 10 = w7_0 from ek7_0)]; omega)) ?_
          rintro _ A66 ⟨hA66, rfl, fA66⟩
          have fbA66_367_10 := hA66.f (i := 367) (k := 10) (by rfl)
          exact hxa_return (by rfl) rfl (hP _ _ ⟨hA66, rfl⟩)
  refine hxa_aload_n (by rfl) rfl ?_
  refine hxa_iconst (by rfl) rfl ?_
  refine hxj_putI (by rfl) (by rfl) (by rfl) (by rfl) hA (hbok (by rfl) hk_0 (by omega) (by omega)) (by rfl) (by rfl) (fun A67 hA67 eA67 fA67 => ?_)
  refine hxa_iconst (by rfl) rfl ?_
  refine hxa_s1 (by rfl) (Or.inl ⟨_, rfl, rfl⟩) rfl ?_
  exact L7 (Int.toNat ((402 - 0) * 3000 + (2001 - 0)) + 1) (Int32.ofNat 0) (Int32.ofNat 0) (.retAddr 0) (.retAddr 0) (.retAddr 0) (.retAddr 0) (.retAddr 0) (.retAddr 0) A67 rfl rfl rfl rfl hA67 (hkS eA67) (by omega) (by omega) (by omega) (by omega) (by omega)
theorem hX142q5 {d : Nat} {Bn Br : Int} {A0 A : hs_A} (hA : hJ 5 Bn Br A0 A)   : hxC (d + 3) 142 hm_m142 [.ref 368] A (fun r A' => hJ 5 Bn Br A0 A' ∧ r = none) := hxC.of (by rfl) (hY142q5 hA  (fun r A' h => h))
theorem hY149q5 {d : Nat} {Bn Br : Int} {A0 A : hs_A} (hA : hJ 5 Bn Br A0 A) (hl : (A0.1 367 18).toInt = 0) (a1 : Int32) (p1 : 1 ≤ a1.toInt) (q1 : a1.toInt ≤ 1) {P : Option Value → hs_A → Prop} (hP : ∀ (r : Option Value) (A' : hs_A), (hJ 5 Bn Br A0 A' ∧ A'.1 367 11 = A.1 367 11 ∧ A'.1 367 12 = A.1 367 12 ∧ A'.1 367 13 = A.1 367 13 ∧ A'.1 367 19 = A.1 367 19 ∧ A'.1 367 20 = A.1 367 20 ∧ A'.1 367 31 = A.1 367 31 ∧ A'.1 367 37 = A.1 367 37 ∧ A'.1 367 41 = A.1 367 41 ∧ r = none ∧ (A'.2.1 376 1 = Int32.ofNat 0 ∧ ∀ a : Nat, 4 ≤ (a : Int) → (a : Int) < 8 → (A'.2.1 383 a).toInt = (A'.2.1 384 a).toInt)) → P r A') : hxa (d + 0) none hm_t149 0 [.ref 368, .int a1, .retAddr 0] [] A P := by
  have k0 := hk_0
  have fb367_11 := hA.f (i := 367) (k := 11) (by rfl)
  have fb367_12 := hA.f (i := 367) (k := 12) (by rfl)
  have fb367_13 := hA.f (i := 367) (k := 13) (by rfl)
  have fb367_19 := hA.f (i := 367) (k := 19) (by rfl)
  have fb367_20 := hA.f (i := 367) (k := 20) (by rfl)
  have fb367_31 := hA.f (i := 367) (k := 31) (by rfl)
  have fb367_37 := hA.f (i := 367) (k := 37) (by rfl)
  have fb367_41 := hA.f (i := 367) (k := 41) (by rfl)
  have L57 : ∀ (m57 : Nat) (x57_2 : Int32) (Ac57 : hs_A) (hAc57 : hJ 5 Bn Br A0 Ac57) (ek57_0 : Ac57.1 367 11 = (A.1 367 11)) (ek57_1 : Ac57.1 367 12 = (A.1 367 12)) (ek57_2 : Ac57.1 367 13 = (A.1 367 13)) (ek57_3 : Ac57.1 367 19 = (A.1 367 19)) (ek57_4 : Ac57.1 367 20 = (A.1 367 20)) (ek57_5 : Ac57.1 367 31 = (A.1 367 31)) (ek57_6 : Ac57.1 367 37 = (A.1 367 37)) (ek57_7 : Ac57.1 367 41 = (A.1 367 41)) (bx57_2 : 0 ≤ x57_2.toInt) (cx57_2 : x57_2.toInt ≤ 4) (u57_0 : ∀ a : Nat, 4 * 1 ≤ (a : Int) → (a : Int) < 4 * 1 + x57_2.toInt → (Ac57.2.1 383 a).toInt = (Ac57.2.1 384 a).toInt) (u57_1 : Ac57.2.1 376 1 = Int32.ofNat 0) (hm57 : 4 - x57_2.toInt < (m57 : Int)), hxa (d + 0) none hm_t149 57 [.ref 368, .int a1, .int x57_2] [] Ac57 P := by
    intro m57
    induction m57 with
    | zero => intro x57_2 Ac57 hAc57 ek57_0 ek57_1 ek57_2 ek57_3 ek57_4 ek57_5 ek57_6 ek57_7 bx57_2 cx57_2 u57_0 u57_1 hm57;  exact False.elim (by omega)
    | succ m57 ih57 =>
      intro x57_2 Ac57 hAc57 ek57_0 ek57_1 ek57_2 ek57_3 ek57_4 ek57_5 ek57_6 ek57_7 bx57_2 cx57_2 u57_0 u57_1 hm57
      refine hxa_iload_n (by rfl) rfl ?_
      refine hxa_iconst (by rfl) rfl ?_
      refine hxj_cge (by rfl) rfl hk_4 (fun q1 => ?_) (fun q1 => ?_)
      ·
        exact hxa_return (by rfl) rfl (hP _ _ ⟨hAc57, ek57_0, ek57_1, ek57_2, ek57_3, ek57_4, ek57_5, ek57_6, ek57_7, rfl, ⟨u57_1, fun a h1 h2 => u57_0 a (by omega) (by omega)⟩⟩)
      ·
        refine hxa_aload_n (by rfl) rfl ?_
        refine hxa_get (v := .ref 384) (by rfl) (by rfl) (by rfl) rfl ?_
        refine hxa_iconst (by rfl) rfl ?_
        refine hxa_iload_n (by rfl) rfl ?_
        refine hxj_imul (by rfl) hk_4 rfl (by omega) (by omega) (fun z2 ez2 => ?_)
        refine hxa_iload_n (by rfl) rfl ?_
        refine hxj_iadd (by rfl) rfl rfl (by omega) (by omega) (fun z3 ez3 => ?_)
        refine hxa_iconst (by rfl) rfl ?_
        refine hxj_iastE (by rfl) (by rfl) rfl (by omega) (by omega) hAc57 (by omega) (hlrA hl rfl (by omega) (by omega) (by omega)) (fun A4 hA4 eA4 fA4 gA4 => ?_)
        refine hxa_aload_n (by rfl) rfl ?_
        refine hxa_get (v := .ref 385) (by rfl) (by rfl) (by rfl) rfl ?_
        refine hxa_iconst (by rfl) rfl ?_
        refine hxa_iload_n (by rfl) rfl ?_
        refine hxj_imul (by rfl) hk_4 rfl (by omega) (by omega) (fun z5 ez5 => ?_)
        refine hxa_iload_n (by rfl) rfl ?_
        refine hxj_iadd (by rfl) rfl rfl (by omega) (by omega) (fun z6 ez6 => ?_)
        refine hxa_iconst (by rfl) rfl ?_
        refine hxj_iastE (by rfl) (by rfl) rfl (by omega) (by omega) hA4 (by omega) (hlrA hl rfl (by omega) (by omega) (by omega)) (fun A7 hA7 eA7 fA7 gA7 => ?_)
        refine hxj_iinc (by rfl) rfl rfl hk_1 (by omega) (by omega) (fun _ => rfl) (fun z8 ez8 => ?_)
        refine hxa_goto (by rfl) ?_
        exact ih57 z8 A7 hA7 (hkA eA7 (hkA eA4 ek57_0)) (hkA eA7 (hkA eA4 ek57_1)) (hkA eA7 (hkA eA4 ek57_2)) (hkA eA7 (hkA eA4 ek57_3)) (hkA eA7 (hkA eA4 ek57_4)) (hkA eA7 (hkA eA4 ek57_5)) (hkA eA7 (hkA eA4 ek57_6)) (hkA eA7 (hkA eA4 ek57_7)) (by omega) (by omega) (by first | exact hpl (s := 1) (by assumption) (by assumption) rfl (by omega) (by omega) (by omega) (by assumption) u57_0 | (intro a h1 h2; omega)) (by exact (helA fA7 (by omega) (helA fA4 (by omega) u57_1))) (by omega)
  have L31 : ∀ (m31 : Nat) (x31_2 : Int32) (Ac31 : hs_A) (hAc31 : hJ 5 Bn Br A0 Ac31) (ek31_0 : Ac31.1 367 11 = (A.1 367 11)) (ek31_1 : Ac31.1 367 12 = (A.1 367 12)) (ek31_2 : Ac31.1 367 13 = (A.1 367 13)) (ek31_3 : Ac31.1 367 19 = (A.1 367 19)) (ek31_4 : Ac31.1 367 20 = (A.1 367 20)) (ek31_5 : Ac31.1 367 31 = (A.1 367 31)) (ek31_6 : Ac31.1 367 37 = (A.1 367 37)) (ek31_7 : Ac31.1 367 41 = (A.1 367 41)) (bx31_2 : 0 ≤ x31_2.toInt) (cx31_2 : x31_2.toInt ≤ 24) (u31_0 : Ac31.2.1 376 1 = Int32.ofNat 0) (hm31 : 24 - x31_2.toInt < (m31 : Int)), hxa (d + 0) none hm_t149 31 [.ref 368, .int a1, .int x31_2] [] Ac31 P := by
    intro m31
    induction m31 with
    | zero => intro x31_2 Ac31 hAc31 ek31_0 ek31_1 ek31_2 ek31_3 ek31_4 ek31_5 ek31_6 ek31_7 bx31_2 cx31_2 u31_0 hm31;  exact False.elim (by omega)
    | succ m31 ih31 =>
      intro x31_2 Ac31 hAc31 ek31_0 ek31_1 ek31_2 ek31_3 ek31_4 ek31_5 ek31_6 ek31_7 bx31_2 cx31_2 u31_0 hm31
      refine hxa_iload_n (by rfl) rfl ?_
      refine hxa_bipush (by rfl) rfl ?_
      refine hxj_cge (by rfl) rfl hk_24 (fun q9 => ?_) (fun q9 => ?_)
      ·
        refine hxa_iconst (by rfl) rfl ?_
        refine hxa_s1 (by rfl) (Or.inl ⟨_, rfl, rfl⟩) rfl ?_
        exact L57 (Int.toNat (4 - 0) + 1) (Int32.ofNat 0) Ac31 hAc31 ek31_0 ek31_1 ek31_2 ek31_3 ek31_4 ek31_5 ek31_6 ek31_7 (by omega) (by omega) (by first | exact hpl (s := 1) (by assumption) (by assumption) rfl (by omega) (by omega) (by omega) (by assumption) u57_0 | (intro a h1 h2; omega)) (by exact u31_0) (by omega)
      ·
        refine hxa_aload_n (by rfl) rfl ?_
        refine hxa_get (v := .ref 381) (by rfl) (by rfl) (by rfl) rfl ?_
        refine hxa_bipush (by rfl) rfl ?_
        refine hxa_iload_n (by rfl) rfl ?_
        refine hxj_imul (by rfl) hk_24 rfl (by omega) (by omega) (fun z10 ez10 => ?_)
        refine hxa_iload_n (by rfl) rfl ?_
        refine hxj_iadd (by rfl) rfl rfl (by omega) (by omega) (fun z11 ez11 => ?_)
        refine hxa_iconst (by rfl) rfl ?_
        refine hxj_iast (by rfl) (by rfl) rfl (by omega) (by omega) hAc31 (hbokN (by rfl)) (by rfl) (by rfl) (fun A12 hA12 eA12 fA12 gA12 => ?_)
        refine hxj_iinc (by rfl) rfl rfl hk_1 (by omega) (by omega) (fun _ => rfl) (fun z13 ez13 => ?_)
        refine hxa_goto (by rfl) ?_
        exact ih31 z13 A12 hA12 (hkA eA12 ek31_0) (hkA eA12 ek31_1) (hkA eA12 ek31_2) (hkA eA12 ek31_3) (hkA eA12 ek31_4) (hkA eA12 ek31_5) (hkA eA12 ek31_6) (hkA eA12 ek31_7) (by omega) (by omega) (by exact (helA fA12 (by omega) u31_0)) (by omega)
  refine hxa_aload_n (by rfl) rfl ?_
  refine hxa_get (v := .ref 377) (by rfl) (by rfl) (by rfl) rfl ?_
  refine hxa_iload_n (by rfl) rfl ?_
  refine hxa_iconst (by rfl) rfl ?_
  refine hxj_iast (by rfl) (by rfl) rfl (by omega) (by omega) hA (hbok (by rfl) hk_0 (by omega) (by omega)) (by rfl) (by rfl) (fun A14 hA14 eA14 fA14 gA14 => ?_)
  have e376 : A14.2.1 376 1 = Int32.ofNat 0 := by rw [fA14, (show a1.toNatClampNeg = 1 from by have := hn_cn (j := a1) (by omega); omega), hup1]
  refine hxa_aload_n (by rfl) rfl ?_
  refine hxa_get (v := .ref 380) (by rfl) (by rfl) (by rfl) rfl ?_
  refine hxa_iload_n (by rfl) rfl ?_
  refine hxa_iconst (by rfl) rfl ?_
  refine hxj_iast (by rfl) (by rfl) rfl (by omega) (by omega) hA14 (hbokN (by rfl)) (by rfl) (by rfl) (fun A15 hA15 eA15 fA15 gA15 => ?_)
  refine hxa_aload_n (by rfl) rfl ?_
  refine hxa_get (v := .ref 382) (by rfl) (by rfl) (by rfl) rfl ?_
  refine hxa_iload_n (by rfl) rfl ?_
  refine hxa_bipush (by rfl) rfl ?_
  refine hxj_iast (by rfl) (by rfl) rfl (by omega) (by omega) hA15 (hbokN (by rfl)) (by rfl) (by rfl) (fun A16 hA16 eA16 fA16 gA16 => ?_)
  refine hxa_aload_n (by rfl) rfl ?_
  refine hxa_get (v := .ref 383) (by rfl) (by rfl) (by rfl) rfl ?_
  refine hxa_iload_n (by rfl) rfl ?_
  refine hxa_iconst (by rfl) rfl ?_
  refine hxj_iast (by rfl) (by rfl) rfl (by omega) (by omega) hA16 (hbokN (by rfl)) (by rfl) (by rfl) (fun A17 hA17 eA17 fA17 gA17 => ?_)
  refine hxa_iconst (by rfl) rfl ?_
  refine hxa_s1 (by rfl) (Or.inl ⟨_, rfl, rfl⟩) rfl ?_
  exact L31 (Int.toNat (24 - 0) + 1) (Int32.ofNat 0) A17 hA17 (hkA eA17 (hkA eA16 (hkA eA15 (hkA eA14 rfl)))) (hkA eA17 (hkA eA16 (hkA eA15 (hkA eA14 rfl)))) (hkA eA17 (hkA eA16 (hkA eA15 (hkA eA14 rfl)))) (hkA eA17 (hkA eA16 (hkA eA15 (hkA eA14 rfl)))) (hkA eA17 (hkA eA16 (hkA eA15 (hkA eA14 rfl)))) (hkA eA17 (hkA eA16 (hkA eA15 (hkA eA14 rfl)))) (hkA eA17 (hkA eA16 (hkA eA15 (hkA eA14 rfl)))) (hkA eA17 (hkA eA16 (hkA eA15 (hkA eA14 rfl)))) (by omega) (by omega) (by exact (helA fA17 (by omega) (helA fA16 (by omega) (helA fA15 (by omega) e376)))) (by omega)
theorem hX149q5 {d : Nat} {Bn Br : Int} {A0 A : hs_A} (hA : hJ 5 Bn Br A0 A) (hl : (A0.1 367 18).toInt = 0) (a1 : Int32) (p1 : 1 ≤ a1.toInt) (q1 : a1.toInt ≤ 1) : hxC (d + 1) 149 hm_m149 [.ref 368, .int a1] A (fun r A' => hJ 5 Bn Br A0 A' ∧ A'.1 367 11 = A.1 367 11 ∧ A'.1 367 12 = A.1 367 12 ∧ A'.1 367 13 = A.1 367 13 ∧ A'.1 367 19 = A.1 367 19 ∧ A'.1 367 20 = A.1 367 20 ∧ A'.1 367 31 = A.1 367 31 ∧ A'.1 367 37 = A.1 367 37 ∧ A'.1 367 41 = A.1 367 41 ∧ r = none ∧ (A'.2.1 376 1 = Int32.ofNat 0 ∧ ∀ a : Nat, 4 ≤ (a : Int) → (a : Int) < 8 → (A'.2.1 383 a).toInt = (A'.2.1 384 a).toInt)) := hxC.of (by rfl) (hY149q5 hA hl a1 p1 q1 (fun r A' h => h))
