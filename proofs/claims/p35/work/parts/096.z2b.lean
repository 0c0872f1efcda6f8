theorem hY142q4 {d : Nat} {Bn Br : Int} {A0 A : hs_A} (hA : hJ 4 Bn Br A0 A)   {P : Option Value → hs_A → Prop} (hP : ∀ (r : Option Value) (A' : hs_A), (hJ 4 Bn Br A0 A' ∧ r = none) → P r A') : hxa (d + 2) none hm_t142 0 [.ref 368, .retAddr 0, .retAddr 0, .retAddr 0, .retAddr 0, .retAddr 0, .retAddr 0, .retAddr 0] [] A P := by
  have k0 := hk_0
  have k1 := hk_1
  have k2 := hk_2
  have k3 := hk_3
  have L7 : ∀ (m7 : Nat) (w7_0 : Int32) (x7_1 : Int32) (x7_2 : Value) (x7_3 : Value) (x7_4 : Value) (x7_5 : Value) (x7_6 : Value) (x7_7 : Value) (Ac7 : hs_A) (hx7_2 : hc_two (some x7_2) = false) (hx7_3 : hc_two (some x7_3) = false) (hx7_5 : hc_two (some x7_5) = false) (hx7_6 : hc_two (some x7_6) = false) (hAc7 : hJ 4 Bn Br A0 Ac7) (ek7_0 : Ac7.1 367 10 = w7_0) (bx7_1 : 0 ≤ x7_1.toInt) (cx7_1 : x7_1.toInt ≤ 2000) (bw7_0 : 0 ≤ w7_0.toInt) (cw7_0 : w7_0.toInt ≤ 402) (hm7 : (402 - w7_0.toInt) * 3000 + (2001 - x7_1.toInt) < (m7 : Int)), hxa (d + 2) none hm_t142 7 [.ref 368, .int x7_1, x7_2, x7_3, x7_4, x7_5, x7_6, x7_7] [] Ac7 P := by
    intro m7
    induction m7 with
    | zero => intro w7_0 x7_1 x7_2 x7_3 x7_4 x7_5 x7_6 x7_7 Ac7 hx7_2 hx7_3 hx7_5 hx7_6 hAc7 ek7_0 bx7_1 cx7_1 bw7_0 cw7_0 hm7;  exact False.elim (by omega)
    | succ m7 ih7 =>
      intro w7_0 x7_1 x7_2 x7_3 x7_4 x7_5 x7_6 x7_7 Ac7 hx7_2 hx7_3 hx7_5 hx7_6 hAc7 ek7_0 bx7_1 cx7_1 bw7_0 cw7_0 hm7
      have tk7_0 : (Ac7.1 367 10).toInt = w7_0.toInt := congrArg Int32.toInt ek7_0
      have L208 : ∀ (m208 : Nat) (x208_2 : Int32) (x208_3 : Int32) (x208_4 : Int32) (bx208_2 : 48 ≤ x208_2.toInt) (cx208_2 : x208_2.toInt ≤ 57) (bx208_3 : 0 ≤ x208_3.toInt) (cx208_3 : x208_3.toInt ≤ 2000) (bx208_4 : 0 ≤ x208_4.toInt) (cx208_4 : x208_4.toInt ≤ 9999) (cx7_1 : x7_1.toInt ≤ 1999) (cw7_0 : w7_0.toInt ≤ 400) (u208_0 : x7_1.toInt + x208_3.toInt ≤ 2000) (u208_1 : (x208_3.toInt = 0 ∧ x208_4.toInt = 0) ∨ (x208_3.toInt = 1 ∧ x208_4.toInt ≤ 9) ∨ (x208_3.toInt = 2 ∧ x208_4.toInt ≤ 99) ∨ (x208_3.toInt = 3 ∧ x208_4.toInt ≤ 999) ∨ 4 ≤ x208_3.toInt) (hm208 : 2000 - x208_3.toInt < (m208 : Int)), hxa (d + 2) none hm_t142 208 [.ref 368, .int x7_1, .int x208_2, .int x208_3, .int x208_4, x7_5, x7_6, x7_7] [] Ac7 P := by
        intro m208
        induction m208 with
        | zero => intro x208_2 x208_3 x208_4 bx208_2 cx208_2 bx208_3 cx208_3 bx208_4 cx208_4 cx7_1 cw7_0 u208_0 u208_1 hm208;  exact False.elim (by omega)
        | succ m208 ih208 =>
          intro x208_2 x208_3 x208_4 bx208_2 cx208_2 bx208_3 cx208_3 bx208_4 cx208_4 cx7_1 cw7_0 u208_0 u208_1 hm208
          refine hxa_aload_n (by rfl) rfl ?_
          refine hxa_iload_n (by rfl) rfl ?_
          refine hxa_iload_n (by rfl) rfl ?_
          refine hxj_iadd (by rfl) rfl rfl (by omega) (by omega) (fun z1 ez1 => ?_)
          refine hxa_call0 (by rfl) (by rfl) (by rfl) (by rfl) (by rfl) (by rfl) (hX136q4 (d := d + 1) hAc7 z1 (by omega)) ?_
          rintro _ _ ⟨rfl, z2, rfl, fz2⟩
          refine hxa_call2 (by rfl) (by decide) (by rfl) (by rfl) (by rfl) (hX137 (d := d + 1)  z2) ?_
          rintro _ _ ⟨rfl, z3, rfl, fz3⟩
          rcases fz3 with fz3 | fz3
          ·
            refine hxj_zeq (by rfl) rfl (fun q4 => False.elim (by omega)) (fun q4 => ?_)
            refine hxa_iload_n (by rfl) rfl ?_
            refine hxa_iconst (by rfl) rfl ?_
            refine hxj_cge (by rfl) rfl hk_4 (fun q5 => ?_) (fun q5 => ?_)
            ·
              refine hxj_iinc (by rfl) rfl rfl hk_1 (by omega) (by omega) (fun _ => rfl) (fun z6 ez6 => ?_)
              refine hxa_goto (by rfl) ?_
              exact ih208 x208_2 z6 x208_4 (by omega) (by omega) (by omega) (by omega) (by omega) (by omega) (by omega) (by omega) (by omega) (by omega) (by omega)
            ·
              refine hxa_bipush (by rfl) rfl ?_
              refine hxa_iload (by rfl) rfl ?_
              refine hxj_imul (by rfl) hk_10 rfl (by omega) (by omega) (fun z7 ez7 => ?_)
              refine hxa_aload_n (by rfl) rfl ?_
              refine hxa_iload_n (by rfl) rfl ?_
              refine hxa_iload_n (by rfl) rfl ?_
              refine hxj_iadd (by rfl) rfl rfl (by omega) (by omega) (fun z8 ez8 => ?_)
              refine hxa_call0 (by rfl) (by rfl) (by rfl) (by rfl) (by rfl) (by rfl) (hX136q4 (d := d + 1) hAc7 z8 (by omega)) ?_
              rintro _ _ ⟨rfl, z9, rfl, fz9⟩
              have sb : z9.toInt = z2.toInt := by rw [fz9.1, fz2.1]; exact congrArg Int32.toInt (hby_c (by omega))
              refine hxj_iadd (by rfl) rfl rfl (by omega) (by omega) (fun z10 ez10 => ?_)
              refine hxa_bipush (by rfl) rfl ?_
              refine hxj_isub (by rfl) rfl hk_48 (by omega) (by omega) (fun z11 ez11 => ?_)
              refine hxa_s1 (by rfl) (Or.inr ⟨_, rfl, rfl⟩) rfl ?_
              refine hxj_iinc (by rfl) rfl rfl hk_1 (by omega) (by omega) (fun _ => rfl) (fun z12 ez12 => ?_)
              refine hxa_goto (by rfl) ?_
              exact ih208 x208_2 z12 z11 (by omega) (by omega) (by omega) (by omega) (by omega) (by omega) (by omega) (by omega) (by omega) (by omega) (by omega)
          ·
            refine hxj_zeq (by rfl) rfl (fun q13 => ?_) (fun q13 => False.elim (by omega))
            refine hxa_aload_n (by rfl) rfl ?_
            refine hxa_iload_n (by rfl) rfl ?_
            refine hxa_iconst (by rfl) rfl ?_
            refine hxj_cle (by rfl) rfl hk_4 (fun q14 => ?_) (fun q14 => ?_)
            ·
              refine hxa_iconst (by rfl) rfl ?_
              refine hxa_iload_n (by rfl) rfl ?_
              refine hxa_iload (by rfl) rfl ?_
              refine hxa_lconst (by rfl) rfl ?_
              refine hxa_call0 (by rfl) (by rfl) (by rfl) (by rfl) (by rfl) (by rfl) (hX141q4 (d := d + 1) hAc7 (Int32.ofNat 2) (by omega) (by omega) x7_1 x208_4 (by omega) (by omega) (Int64.ofNat 0) (by rw [(show Ac7.1 367 10 = w7_0 from ek7_0)]; omega) (by rw [(show Ac7.1 367 10 = w7_0 from ek7_0)]; omega)) ?_
              rintro _ A15 ⟨hA15, rfl, fA15⟩
              have fbA15_367_10 := hA15.f (i := 367) (k := 10) (by rfl)
              refine hxa_iload_n (by rfl) rfl ?_
              refine hxa_iload_n (by rfl) rfl ?_
              refine hxj_iadd (by rfl) rfl rfl (by omega) (by omega) (fun z16 ez16 => ?_)
              refine hxa_s1 (by rfl) (Or.inl ⟨_, rfl, rfl⟩) rfl ?_
              refine hxa_goto (by rfl) ?_
              refine hxa_goto (by rfl) ?_
              exact ih7 (A15.1 367 10) z16 (.int x208_2) (.int x208_3) (.int x208_4) (x7_5) (x7_6) (x7_7) A15 rfl rfl hx7_5 hx7_6 hA15 rfl (by omega) (by omega) (by omega) (by omega) (by omega)
            ·
              refine hxa_iconst (by rfl) rfl ?_
              refine hxa_goto (by rfl) ?_
              refine hxa_iload_n (by rfl) rfl ?_
              refine hxa_iload (by rfl) rfl ?_
              refine hxa_lconst (by rfl) rfl ?_
              refine hxa_call0 (by rfl) (by rfl) (by rfl) (by rfl) (by rfl) (by rfl) (hX141q4 (d := d + 1) hAc7 (Int32.ofNat 3) (by omega) (by omega) x7_1 x208_4 (by omega) (by omega) (Int64.ofNat 0) (by rw [(show Ac7.1 367 10 = w7_0 from ek7_0)]; omega) (by rw [(show Ac7.1 367 10 = w7_0 from ek7_0)]; omega)) ?_
              rintro _ A17 ⟨hA17, rfl, fA17⟩
              have fbA17_367_10 := hA17.f (i := 367) (k := 10) (by rfl)
              refine hxa_iload_n (by rfl) rfl ?_
              refine hxa_iload_n (by rfl) rfl ?_
              refine hxj_iadd (by rfl) rfl rfl (by omega) (by omega) (fun z18 ez18 => ?_)
              refine hxa_s1 (by rfl) (Or.inl ⟨_, rfl, rfl⟩) rfl ?_
              refine hxa_goto (by rfl) ?_
              refine hxa_goto (by rfl) ?_
              exact ih7 (A17.1 367 10) z18 (.int x208_2) (.int x208_3) (.int x208_4) (x7_5) (x7_6) (x7_7) A17 rfl rfl hx7_5 hx7_6 hA17 rfl (by omega) (by omega) (by omega) (by omega) (by omega)
      have L146 : ∀ (m146 : Nat) (x146_2 : Int32) (x146_3 : Int32) (x146_4 : Int64) (x146_6 : Int32) (x146_7 : Int32) (bx146_2 : 97 ≤ x146_2.toInt) (cx146_2 : x146_2.toInt ≤ 122) (bx146_3 : 0 ≤ x146_3.toInt) (cx146_3 : x146_3.toInt ≤ 8) (bx146_6 : 1 ≤ x146_6.toInt) (cx146_6 : x146_6.toInt ≤ 39) (bx146_7 : 0 ≤ x146_7.toInt) (cx146_7 : x146_7.toInt ≤ 20) (cx7_1 : x7_1.toInt ≤ 1999) (cw7_0 : w7_0.toInt ≤ 400) (u146_0 : x7_1.toInt + x146_3.toInt ≤ 2000) (hm146 : 20 - x146_7.toInt < (m146 : Int)), hxa (d + 2) none hm_t142 146 [.ref 368, .int x7_1, .int x146_2, .int x146_3, .long x146_4, .double 0, .int x146_6, .int x146_7] [] Ac7 P := by
        intro m146
        induction m146 with
        | zero => intro x146_2 x146_3 x146_4 x146_6 x146_7 bx146_2 cx146_2 bx146_3 cx146_3 bx146_6 cx146_6 bx146_7 cx146_7 cx7_1 cw7_0 u146_0 hm146;  exact False.elim (by omega)
        | succ m146 ih146 =>
          intro x146_2 x146_3 x146_4 x146_6 x146_7 bx146_2 cx146_2 bx146_3 cx146_3 bx146_6 cx146_6 bx146_7 cx146_7 cx7_1 cw7_0 u146_0 hm146
          refine hxa_iload (by rfl) rfl ?_
          refine hxa_bipush (by rfl) rfl ?_
          refine hxj_cge (by rfl) rfl hk_20 (fun q19 => ?_) (fun q19 => ?_)
          ·
            refine hxa_aload_n (by rfl) rfl ?_
            refine hxa_iload (by rfl) rfl ?_
            refine hxa_iload_n (by rfl) rfl ?_
            refine hxa_iconst (by rfl) rfl ?_
            refine hxa_lload (by rfl) rfl ?_
            refine hxa_call0 (by rfl) (by rfl) (by rfl) (by rfl) (by rfl) (by rfl) (hX141q4 (d := d + 1) hAc7 x146_6 (by omega) (by omega) x7_1 (Int32.ofNat 0) (by omega) (by omega) x146_4 (by rw [(show Ac7.1 367 10 = w7_0 from ek7_0)]; omega) (by rw [(show Ac7.1 367 10 = w7_0 from ek7_0)]; omega)) ?_
            rintro _ A20 ⟨hA20, rfl, fA20⟩
            have fbA20_367_10 := hA20.f (i := 367) (k := 10) (by rfl)
            refine hxa_iload_n (by rfl) rfl ?_
            refine hxa_iload_n (by rfl) rfl ?_
            refine hxj_iadd (by rfl) rfl rfl (by omega) (by omega) (fun z21 ez21 => ?_)
            refine hxa_s1 (by rfl) (Or.inl ⟨_, rfl, rfl⟩) rfl ?_
            refine hxa_goto (by rfl) ?_
            refine hxa_goto (by rfl) ?_
            exact ih7 (A20.1 367 10) z21 (.int x146_2) (.int x146_3) (.long x146_4) (.double 0) (.int x146_6) (.int x146_7) A20 rfl rfl rfl rfl hA20 rfl (by omega) (by omega) (by omega) (by omega) (by omega)
          ·
            refine hxa_aload_n (by rfl) rfl ?_
            refine hxa_get (v := .ref 375) (by rfl) (by rfl) (by rfl) rfl ?_
            refine hxa_iload (by rfl) rfl ?_
            refine hxj_lald (by rfl) (by rfl) rfl (by omega) (by omega) (fun j22 ej22 => ?_)
            refine hxa_lload (by rfl) rfl ?_
            refine hxa_lcmp (by rfl) (hn_top (fun z23 _ => ?_))
            refine hxj_zne (by rfl) rfl (fun q24 => ?_) (fun q24 => ?_)
            ·
              refine hxj_iinc (by rfl) rfl rfl hk_1 (by omega) (by omega) (fun _ => rfl) (fun z25 ez25 => ?_)
              refine hxa_goto (by rfl) ?_
              exact ih146 x146_2 x146_3 x146_4 x146_6 z25 (by omega) (by omega) (by omega) (by omega) (by omega) (by omega) (by omega) (by omega) (by omega) (by omega) (by omega) (by omega)
            ·
              refine hxa_bipush (by rfl) rfl ?_
              refine hxa_iload (by rfl) rfl ?_
              refine hxj_iadd (by rfl) hk_20 rfl (by omega) (by omega) (fun z26 ez26 => ?_)
              refine hxa_s1 (by rfl) (Or.inr ⟨_, rfl, rfl⟩) rfl ?_
              refine hxj_iinc (by rfl) rfl rfl hk_1 (by omega) (by omega) (fun _ => rfl) (fun z27 ez27 => ?_)
              refine hxa_goto (by rfl) ?_
              exact ih146 x146_2 x146_3 x146_4 z26 z27 (by omega) (by omega) (by omega) (by omega) (by omega) (by omega) (by omega) (by omega) (by omega) (by omega) (by omega) (by omega)
      have L135 : ∀ (x135_2 : Int32) (x135_3 : Int32) (x135_4 : Int64) (y135_0 : Int32) (bx135_2 : 97 ≤ x135_2.toInt) (cx135_2 : x135_2.toInt ≤ 122) (bx135_3 : 0 ≤ x135_3.toInt) (cx135_3 : x135_3.toInt ≤ 2000) (by135_0 : 1 ≤ y135_0.toInt) (cy135_0 : y135_0.toInt ≤ 3) (cx7_1 : x7_1.toInt ≤ 1999) (cw7_0 : w7_0.toInt ≤ 400) (u135_0 : x7_1.toInt + x135_3.toInt ≤ 2000), hxa (d + 2) none hm_t142 135 [.ref 368, .int x7_1, .int x135_2, .int x135_3, .long x135_4, .double 0, x7_6, x7_7] [.int y135_0] Ac7 P := by
        intro x135_2 x135_3 x135_4 y135_0 bx135_2 cx135_2 bx135_3 cx135_3 by135_0 cy135_0 cx7_1 cw7_0 u135_0
        refine hxa_s1 (by rfl) (Or.inr ⟨_, rfl, rfl⟩) rfl ?_
        refine hxa_iload_n (by rfl) rfl ?_
        refine hxa_bipush (by rfl) rfl ?_
        refine hxj_cgt (by rfl) rfl hk_8 (fun q28 => ?_) (fun q28 => ?_)
        ·
          refine hxa_aload_n (by rfl) rfl ?_
          refine hxa_iload (by rfl) rfl ?_
          refine hxa_iload_n (by rfl) rfl ?_
          refine hxa_iconst (by rfl) rfl ?_
          refine hxa_lload (by rfl) rfl ?_
          refine hxa_call0 (by rfl) (by rfl) (by rfl) (by rfl) (by rfl) (by rfl) (hX141q4 (d := d + 1) hAc7 y135_0 (by omega) (by omega) x7_1 (Int32.ofNat 0) (by omega) (by omega) x135_4 (by rw [(show Ac7.1 367 10 = w7_0 from ek7_0)]; omega) (by rw [(show Ac7.1 367 10 = w7_0 from ek7_0)]; omega)) ?_
          rintro _ A29 ⟨hA29, rfl, fA29⟩
          have fbA29_367_10 := hA29.f (i := 367) (k := 10) (by rfl)
          refine hxa_iload_n (by rfl) rfl ?_
          refine hxa_iload_n (by rfl) rfl ?_
          refine hxj_iadd (by rfl) rfl rfl (by omega) (by omega) (fun z30 ez30 => ?_)
          refine hxa_s1 (by rfl) (Or.inl ⟨_, rfl, rfl⟩) rfl ?_
          refine hxa_goto (by rfl) ?_
          refine hxa_goto (by rfl) ?_
          exact ih7 (A29.1 367 10) z30 (.int x135_2) (.int x135_3) (.long x135_4) (.double 0) (.int y135_0) (x7_7) A29 rfl rfl rfl rfl hA29 rfl (by omega) (by omega) (by omega) (by omega) (by omega)
        ·
          refine hxa_iconst (by rfl) rfl ?_
          refine hxa_s1 (by rfl) (Or.inr ⟨_, rfl, rfl⟩) rfl ?_
          exact L146 (Int.toNat (20 - 0) + 1) x135_2 x135_3 x135_4 y135_0 (Int32.ofNat 0) (by omega) (by omega) (by omega) (by omega) (by omega) (by omega) (by omega) (by omega) (by omega) (by omega) (by omega) (by omega)
      have L85 : ∀ (m85 : Nat) (x85_2 : Int32) (x85_3 : Int32) (x85_4 : Int64) (bx85_2 : 97 ≤ x85_2.toInt) (cx85_2 : x85_2.toInt ≤ 122) (bx85_3 : 0 ≤ x85_3.toInt) (cx85_3 : x85_3.toInt ≤ 2000) (cx7_1 : x7_1.toInt ≤ 1999) (cw7_0 : w7_0.toInt ≤ 400) (u85_0 : x7_1.toInt + x85_3.toInt ≤ 2000) (hm85 : 2000 - x85_3.toInt < (m85 : Int)), hxa (d + 2) none hm_t142 85 [.ref 368, .int x7_1, .int x85_2, .int x85_3, .long x85_4, .double 0, x7_6, x7_7] [] Ac7 P := by
        intro m85
        induction m85 with
        | zero => intro x85_2 x85_3 x85_4 bx85_2 cx85_2 bx85_3 cx85_3 cx7_1 cw7_0 u85_0 hm85;  exact False.elim (by omega)
        | succ m85 ih85 =>
          intro x85_2 x85_3 x85_4 bx85_2 cx85_2 bx85_3 cx85_3 cx7_1 cw7_0 u85_0 hm85
          refine hxa_aload_n (by rfl) rfl ?_
          refine hxa_iload_n (by rfl) rfl ?_
          refine hxa_iload_n (by rfl) rfl ?_
          refine hxj_iadd (by rfl) rfl rfl (by omega) (by omega) (fun z31 ez31 => ?_)
          refine hxa_call0 (by rfl) (by rfl) (by rfl) (by rfl) (by rfl) (by rfl) (hX136q4 (d := d + 1) hAc7 z31 (by omega)) ?_
          rintro _ _ ⟨rfl, z32, rfl, fz32⟩
          refine hxa_call2 (by rfl) (by decide) (by rfl) (by rfl) (by rfl) (hX138 (d := d + 1)  z32) ?_
          rintro _ _ ⟨rfl, z33, rfl, fz33⟩
          rcases fz33 with fz33 | fz33
          ·
            refine hxj_zeq (by rfl) rfl (fun q34 => False.elim (by omega)) (fun q34 => ?_)
            refine hxa_iload_n (by rfl) rfl ?_
            refine hxa_bipush (by rfl) rfl ?_
            refine hxj_cge (by rfl) rfl hk_8 (fun q35 => ?_) (fun q35 => ?_)
            ·
              refine hxj_iinc (by rfl) rfl rfl hk_1 (by omega) (by omega) (fun _ => rfl) (fun z36 ez36 => ?_)
              refine hxa_goto (by rfl) ?_
              exact ih85 x85_2 z36 x85_4 (by omega) (by omega) (by omega) (by omega) (by omega) (by omega) (by omega) (by omega)
            ·
              refine hxa_lload (by rfl) rfl ?_
              refine hxa_aload_n (by rfl) rfl ?_
              refine hxa_iload_n (by rfl) rfl ?_
              refine hxa_iload_n (by rfl) rfl ?_
              refine hxj_iadd (by rfl) rfl rfl (by omega) (by omega) (fun z37 ez37 => ?_)
              refine hxa_call0 (by rfl) (by rfl) (by rfl) (by rfl) (by rfl) (by rfl) (hX136q4 (d := d + 1) hAc7 z37 (by omega)) ?_
              rintro _ _ ⟨rfl, z38, rfl, fz38⟩
              refine hxa_call2 (by rfl) (by decide) (by rfl) (by rfl) (by rfl) (hX139 (d := d + 1)  x85_4 z38) ?_
              rintro _ _ ⟨rfl, j39, rfl⟩
              refine hxa_lstore (by rfl) rfl ?_
              refine hxj_iinc (by rfl) rfl rfl hk_1 (by omega) (by omega) (fun _ => rfl) (fun z40 ez40 => ?_)
              refine hxa_goto (by rfl) ?_
              exact ih85 x85_2 z40 j39 (by omega) (by omega) (by omega) (by omega) (by omega) (by omega) (by omega) (by omega)
          ·
            refine hxj_zeq (by rfl) rfl (fun q41 => ?_) (fun q41 => False.elim (by omega))
            refine hxa_iload_n (by rfl) rfl ?_
            refine hxa_bipush (by rfl) rfl ?_
            refine hxj_cle (by rfl) rfl hk_8 (fun q42 => ?_) (fun q42 => ?_)
            ·
              refine hxa_iconst (by rfl) rfl ?_
              exact L135 x85_2 x85_3 x85_4 (Int32.ofNat 1) (by omega) (by omega) (by omega) (by omega) (by omega) (by omega) (by omega) (by omega) (by omega)
            ·
              refine hxa_iconst (by rfl) rfl ?_
              refine hxa_goto (by rfl) ?_
              exact L135 x85_2 x85_3 x85_4 (Int32.ofNat 3) (by omega) (by omega) (by omega) (by omega) (by omega) (by omega) (by omega) (by omega) (by omega)
      refine hxa_aload_n (by rfl) rfl ?_
      refine hxj_getK (by rfl) (by rfl) (by rfl) ek7_0 ?_
      refine hxa_sipush (by rfl) rfl ?_
      refine hxj_cgt (by rfl) rfl hk_400 (fun q43 => ?_) (fun q43 => ?_)
      ·
        exact hxa_return (by rfl) rfl (hP _ _ ⟨hAc7, rfl⟩)
      ·
        refine hxa_aload_n (by rfl) rfl ?_
        refine hxa_iload_n (by rfl) rfl ?_
        refine hxa_call0 (by rfl) (by rfl) (by rfl) (by rfl) (by rfl) (by rfl) (hX136q4 (d := d + 1) hAc7 x7_1 (by omega)) ?_
        rintro _ _ ⟨rfl, z44, rfl, fz44⟩
        refine hxa_s1 (by rfl) (Or.inl ⟨_, rfl, rfl⟩) rfl ?_
        refine hxa_iload_n (by rfl) rfl ?_
        refine hxa_aload_n (by rfl) rfl ?_
        refine hxj_getB (by rfl) (by rfl) (by rfl) hAc7 (by rfl) (fun z45 ez45 fz45 gz45 => ?_)
        refine hxj_clt (by rfl) rfl rfl (fun q46 => ?_) (fun q46 => ?_)
        ·
          refine hxa_iload_n (by rfl) rfl ?_
          refine hxa_bipush (by rfl) rfl ?_
          refine hxj_ceq (by rfl) rfl hk_9 (fun q47 => ?_) (fun q47 => ?_)
          ·
            refine hxj_iinc (by rfl) rfl rfl hk_1 (by omega) (by omega) (fun _ => rfl) (fun z48 ez48 => ?_)
            refine hxa_goto (by rfl) ?_
            refine hxa_goto (by rfl) ?_
            exact ih7 w7_0 z48 (.int z44) (x7_3) (x7_4) (x7_5) (x7_6) (x7_7) Ac7 rfl hx7_3 hx7_5 hx7_6 hAc7 ek7_0 (by omega) (by omega) (by omega) (by omega) (by omega)
          ·
            refine hxa_iload_n (by rfl) rfl ?_
            refine hxa_bipush (by rfl) rfl ?_
            refine hxj_ceq (by rfl) rfl hk_10 (fun q49 => ?_) (fun q49 => ?_)
            ·
              refine hxj_iinc (by rfl) rfl rfl hk_1 (by omega) (by omega) (fun _ => rfl) (fun z50 ez50 => ?_)
              refine hxa_goto (by rfl) ?_
              refine hxa_goto (by rfl) ?_
              exact ih7 w7_0 z50 (.int z44) (x7_3) (x7_4) (x7_5) (x7_6) (x7_7) Ac7 rfl hx7_3 hx7_5 hx7_6 hAc7 ek7_0 (by omega) (by omega) (by omega) (by omega) (by omega)
            ·
              refine hxa_iload_n (by rfl) rfl ?_
              refine hxa_bipush (by rfl) rfl ?_
              refine hxj_ceq (by rfl) rfl hk_13 (fun q51 => ?_) (fun q51 => ?_)
              ·
                refine hxj_iinc (by rfl) rfl rfl hk_1 (by omega) (by omega) (fun _ => rfl) (fun z52 ez52 => ?_)
                refine hxa_goto (by rfl) ?_
                refine hxa_goto (by rfl) ?_
                exact ih7 w7_0 z52 (.int z44) (x7_3) (x7_4) (x7_5) (x7_6) (x7_7) Ac7 rfl hx7_3 hx7_5 hx7_6 hAc7 ek7_0 (by omega) (by omega) (by omega) (by omega) (by omega)
              ·
                refine hxa_iload_n (by rfl) rfl ?_
                refine hxa_bipush (by rfl) rfl ?_
                refine hxj_cne (by rfl) rfl hk_32 (fun q53 => ?_) (fun q53 => ?_)
                ·
                  refine hxa_iload_n (by rfl) rfl ?_
                  refine hxa_call2 (by rfl) (by decide) (by rfl) (by rfl) (by rfl) (hX138 (d := d + 1)  z44) ?_
                  rintro _ _ ⟨rfl, z54, rfl, fz54⟩
                  rcases fz54 with fz54 | fz54
                  ·
                    refine hxj_zeq (by rfl) rfl (fun q55 => False.elim (by omega)) (fun q55 => ?_)
                    refine hxa_iconst (by rfl) rfl ?_
                    refine hxa_s1 (by rfl) (Or.inl ⟨_, rfl, rfl⟩) rfl ?_
                    refine hxa_lconst (by rfl) rfl ?_
                    refine hxa_lstore (by rfl) rfl ?_
                    exact L85 (Int.toNat (2000 - 0) + 1) z44 (Int32.ofNat 0) (Int64.ofNat 0) (by omega) (by omega) (by omega) (by omega) (by omega) (by omega) (by omega) (by omega)
                  ·
                    refine hxj_zeq (by rfl) rfl (fun q56 => ?_) (fun q56 => False.elim (by omega))
                    refine hxa_iload_n (by rfl) rfl ?_
                    refine hxa_call2 (by rfl) (by decide) (by rfl) (by rfl) (by rfl) (hX137 (d := d + 1)  z44) ?_
                    rintro _ _ ⟨rfl, z57, rfl, fz57⟩
                    rcases fz57 with fz57 | fz57
                    ·
                      refine hxj_zeq (by rfl) rfl (fun q58 => False.elim (by omega)) (fun q58 => ?_)
                      refine hxa_iconst (by rfl) rfl ?_
                      refine hxa_s1 (by rfl) (Or.inl ⟨_, rfl, rfl⟩) rfl ?_
                      refine hxa_iconst (by rfl) rfl ?_
                      refine hxa_s1 (by rfl) (Or.inr ⟨_, rfl, rfl⟩) rfl ?_
                      exact L208 (Int.toNat (2000 - 0) + 1) z44 (Int32.ofNat 0) (Int32.ofNat 0) (by omega) (by omega) (by omega) (by omega) (by omega) (by omega) (by omega) (by omega) (by omega) (by omega) (by omega)
                    ·
                      refine hxj_zeq (by rfl) rfl (fun q59 => ?_) (fun q59 => False.elim (by omega))
                      refine hxa_iload_n (by rfl) rfl ?_
                      refine hxa_aload_n (by rfl) rfl ?_
                      refine hxa_iload_n (by rfl) rfl ?_
                      refine hxa_iload_n (by rfl) rfl ?_
                      refine hxa_aload_n (by rfl) rfl ?_
                      refine hxa_iload_n (by rfl) rfl ?_
                      refine hxa_iconst (by rfl) rfl ?_
                      refine hxj_iadd (by rfl) rfl hk_1 (by omega) (by omega) (fun z60 ez60 => ?_)
                      refine hxa_call0 (by rfl) (by rfl) (by rfl) (by rfl) (by rfl) (by rfl) (hX136q4 (d := d + 1) hAc7 z60 (by omega)) ?_
                      rintro _ _ ⟨rfl, z61, rfl, fz61⟩
                      refine hxa_call0 (by rfl) (by rfl) (by rfl) (by rfl) (by rfl) (by rfl) (hX143q4 (d := d + 0) hAc7 x7_1 z44 z61 (by rw [(show Ac7.1 367 10 = w7_0 from ek7_0)]; omega) (by rw [(show Ac7.1 367 10 = w7_0 from ek7_0)]; omega)) ?_
                      rintro _ A62 ⟨hA62, z63, rfl, fz63⟩
                      have fbA62_367_10 := hA62.f (i := 367) (k := 10) (by rfl)
                      refine hxj_iadd (by rfl) rfl rfl (by omega) (by omega) (fun z64 ez64 => ?_)
                      refine hxa_s1 (by rfl) (Or.inl ⟨_, rfl, rfl⟩) rfl ?_
                      refine hxa_goto (by rfl) ?_
                      exact ih7 (A62.1 367 10) z64 (.int z44) (x7_3) (x7_4) (x7_5) (x7_6) (x7_7) A62 rfl hx7_3 hx7_5 hx7_6 hA62 rfl (by omega) (by omega) (by omega) (by omega) (by omega)
                ·
                  refine hxj_iinc (by rfl) rfl rfl hk_1 (by omega) (by omega) (fun _ => rfl) (fun z65 ez65 => ?_)
                  refine hxa_goto (by rfl) ?_
                  refine hxa_goto (by rfl) ?_
                  exact ih7 w7_0 z65 (.int z44) (x7_3) (x7_4) (x7_5) (x7_6) (x7_7) Ac7 rfl hx7_3 hx7_5 hx7_6 hAc7 ek7_0 (by omega) (by omega) (by omega) (by omega) (by omega)
        ·
          refine hxa_aload_n (by rfl) rfl ?_
          refine hxa_iconst (by rfl) rfl ?_
          refine hxa_aload_n (by rfl) rfl ?_
          refine hxj_getK (by rfl) (by rfl) (by rfl) ez45 ?_
          refine hxa_iconst (by rfl) rfl ?_
          refine hxa_lconst (by rfl) rfl ?_
          refine hxa_call0 (by rfl) (by rfl) (by rfl) (by rfl) (by rfl) (by rfl) (hX141q4 (d := d + 1) hAc7 (Int32.ofNat 0) (by omega) (by omega) z45 (Int32.ofNat 0) (by omega) (by omega) (Int64.ofNat 0) (by rw [(show Ac7.1 367 10 = w7_0 from ek7_0)]; omega) (by rw [(show Ac7.1 367 10 = w7_0 from ek7_0)]; omega)) ?_
          rintro _ A66 ⟨hA66, rfl, fA66⟩
          have fbA66_367_10 := hA66.f (i := 367) (k := 10) (by rfl)
          exact hxa_return (by rfl) rfl (hP _ _ ⟨hA66, rfl⟩)
  refine hxa_aload_n (by rfl) rfl ?_
  refine hxa_iconst (by rfl) rfl ?_
  refine hxj_putI (by rfl) (by rfl) (by rfl) (by rfl) hA (hbok (by rfl) hk_0 (by omega) (by omega)) (by rfl) (by rfl) (fun A67 hA67 eA67 fA67 => ?_)
  refine hxa_iconst (by rfl) rfl ?_
  refine hxa_s1 (by rfl) (Or.inl ⟨_, rfl, rfl⟩) rfl ?_
  exact L7 (Int.toNat ((402 - 0) * 3000 + (2001 - 0)) + 1) (Int32.ofNat 0) (Int32.ofNat 0) (.retAddr 0) (.retAddr 0) (.retAddr 0) (.retAddr 0) (.retAddr 0) (.retAddr 0) A67 rfl rfl rfl rfl hA67 (hkS eA67) (by omega) (by omega) (by omega) (by omega) (by omega)
theorem hX142q4 {d : Nat} {Bn Br : Int} {A0 A : hs_A} (hA : hJ 4 Bn Br A0 A)   : hxC (d + 3) 142 hm_m142 [.ref 368] A (fun r A' => hJ 4 Bn Br A0 A' ∧ r = none) := hxC.of (by rfl) (hY142q4 hA  (fun r A' h => h))
theorem hY149q4 {d : Nat} {Bn Br : Int} {A0 A : hs_A} (hA : hJ 4 Bn Br A0 A) (hl : (A0.1 367 18).toInt = 1) (a1 : Int32) (p1 : 0 ≤ a1.toInt) (q1 : a1.toInt ≤ 0) {P : Option Value → hs_A → Prop} (hP : ∀ (r : Option Value) (A' : hs_A), (hJ 4 Bn Br A0 A' ∧ A'.1 367 11 = A.1 367 11 ∧ A'.1 367 12 = A.1 367 12 ∧ A'.1 367 13 = A.1 367 13 ∧ A'.1 367 19 = A.1 367 19 ∧ A'.1 367 20 = A.1 367 20 ∧ A'.1 367 31 = A.1 367 31 ∧ A'.1 367 37 = A.1 367 37 ∧ A'.1 367 41 = A.1 367 41 ∧ r = none ∧ (A'.2.1 376 0 = Int32.ofNat 0 ∧ ∀ a : Nat, 0 ≤ (a : Int) → (a : Int) < 4 → (A'.2.1 383 a).toInt = (A'.2.1 384 a).toInt)) → P r A') : hxa (d + 0) none hm_t149 0 [.ref 368, .int a1, .retAddr 0] [] A P := by
  have k0 := hk_0
  have fb367_11 := hA.f (i := 367) (k := 11) (by rfl)
  have fb367_12 := hA.f (i := 367) (k := 12) (by rfl)
  have fb367_13 := hA.f (i := 367) (k := 13) (by rfl)
  have fb367_19 := hA.f (i := 367) (k := 19) (by rfl)
  have fb367_20 := hA.f (i := 367) (k := 20) (by rfl)
  have fb367_31 := hA.f (i := 367) (k := 31) (by rfl)
  have fb367_37 := hA.f (i := 367) (k := 37) (by rfl)
  have fb367_41 := hA.f (i := 367) (k := 41) (by rfl)
  have L57 : ∀ (m57 : Nat) (x57_2 : Int32) (Ac57 : hs_A) (hAc57 : hJ 4 Bn Br A0 Ac57) (ek57_0 : Ac57.1 367 11 = (A.1 367 11)) (ek57_1 : Ac57.1 367 12 = (A.1 367 12)) (ek57_2 : Ac57.1 367 13 = (A.1 367 13)) (ek57_3 : Ac57.1 367 19 = (A.1 367 19)) (ek57_4 : Ac57.1 367 20 = (A.1 367 20)) (ek57_5 : Ac57.1 367 31 = (A.1 367 31)) (ek57_6 : Ac57.1 367 37 = (A.1 367 37)) (ek57_7 : Ac57.1 367 41 = (A.1 367 41)) (bx57_2 : 0 ≤ x57_2.toInt) (cx57_2 : x57_2.toInt ≤ 4) (u57_0 : ∀ a : Nat, 4 * 0 ≤ (a : Int) → (a : Int) < 4 * 0 + x57_2.toInt → (Ac57.2.1 383 a).toInt = (Ac57.2.1 384 a).toInt) (u57_1 : Ac57.2.1 376 0 = Int32.ofNat 0) (hm57 : 4 - x57_2.toInt < (m57 : Int)), hxa (d + 0) none hm_t149 57 [.ref 368, .int a1, .int x57_2] [] Ac57 P := by
    intro m57
    induction m57 with
    | zero => intro x57_2 Ac57 hAc57 ek57_0 ek57_1 ek57_2 ek57_3 ek57_4 ek57_5 ek57_6 ek57_7 bx57_2 cx57_2 u57_0 u57_1 hm57;  exact False.elim (by omega)
    | succ m57 ih57 =>
      intro x57_2 Ac57 hAc57 ek57_0 ek57_1 ek57_2 ek57_3 ek57_4 ek57_5 ek57_6 ek57_7 bx57_2 cx57_2 u57_0 u57_1 hm57
      refine hxa_iload_n (by rfl) rfl ?_
      refine hxa_iconst (by rfl) rfl ?_
      refine hxj_cge (by rfl) rfl hk_4 (fun q1 => ?_) (fun q1 => ?_)
      ·
        exact hxa_return (by rfl) rfl (hP _ _ ⟨hAc57, ek57_0, ek57_1, ek57_2, ek57_3, ek57_4, ek57_5, ek57_6, ek57_7, rfl, ⟨u57_1, fun a h1 h2 => u57_0 a (by omega) (by omega)⟩⟩)
      ·
        refine hxa_aload_n (by rfl) rfl ?_
        refine hxa_get (v := .ref 384) (by rfl) (by rfl) (by rfl) rfl ?_
        refine hxa_iconst (by rfl) rfl ?_
        refine hxa_iload_n (by rfl) rfl ?_
        refine hxj_imul (by rfl) hk_4 rfl (by omega) (by omega) (fun z2 ez2 => ?_)
        refine hxa_iload_n (by rfl) rfl ?_
        refine hxj_iadd (by rfl) rfl rfl (by omega) (by omega) (fun z3 ez3 => ?_)
        refine hxa_iconst (by rfl) rfl ?_
        refine hxj_iastE (by rfl) (by rfl) rfl (by omega) (by omega) hAc57 (by omega) (hlrA hl rfl (by omega) (by omega) (by omega)) (fun A4 hA4 eA4 fA4 gA4 => ?_)
        refine hxa_aload_n (by rfl) rfl ?_
        refine hxa_get (v := .ref 385) (by rfl) (by rfl) (by rfl) rfl ?_
        refine hxa_iconst (by rfl) rfl ?_
        refine hxa_iload_n (by rfl) rfl ?_
        refine hxj_imul (by rfl) hk_4 rfl (by omega) (by omega) (fun z5 ez5 => ?_)
        refine hxa_iload_n (by rfl) rfl ?_
        refine hxj_iadd (by rfl) rfl rfl (by omega) (by omega) (fun z6 ez6 => ?_)
        refine hxa_iconst (by rfl) rfl ?_
        refine hxj_iastE (by rfl) (by rfl) rfl (by omega) (by omega) hA4 (by omega) (hlrA hl rfl (by omega) (by omega) (by omega)) (fun A7 hA7 eA7 fA7 gA7 => ?_)
        refine hxj_iinc (by rfl) rfl rfl hk_1 (by omega) (by omega) (fun _ => rfl) (fun z8 ez8 => ?_)
        refine hxa_goto (by rfl) ?_
        exact ih57 z8 A7 hA7 (hkA eA7 (hkA eA4 ek57_0)) (hkA eA7 (hkA eA4 ek57_1)) (hkA eA7 (hkA eA4 ek57_2)) (hkA eA7 (hkA eA4 ek57_3)) (hkA eA7 (hkA eA4 ek57_4)) (hkA eA7 (hkA eA4 ek57_5)) (hkA eA7 (hkA eA4 ek57_6)) (hkA eA7 (hkA eA4 ek57_7)) (by omega) (by omega) (by first | exact hpl (s := 0) (by assumption) (by assumption) rfl (by omega) (by omega) (by omega) (by assumption) u57_0 | (intro a h1 h2; omega)) (by exact (helA fA7 (by omega) (helA fA4 (by omega) u57_1))) (by omega)
  have L31 : ∀ (m31 : Nat) (x31_2 : Int32) (Ac31 : hs_A) (hAc31 : hJ 4 Bn Br A0 Ac31) (ek31_0 : Ac31.1 367 11 = (A.1 367 11)) (ek31_1 : Ac31.1 367 12 = (A.1 367 12)) (ek31_2 : Ac31.1 367 13 = (A.1 367 13)) (ek31_3 : Ac31.1 367 19 = (A.1 367 19)) (ek31_4 : Ac31.1 367 20 = (A.1 367 20)) (ek31_5 : Ac31.1 367 31 = (A.1 367 31)) (ek31_6 : Ac31.1 367 37 = (A.1 367 37)) (ek31_7 : Ac31.1 367 41 = (A.1 367 41)) (bx31_2 : 0 ≤ x31_2.toInt) (cx31_2 : x31_2.toInt ≤ 24) (u31_0 : Ac31.2.1 376 0 = Int32.ofNat 0) (hm31 : 24 - x31_2.toInt < (m31 : Int)), hxa (d + 0) none hm_t149 31 [.ref 368, .int a1, .int x31_2] [] Ac31 P := by
    intro m31
    induction m31 with
    | zero => intro x31_2 Ac31 hAc31 ek31_0 ek31_1 ek31_2 ek31_3 ek31_4 ek31_5 ek31_6 ek31_7 bx31_2 cx31_2 u31_0 hm31;  exact False.elim (by omega)
    | succ m31 ih31 =>
      intro x31_2 Ac31 hAc31 ek31_0 ek31_1 ek31_2 ek31_3 ek31_4 ek31_5 ek31_6 ek31_7 bx31_2 cx31_2 u31_0 hm31
      refine hxa_iload_n (by rfl) rfl ?_
      refine hxa_bipush (by rfl) rfl ?_
      refine hxj_cge (by rfl) rfl hk_24 (fun q9 => ?_) (fun q9 => ?_)
      ·
        refine hxa_iconst (by rfl) rfl ?_
        refine hxa_s1 (by rfl) (Or.inl ⟨_, rfl, rfl⟩) rfl ?_
        exact L57 (Int.toNat (4 - 0) + 1) (Int32.ofNat 0) Ac31 hAc31 ek31_0 ek31_1 ek31_2 ek31_3 ek31_4 ek31_5 ek31_6 ek31_7 (by omega) (by omega) (by first | exact hpl (s := 0) (by assumption) (by assumption) rfl (by omega) (by omega) (by omega) (by assumption) u57_0 | (intro a h1 h2; omega)) (by exact u31_0) (by omega)
      ·
        refine hxa_aload_n (by rfl) rfl ?_
        refine hxa_get (v := .ref 381) (by rfl) (by rfl) (by rfl) rfl ?_
        refine hxa_bipush (by rfl) rfl ?_
        refine hxa_iload_n (by rfl) rfl ?_
        refine hxj_imul (by rfl) hk_24 rfl (by omega) (by omega) (fun z10 ez10 => ?_)
        refine hxa_iload_n (by rfl) rfl ?_
        refine hxj_iadd (by rfl) rfl rfl (by omega) (by omega) (fun z11 ez11 => ?_)
        refine hxa_iconst (by rfl) rfl ?_
        refine hxj_iast (by rfl) (by rfl) rfl (by omega) (by omega) hAc31 (hbokN (by rfl)) (by rfl) (by rfl) (fun A12 hA12 eA12 fA12 gA12 => ?_)
        refine hxj_iinc (by rfl) rfl rfl hk_1 (by omega) (by omega) (fun _ => rfl) (fun z13 ez13 => ?_)
        refine hxa_goto (by rfl) ?_
        exact ih31 z13 A12 hA12 (hkA eA12 ek31_0) (hkA eA12 ek31_1) (hkA eA12 ek31_2) (hkA eA12 ek31_3) (hkA eA12 ek31_4) (hkA eA12 ek31_5) (hkA eA12 ek31_6) (hkA eA12 ek31_7) (by omega) (by omega) (by exact (helA fA12 (by omega) u31_0)) (by omega)
  refine hxa_aload_n (by rfl) rfl ?_
  refine hxa_get (v := .ref 377) (by rfl) (by rfl) (by rfl) rfl ?_
  refine hxa_iload_n (by rfl) rfl ?_
  refine hxa_iconst (by rfl) rfl ?_
  refine hxj_iast (by rfl) (by rfl) rfl (by omega) (by omega) hA (hbok (by rfl) hk_0 (by omega) (by omega)) (by rfl) (by rfl) (fun A14 hA14 eA14 fA14 gA14 => ?_)
  have e376 : A14.2.1 376 0 = Int32.ofNat 0 := by rw [fA14, (show a1.toNatClampNeg = 0 from by have := hn_cn (j := a1) (by omega); omega), hup1]
  refine hxa_aload_n (by rfl) rfl ?_
  refine hxa_get (v := .ref 380) (by rfl) (by rfl) (by rfl) rfl ?_
  refine hxa_iload_n (by rfl) rfl ?_
  refine hxa_iconst (by rfl) rfl ?_
  refine hxj_iast (by rfl) (by rfl) rfl (by omega) (by omega) hA14 (hbokN (by rfl)) (by rfl) (by rfl) (fun A15 hA15 eA15 fA15 gA15 => ?_)
  refine hxa_aload_n (by rfl) rfl ?_
  refine hxa_get (v := .ref 382) (by rfl) (by rfl) (by rfl) rfl ?_
  refine hxa_iload_n (by rfl) rfl ?_
  refine hxa_bipush (by rfl) rfl ?_
  refine hxj_iast (by rfl) (by rfl) rfl (by omega) (by omega) hA15 (hbokN (by rfl)) (by rfl) (by rfl) (fun A16 hA16 eA16 fA16 gA16 => ?_)
  refine hxa_aload_n (by rfl) rfl ?_
  refine hxa_get (v := .ref 383) (by rfl) (by rfl) (by rfl) rfl ?_
  refine hxa_iload_n (by rfl) rfl ?_
  refine hxa_iconst (by rfl) rfl ?_
  refine hxj_iast (by rfl) (by rfl) rfl (by omega) (by omega) hA16 (hbokN (by rfl)) (by rfl) (by rfl) (fun A17 hA17 eA17 fA17 gA17 => ?_)
  refine hxa_iconst (by rfl) rfl ?_
  refine hxa_s1 (by rfl) (Or.inl ⟨_, rfl, rfl⟩) rfl ?_
  exact L31 (Int.toNat (24 - 0) + 1) (Int32.ofNat 0) A17 hA17 (hkA eA17 (hkA eA16 (hkA eA15 (hkA eA14 rfl)))) (hkA eA17 (hkA eA16 (hkA eA15 (hkA eA14 rfl)))) (hkA eA17 (hkA eA16 (hkA eA15 (hkA eA14 rfl)))) (hkA eA17 (hkA eA16 (hkA eA15 (hkA eA14 rfl)))) (hkA eA17 (hkA eA16 (hkA eA15 (hkA eA14 rfl)))) (hkA eA17 (hkA eA16 (hkA eA15 (hkA eA14 rfl)))) (hkA eA17 (hkA eA16 (hkA eA15 (hkA eA14 rfl)))) (hkA eA17 (hkA eA16 (hkA eA15 (hkA eA14 rfl)))) (by omega) (by omega) (by exact (helA fA17 (by omega) (helA fA16 (by omega) (helA fA15 (by omega) e376)))) (by omega)
theorem hX149q4 {d : Nat} {Bn Br : Int} {A0 A : hs_A} (hA : hJ 4 Bn Br A0 A) (hl : (A0.1 367 18).toInt = 1) (a1 : Int32) (p1 : 0 ≤ a1.toInt) (q1 : a1.toInt ≤ 0) : hxC (d + 1) 149 hm_m149 [.ref 368, .int a1] A (fun r A' => hJ 4 Bn Br A0 A' ∧ A'.1 367 11 = A.1 367 11 ∧ A'.1 367 12 = A.1 367 12 ∧ A'.1 367 13 = A.1 367 13 ∧ A'.1 367 19 = A.1 367 19 ∧ A'.1 367 20 = A.1 367 20 ∧ A'.1 367 31 = A.1 367 31 ∧ A'.1 367 37 = A.1 367 37 ∧ A'.1 367 41 = A.1 367 41 ∧ r = none ∧ (A'.2.1 376 0 = Int32.ofNat 0 ∧ ∀ a : Nat, 0 ≤ (a : Int) → (a : Int) < 4 → (A'.2.1 383 a).toInt = (A'.2.1 384 a).toInt)) := hxC.of (by rfl) (hY149q4 hA hl a1 p1 q1 (fun r A' h => h))
theorem hY145q5 {d : Nat} {Bn Br : Int} {A0 A : hs_A} (hA : hJ 5 Bn Br A0 A)  (a1 : Int32) (p1 : 1 ≤ a1.toInt) (q1 : a1.toInt ≤ 2) {P : Option Value → hs_A → Prop} (hP : ∀ (r : Option Value) (A' : hs_A), (hJ 5 Bn Br A0 A' ∧ A'.1 367 12 = A.1 367 12 ∧ A'.1 367 19 = A.1 367 19 ∧ A'.1 367 20 = A.1 367 20 ∧ A'.1 367 31 = A.1 367 31 ∧ A'.1 367 37 = A.1 367 37 ∧ A'.1 367 41 = A.1 367 41 ∧ A'.2.1 = A.2.1 ∧ r = none ∧ (¬ (A'.1 367 13).toInt = 0 ∧ (A'.1 367 11).toInt = (A.1 367 11).toInt)) → P r A') : hxa (d + 0) none hm_t145 0 [.ref 368, .int a1] [] A P := by
  have fb367_11 := hA.f (i := 367) (k := 11) (by rfl)
  have fb367_12 := hA.f (i := 367) (k := 12) (by rfl)
  have fb367_13 := hA.f (i := 367) (k := 13) (by rfl)
  have fb367_19 := hA.f (i := 367) (k := 19) (by rfl)
  have fb367_20 := hA.f (i := 367) (k := 20) (by rfl)
  have fb367_31 := hA.f (i := 367) (k := 31) (by rfl)
  have fb367_37 := hA.f (i := 367) (k := 37) (by rfl)
  have fb367_41 := hA.f (i := 367) (k := 41) (by rfl)
  refine hxa_aload_n (by rfl) rfl ?_
  refine hxj_getK (by rfl) (by rfl) (by rfl) rfl ?_
  refine hxj_zle (by rfl) rfl (fun q1 => ?_) (fun q1 => ?_)
  ·
    refine hxa_aload_n (by rfl) rfl ?_
    refine hxa_iload_n (by rfl) rfl ?_
    refine hxj_putI (by rfl) (by rfl) (by rfl) (by rfl) hA (hbok (by rfl) rfl (by omega) (by omega)) (by rfl) (by rfl) (fun A2 hA2 eA2 fA2 => ?_)
    refine hxa_aload_n (by rfl) rfl ?_
    refine hxa_aload_n (by rfl) rfl ?_
    refine hxa_get (v := .ref 372) (by rfl) (by rfl) (by rfl) rfl ?_
    refine hxa_aload_n (by rfl) rfl ?_
    refine hxj_getK (by rfl) (by rfl) (by rfl) (hkF eA2 (by first | decide | omega) rfl) ?_
    refine hxj_iald (by rfl) (by rfl) rfl (by omega) (by omega) (fun z3 ez3 => ?_)
    refine hxj_putI (by rfl) (by rfl) (by rfl) (by rfl) hA2 (hbokN (by rfl)) (by rfl) (by rfl) (fun A4 hA4 eA4 fA4 => ?_)
    exact hxa_return (by rfl) rfl (hP _ _ ⟨hA4, (hkF eA4 (by first | decide | omega) (hkF eA2 (by first | decide | omega) rfl)), (hkF eA4 (by first | decide | omega) (hkF eA2 (by first | decide | omega) rfl)), (hkF eA4 (by first | decide | omega) (hkF eA2 (by first | decide | omega) rfl)), (hkF eA4 (by first | decide | omega) (hkF eA2 (by first | decide | omega) rfl)), (hkF eA4 (by first | decide | omega) (hkF eA2 (by first | decide | omega) rfl)), (hkF eA4 (by first | decide | omega) (hkF eA2 (by first | decide | omega) rfl)), ((congrArg Prod.fst fA4).trans ((congrArg Prod.fst fA2).trans rfl)), rfl, by rw [(show A4.1 367 11 = (A.1 367 11) from (hkF eA4 (by first | decide | omega) (hkF eA2 (by first | decide | omega) rfl))), (show A4.1 367 13 = a1 from (hkF eA4 (by first | decide | omega) (hkS eA2)))]; omega⟩)
  ·
    exact hxa_return (by rfl) rfl (hP _ _ ⟨hA, rfl, rfl, rfl, rfl, rfl, rfl, rfl, rfl, by omega⟩)
theorem hX145q5 {d : Nat} {Bn Br : Int} {A0 A : hs_A} (hA : hJ 5 Bn Br A0 A)  (a1 : Int32) (p1 : 1 ≤ a1.toInt) (q1 : a1.toInt ≤ 2) : hxC (d + 1) 145 hm_m145 [.ref 368, .int a1] A (fun r A' => hJ 5 Bn Br A0 A' ∧ A'.1 367 12 = A.1 367 12 ∧ A'.1 367 19 = A.1 367 19 ∧ A'.1 367 20 = A.1 367 20 ∧ A'.1 367 31 = A.1 367 31 ∧ A'.1 367 37 = A.1 367 37 ∧ A'.1 367 41 = A.1 367 41 ∧ A'.2.1 = A.2.1 ∧ r = none ∧ (¬ (A'.1 367 13).toInt = 0 ∧ (A'.1 367 11).toInt = (A.1 367 11).toInt)) := hxC.of (by rfl) (hY145q5 hA a1 p1 q1 (fun r A' h => h))
theorem hY146q5 {d : Nat} {Bn Br : Int} {A0 A : hs_A} (hA : hJ 5 Bn Br A0 A)  (a1 : Int32) (a2 : Int32) (p2 : 0 ≤ a2.toInt) (q2 : a2.toInt ≤ 402) {P : Option Value → hs_A → Prop} (hP : ∀ (r : Option Value) (A' : hs_A), (hJ 5 Bn Br A0 A' ∧ A'.1 367 12 = A.1 367 12 ∧ A'.1 367 19 = A.1 367 19 ∧ A'.1 367 20 = A.1 367 20 ∧ A'.1 367 31 = A.1 367 31 ∧ A'.1 367 37 = A.1 367 37 ∧ A'.1 367 41 = A.1 367 41 ∧ A'.1 367 11 = A.1 367 11 ∧ A'.1 367 13 = A.1 367 13 ∧ A'.2.1 = A.2.1 ∧ r = none) → P r A') : hxa (d + 0) none hm_t146 0 [.ref 368, .int a1, .int a2, .retAddr 0] [] A P := by
  have fb367_11 := hA.f (i := 367) (k := 11) (by rfl)
  have fb367_12 := hA.f (i := 367) (k := 12) (by rfl)
  have fb367_13 := hA.f (i := 367) (k := 13) (by rfl)
  have fb367_19 := hA.f (i := 367) (k := 19) (by rfl)
  have fb367_20 := hA.f (i := 367) (k := 20) (by rfl)
  have fb367_31 := hA.f (i := 367) (k := 31) (by rfl)
  have fb367_37 := hA.f (i := 367) (k := 37) (by rfl)
  have fb367_41 := hA.f (i := 367) (k := 41) (by rfl)
  refine hxa_aload_n (by rfl) rfl ?_
  refine hxa_get (v := .ref 372) (by rfl) (by rfl) (by rfl) rfl ?_
  refine hxa_iload_n (by rfl) rfl ?_
  refine hxj_iald (by rfl) (by rfl) rfl (by omega) (by omega) (fun z1 ez1 => ?_)
  refine hxa_s1 (by rfl) (Or.inl ⟨_, rfl, rfl⟩) rfl ?_
  refine hxa_aload_n (by rfl) rfl ?_
  refine hxj_getK (by rfl) (by rfl) (by rfl) rfl ?_
  refine hxj_zgt (by rfl) rfl (fun q2 => ?_) (fun q2 => ?_)
  ·
    exact hxa_return (by rfl) rfl (hP _ _ ⟨hA, rfl, rfl, rfl, rfl, rfl, rfl, rfl, rfl, rfl, rfl⟩)
  ·
    refine hxa_aload_n (by rfl) rfl ?_
    refine hxj_getI (by rfl) (by rfl) (by rfl) (fun z3 ez3 => ?_)
    refine hxj_zeq (by rfl) rfl (fun q4 => ?_) (fun q4 => ?_)
    ·
      refine hxa_aload_n (by rfl) rfl ?_
      refine hxa_iload_n (by rfl) rfl ?_
      refine hxj_putI (by rfl) (by rfl) (by rfl) (by rfl) hA (hbokN (by rfl)) (by rfl) (by rfl) (fun A5 hA5 eA5 fA5 => ?_)
      refine hxa_aload_n (by rfl) rfl ?_
      refine hxa_iload_n (by rfl) rfl ?_
      refine hxj_putI (by rfl) (by rfl) (by rfl) (by rfl) hA5 (hbokN (by rfl)) (by rfl) (by rfl) (fun A6 hA6 eA6 fA6 => ?_)
      exact hxa_return (by rfl) rfl (hP _ _ ⟨hA6, (hkF eA6 (by first | decide | omega) (hkF eA5 (by first | decide | omega) rfl)), (hkF eA6 (by first | decide | omega) (hkF eA5 (by first | decide | omega) rfl)), (hkF eA6 (by first | decide | omega) (hkF eA5 (by first | decide | omega) rfl)), (hkF eA6 (by first | decide | omega) (hkF eA5 (by first | decide | omega) rfl)), (hkF eA6 (by first | decide | omega) (hkF eA5 (by first | decide | omega) rfl)), (hkF eA6 (by first | decide | omega) (hkF eA5 (by first | decide | omega) rfl)), (hkF eA6 (by first | decide | omega) (hkF eA5 (by first | decide | omega) rfl)), (hkF eA6 (by first | decide | omega) (hkF eA5 (by first | decide | omega) rfl)), ((congrArg Prod.fst fA6).trans ((congrArg Prod.fst fA5).trans rfl)), rfl⟩)
    ·
      refine hxa_iload_n (by rfl) rfl ?_
      refine hxa_aload_n (by rfl) rfl ?_
      refine hxj_getI (by rfl) (by rfl) (by rfl) (fun z7 ez7 => ?_)
      have rgz1 := hn_rng z1
      have rgz7 := hn_rng z7
      refine hxj_cgt (by rfl) rfl rfl (fun q8 => ?_) (fun q8 => ?_)
      ·
        exact hxa_return (by rfl) rfl (hP _ _ ⟨hA, rfl, rfl, rfl, rfl, rfl, rfl, rfl, rfl, rfl, rfl⟩)
      ·
        refine hxa_iload_n (by rfl) rfl ?_
        refine hxa_aload_n (by rfl) rfl ?_
        refine hxj_getK (by rfl) (by rfl) (by rfl) ez7 ?_
        refine hxj_cne (by rfl) rfl rfl (fun q9 => ?_) (fun q9 => ?_)
        ·
          refine hxa_aload_n (by rfl) rfl ?_
          refine hxa_iload_n (by rfl) rfl ?_
          refine hxj_putI (by rfl) (by rfl) (by rfl) (by rfl) hA (hbokN (by rfl)) (by rfl) (by rfl) (fun A10 hA10 eA10 fA10 => ?_)
          refine hxa_aload_n (by rfl) rfl ?_
          refine hxa_iload_n (by rfl) rfl ?_
          refine hxj_putI (by rfl) (by rfl) (by rfl) (by rfl) hA10 (hbokN (by rfl)) (by rfl) (by rfl) (fun A11 hA11 eA11 fA11 => ?_)
          exact hxa_return (by rfl) rfl (hP _ _ ⟨hA11, (hkF eA11 (by first | decide | omega) (hkF eA10 (by first | decide | omega) rfl)), (hkF eA11 (by first | decide | omega) (hkF eA10 (by first | decide | omega) rfl)), (hkF eA11 (by first | decide | omega) (hkF eA10 (by first | decide | omega) rfl)), (hkF eA11 (by first | decide | omega) (hkF eA10 (by first | decide | omega) rfl)), (hkF eA11 (by first | decide | omega) (hkF eA10 (by first | decide | omega) rfl)), (hkF eA11 (by first | decide | omega) (hkF eA10 (by first | decide | omega) rfl)), (hkF eA11 (by first | decide | omega) (hkF eA10 (by first | decide | omega) rfl)), (hkF eA11 (by first | decide | omega) (hkF eA10 (by first | decide | omega) rfl)), ((congrArg Prod.fst fA11).trans ((congrArg Prod.fst fA10).trans rfl)), rfl⟩)
        ·
          refine hxa_iload_n (by rfl) rfl ?_
          refine hxa_aload_n (by rfl) rfl ?_
          refine hxj_getK (by rfl) (by rfl) (by rfl) ez3 ?_
          have rga1 := hn_rng a1
          have rgz3 := hn_rng z3
          refine hxj_clt (by rfl) rfl rfl (fun q12 => ?_) (fun q12 => ?_)
          ·
            refine hxa_aload_n (by rfl) rfl ?_
            refine hxa_iload_n (by rfl) rfl ?_
            refine hxj_putI (by rfl) (by rfl) (by rfl) (by rfl) hA (hbokN (by rfl)) (by rfl) (by rfl) (fun A13 hA13 eA13 fA13 => ?_)
            refine hxa_aload_n (by rfl) rfl ?_
            refine hxa_iload_n (by rfl) rfl ?_
            refine hxj_putI (by rfl) (by rfl) (by rfl) (by rfl) hA13 (hbokN (by rfl)) (by rfl) (by rfl) (fun A14 hA14 eA14 fA14 => ?_)
            exact hxa_return (by rfl) rfl (hP _ _ ⟨hA14, (hkF eA14 (by first | decide | omega) (hkF eA13 (by first | decide | omega) rfl)), (hkF eA14 (by first | decide | omega) (hkF eA13 (by first | decide | omega) rfl)), (hkF eA14 (by first | decide | omega) (hkF eA13 (by first | decide | omega) rfl)), (hkF eA14 (by first | decide | omega) (hkF eA13 (by first | decide | omega) rfl)), (hkF eA14 (by first | decide | omega) (hkF eA13 (by first | decide | omega) rfl)), (hkF eA14 (by first | decide | omega) (hkF eA13 (by first | decide | omega) rfl)), (hkF eA14 (by first | decide | omega) (hkF eA13 (by first | decide | omega) rfl)), (hkF eA14 (by first | decide | omega) (hkF eA13 (by first | decide | omega) rfl)), ((congrArg Prod.fst fA14).trans ((congrArg Prod.fst fA13).trans rfl)), rfl⟩)
          ·
            exact hxa_return (by rfl) rfl (hP _ _ ⟨hA, rfl, rfl, rfl, rfl, rfl, rfl, rfl, rfl, rfl, rfl⟩)
theorem hX146q5 {d : Nat} {Bn Br : Int} {A0 A : hs_A} (hA : hJ 5 Bn Br A0 A)  (a1 : Int32) (a2 : Int32) (p2 : 0 ≤ a2.toInt) (q2 : a2.toInt ≤ 402) : hxC (d + 1) 146 hm_m146 [.ref 368, .int a1, .int a2] A (fun r A' => hJ 5 Bn Br A0 A' ∧ A'.1 367 12 = A.1 367 12 ∧ A'.1 367 19 = A.1 367 19 ∧ A'.1 367 20 = A.1 367 20 ∧ A'.1 367 31 = A.1 367 31 ∧ A'.1 367 37 = A.1 367 37 ∧ A'.1 367 41 = A.1 367 41 ∧ A'.1 367 11 = A.1 367 11 ∧ A'.1 367 13 = A.1 367 13 ∧ A'.2.1 = A.2.1 ∧ r = none) := hxC.of (by rfl) (hY146q5 hA a1 a2 p2 q2 (fun r A' h => h))
theorem hY147q5 {d : Nat} {Bn Br : Int} {A0 A : hs_A} (hA : hJ 5 Bn Br A0 A)   {P : Option Value → hs_A → Prop} (hP : ∀ (r : Option Value) (A' : hs_A), (hJ 5 Bn Br A0 A' ∧ A'.1 367 12 = A.1 367 12 ∧ A'.1 367 19 = A.1 367 19 ∧ A'.1 367 20 = A.1 367 20 ∧ A'.1 367 31 = A.1 367 31 ∧ A'.1 367 37 = A.1 367 37 ∧ A'.1 367 41 = A.1 367 41 ∧ A'.2.1 = A.2.1 ∧ r = none ∧ ((¬ (A'.1 367 13).toInt = 0 ∨ ((A.1 367 13).toInt = 0 ∧ (A'.1 367 11).toInt = (A.1 367 11).toInt + 1)) ∧ (A.1 367 11).toInt ≤ (A'.1 367 11).toInt ∧ (A'.1 367 11).toInt ≤ (A.1 367 11).toInt + 1)) → P r A') : hxa (d + 1) none hm_t147 0 [.ref 368] [] A P := by
  have k2 := hk_2
  have fb367_11 := hA.f (i := 367) (k := 11) (by rfl)
  have fb367_12 := hA.f (i := 367) (k := 12) (by rfl)
  have fb367_13 := hA.f (i := 367) (k := 13) (by rfl)
  have fb367_19 := hA.f (i := 367) (k := 19) (by rfl)
  have fb367_20 := hA.f (i := 367) (k := 20) (by rfl)
  have fb367_31 := hA.f (i := 367) (k := 31) (by rfl)
  have fb367_37 := hA.f (i := 367) (k := 37) (by rfl)
  have fb367_41 := hA.f (i := 367) (k := 41) (by rfl)
  refine hxa_aload_n (by rfl) rfl ?_
  refine hxj_getK (by rfl) (by rfl) (by rfl) rfl ?_
  refine hxa_sipush (by rfl) rfl ?_
  refine hxj_cne (by rfl) rfl hk_400 (fun q1 => ?_) (fun q1 => ?_)
  ·
    refine hxa_aload_n (by rfl) rfl ?_
    refine hxa_dupR (by rfl) ?_
    refine hxj_getK (by rfl) (by rfl) (by rfl) rfl ?_
    refine hxa_iconst (by rfl) rfl ?_
    refine hxj_iadd (by rfl) rfl hk_1 (by omega) (by omega) (fun z2 ez2 => ?_)
    refine hxj_putI (by rfl) (by rfl) (by rfl) (by rfl) hA (hbok (by rfl) rfl (by omega) (by omega)) (by rfl) (by rfl) (fun A3 hA3 eA3 fA3 => ?_)
    exact hxa_return (by rfl) rfl (hP _ _ ⟨hA3, (hkF eA3 (by first | decide | omega) rfl), (hkF eA3 (by first | decide | omega) rfl), (hkF eA3 (by first | decide | omega) rfl), (hkF eA3 (by first | decide | omega) rfl), (hkF eA3 (by first | decide | omega) rfl), (hkF eA3 (by first | decide | omega) rfl), ((congrArg Prod.fst fA3).trans rfl), rfl, by rw [(show A3.1 367 11 = z2 from (hkS eA3)), (show A3.1 367 13 = (A.1 367 13) from (hkF eA3 (by first | decide | omega) rfl))]; omega⟩)
  ·
    refine hxa_aload_n (by rfl) rfl ?_
    refine hxa_iconst (by rfl) rfl ?_
    refine hxa_call0 (by rfl) (by rfl) (by rfl) (by rfl) (by rfl) (by rfl) (hX145q5 (d := d + 0) hA (Int32.ofNat 2) (by omega) (by omega)) ?_
    rintro _ A4 ⟨hA4, frA4_0, frA4_1, frA4_2, frA4_3, frA4_4, frA4_5, aeA4, rfl, fA4⟩
    have ttA4_12 : (A4.1 367 12).toInt = (A.1 367 12).toInt := congrArg Int32.toInt (frA4_0.trans rfl)
    have ttA4_19 : (A4.1 367 19).toInt = (A.1 367 19).toInt := congrArg Int32.toInt (frA4_1.trans rfl)
    have ttA4_20 : (A4.1 367 20).toInt = (A.1 367 20).toInt := congrArg Int32.toInt (frA4_2.trans rfl)
    have ttA4_31 : (A4.1 367 31).toInt = (A.1 367 31).toInt := congrArg Int32.toInt (frA4_3.trans rfl)
    have ttA4_37 : (A4.1 367 37).toInt = (A.1 367 37).toInt := congrArg Int32.toInt (frA4_4.trans rfl)
    have ttA4_41 : (A4.1 367 41).toInt = (A.1 367 41).toInt := congrArg Int32.toInt (frA4_5.trans rfl)
    have fbA4_367_11 := hA4.f (i := 367) (k := 11) (by rfl)
    have fbA4_367_13 := hA4.f (i := 367) (k := 13) (by rfl)
    refine hxa_goto (by rfl) ?_
    exact hxa_return (by rfl) rfl (hP _ _ ⟨hA4, (frA4_0.trans rfl), (frA4_1.trans rfl), (frA4_2.trans rfl), (frA4_3.trans rfl), (frA4_4.trans rfl), (frA4_5.trans rfl), (aeA4.trans rfl), rfl, by omega⟩)
theorem hX147q5 {d : Nat} {Bn Br : Int} {A0 A : hs_A} (hA : hJ 5 Bn Br A0 A)   : hxC (d + 2) 147 hm_m147 [.ref 368] A (fun r A' => hJ 5 Bn Br A0 A' ∧ A'.1 367 12 = A.1 367 12 ∧ A'.1 367 19 = A.1 367 19 ∧ A'.1 367 20 = A.1 367 20 ∧ A'.1 367 31 = A.1 367 31 ∧ A'.1 367 37 = A.1 367 37 ∧ A'.1 367 41 = A.1 367 41 ∧ A'.2.1 = A.2.1 ∧ r = none ∧ ((¬ (A'.1 367 13).toInt = 0 ∨ ((A.1 367 13).toInt = 0 ∧ (A'.1 367 11).toInt = (A.1 367 11).toInt + 1)) ∧ (A.1 367 11).toInt ≤ (A'.1 367 11).toInt ∧ (A'.1 367 11).toInt ≤ (A.1 367 11).toInt + 1)) := hxC.of (by rfl) (hY147q5 hA  (fun r A' h => h))
theorem hY144q5 {d : Nat} {Bn Br : Int} {A0 A : hs_A} (hA : hJ 5 Bn Br A0 A)  (a1 : Int32) {P : Option Value → hs_A → Prop} (hP : ∀ (r : Option Value) (A' : hs_A), (A = A' ∧ ∃ z : Int32, r = some (.int z) ∧ ((z.toInt = 1 ∧ (A.1 367 13).toInt = 0 ∧ (A.2.1 370 (A.1 367 11).toNatClampNeg).toInt = a1.toInt) ∨ (z.toInt = 0 ∧ (¬ (A.1 367 13).toInt = 0 ∨ ¬ (A.2.1 370 (A.1 367 11).toNatClampNeg).toInt = a1.toInt)))) → P r A') : hxa (d + 0) (some (.boolean)) hm_t144 0 [.ref 368, .int a1] [] A P := by
  have k0 := hk_0
  have k1 := hk_1
  have fb367_11 := hA.f (i := 367) (k := 11) (by rfl)
  have fb367_13 := hA.f (i := 367) (k := 13) (by rfl)
  refine hxa_aload_n (by rfl) rfl ?_
  refine hxj_getK (by rfl) (by rfl) (by rfl) rfl ?_
  refine hxj_zne (by rfl) rfl (fun q1 => ?_) (fun q1 => ?_)
  ·
    refine hxa_iconst (by rfl) rfl ?_
    exact hxa_ireturn (by rfl) (by rfl) (hP _ _ ⟨rfl, _, rfl, by first | omega | (rw [hA]; omega)⟩)
  ·
    refine hxa_aload_n (by rfl) rfl ?_
    refine hxa_get (v := .ref 371) (by rfl) (by rfl) (by rfl) rfl ?_
    refine hxa_aload_n (by rfl) rfl ?_
    refine hxj_getK (by rfl) (by rfl) (by rfl) rfl ?_
    refine hxj_ialdB (by rfl) (by rfl) rfl (by omega) (by omega) hA (by rfl) (fun z2 ez2 fz2 gz2 => ?_)
    refine hxa_iload_n (by rfl) rfl ?_
    refine hxj_cne (by rfl) rfl rfl (fun q3 => ?_) (fun q3 => ?_)
    ·
      refine hxa_iconst (by rfl) rfl ?_
      exact hxa_ireturn (by rfl) (by rfl) (hP _ _ ⟨rfl, _, rfl, by first | omega | (rw [ez2]; omega)⟩)
    ·
      refine hxa_iconst (by rfl) rfl ?_
      refine hxa_goto (by rfl) ?_
      exact hxa_ireturn (by rfl) (by rfl) (hP _ _ ⟨rfl, _, rfl, by first | omega | (rw [ez2]; omega)⟩)
theorem hX144q5 {d : Nat} {Bn Br : Int} {A0 A : hs_A} (hA : hJ 5 Bn Br A0 A)  (a1 : Int32) : hxC (d + 1) 144 hm_m144 [.ref 368, .int a1] A (fun r A' => A = A' ∧ ∃ z : Int32, r = some (.int z) ∧ ((z.toInt = 1 ∧ (A.1 367 13).toInt = 0 ∧ (A.2.1 370 (A.1 367 11).toNatClampNeg).toInt = a1.toInt) ∨ (z.toInt = 0 ∧ (¬ (A.1 367 13).toInt = 0 ∨ ¬ (A.2.1 370 (A.1 367 11).toNatClampNeg).toInt = a1.toInt)))) := hxC.of (by rfl) (hY144q5 hA a1 (fun r A' h => h))
theorem hY148q5 {d : Nat} {Bn Br : Int} {A0 A : hs_A} (hA : hJ 5 Bn Br A0 A)  (a1 : Int32) {P : Option Value → hs_A → Prop} (hP : ∀ (r : Option Value) (A' : hs_A), (hJ 5 Bn Br A0 A' ∧ A'.1 367 12 = A.1 367 12 ∧ A'.1 367 19 = A.1 367 19 ∧ A'.1 367 20 = A.1 367 20 ∧ A'.1 367 31 = A.1 367 31 ∧ A'.1 367 37 = A.1 367 37 ∧ A'.1 367 41 = A.1 367 41 ∧ A'.2.1 = A.2.1 ∧ r = none ∧ ((¬ (A'.1 367 13).toInt = 0 ∨ ((A.1 367 13).toInt = 0 ∧ (A'.1 367 11).toInt = (A.1 367 11).toInt + 1)) ∧ (A.1 367 11).toInt ≤ (A'.1 367 11).toInt ∧ (A'.1 367 11).toInt ≤ (A.1 367 11).toInt + 1)) → P r A') : hxa (d + 2) none hm_t148 0 [.ref 368, .int a1] [] A P := by
  have k1 := hk_1
  have fb367_11 := hA.f (i := 367) (k := 11) (by rfl)
  have fb367_12 := hA.f (i := 367) (k := 12) (by rfl)
  have fb367_13 := hA.f (i := 367) (k := 13) (by rfl)
  have fb367_19 := hA.f (i := 367) (k := 19) (by rfl)
  have fb367_20 := hA.f (i := 367) (k := 20) (by rfl)
  have fb367_31 := hA.f (i := 367) (k := 31) (by rfl)
  have fb367_37 := hA.f (i := 367) (k := 37) (by rfl)
  have fb367_41 := hA.f (i := 367) (k := 41) (by rfl)
  refine hxa_aload_n (by rfl) rfl ?_
  refine hxa_iload_n (by rfl) rfl ?_
  refine hxa_call0 (by rfl) (by rfl) (by rfl) (by rfl) (by rfl) (by rfl) (hX144q5 (d := d + 1) hA a1) ?_
  rintro _ _ ⟨rfl, z1, rfl, fz1⟩
  rcases fz1 with fz1 | fz1
  ·
    refine hxj_zeq (by rfl) rfl (fun q2 => False.elim (by omega)) (fun q2 => ?_)
    refine hxa_aload_n (by rfl) rfl ?_
    refine hxa_call0 (by rfl) (by rfl) (by rfl) (by rfl) (by rfl) (by rfl) (hX147q5 (d := d + 0) hA ) ?_
    rintro _ A3 ⟨hA3, frA3_0, frA3_1, frA3_2, frA3_3, frA3_4, frA3_5, aeA3, rfl, fA3⟩
    have ttA3_12 : (A3.1 367 12).toInt = (A.1 367 12).toInt := congrArg Int32.toInt (frA3_0.trans rfl)
    have ttA3_19 : (A3.1 367 19).toInt = (A.1 367 19).toInt := congrArg Int32.toInt (frA3_1.trans rfl)
    have ttA3_20 : (A3.1 367 20).toInt = (A.1 367 20).toInt := congrArg Int32.toInt (frA3_2.trans rfl)
    have ttA3_31 : (A3.1 367 31).toInt = (A.1 367 31).toInt := congrArg Int32.toInt (frA3_3.trans rfl)
    have ttA3_37 : (A3.1 367 37).toInt = (A.1 367 37).toInt := congrArg Int32.toInt (frA3_4.trans rfl)
    have ttA3_41 : (A3.1 367 41).toInt = (A.1 367 41).toInt := congrArg Int32.toInt (frA3_5.trans rfl)
    have fbA3_367_11 := hA3.f (i := 367) (k := 11) (by rfl)
    have fbA3_367_13 := hA3.f (i := 367) (k := 13) (by rfl)
    refine hxa_goto (by rfl) ?_
    exact hxa_return (by rfl) rfl (hP _ _ ⟨hA3, (frA3_0.trans rfl), (frA3_1.trans rfl), (frA3_2.trans rfl), (frA3_3.trans rfl), (frA3_4.trans rfl), (frA3_5.trans rfl), (aeA3.trans rfl), rfl, by omega⟩)
  ·
    refine hxj_zeq (by rfl) rfl (fun q4 => ?_) (fun q4 => False.elim (by omega))
    refine hxa_aload_n (by rfl) rfl ?_
    refine hxa_iconst (by rfl) rfl ?_
    refine hxa_call0 (by rfl) (by rfl) (by rfl) (by rfl) (by rfl) (by rfl) (hX145q5 (d := d + 1) hA (Int32.ofNat 1) (by omega) (by omega)) ?_
    rintro _ A5 ⟨hA5, frA5_0, frA5_1, frA5_2, frA5_3, frA5_4, frA5_5, aeA5, rfl, fA5⟩
    have ttA5_12 : (A5.1 367 12).toInt = (A.1 367 12).toInt := congrArg Int32.toInt (frA5_0.trans rfl)
    have ttA5_19 : (A5.1 367 19).toInt = (A.1 367 19).toInt := congrArg Int32.toInt (frA5_1.trans rfl)
    have ttA5_20 : (A5.1 367 20).toInt = (A.1 367 20).toInt := congrArg Int32.toInt (frA5_2.trans rfl)
    have ttA5_31 : (A5.1 367 31).toInt = (A.1 367 31).toInt := congrArg Int32.toInt (frA5_3.trans rfl)
    have ttA5_37 : (A5.1 367 37).toInt = (A.1 367 37).toInt := congrArg Int32.toInt (frA5_4.trans rfl)
    have ttA5_41 : (A5.1 367 41).toInt = (A.1 367 41).toInt := congrArg Int32.toInt (frA5_5.trans rfl)
    have fbA5_367_11 := hA5.f (i := 367) (k := 11) (by rfl)
    have fbA5_367_13 := hA5.f (i := 367) (k := 13) (by rfl)
    exact hxa_return (by rfl) rfl (hP _ _ ⟨hA5, (frA5_0.trans rfl), (frA5_1.trans rfl), (frA5_2.trans rfl), (frA5_3.trans rfl), (frA5_4.trans rfl), (frA5_5.trans rfl), (aeA5.trans rfl), rfl, by omega⟩)
theorem hX148q5 {d : Nat} {Bn Br : Int} {A0 A : hs_A} (hA : hJ 5 Bn Br A0 A)  (a1 : Int32) : hxC (d + 3) 148 hm_m148 [.ref 368, .int a1] A (fun r A' => hJ 5 Bn Br A0 A' ∧ A'.1 367 12 = A.1 367 12 ∧ A'.1 367 19 = A.1 367 19 ∧ A'.1 367 20 = A.1 367 20 ∧ A'.1 367 31 = A.1 367 31 ∧ A'.1 367 37 = A.1 367 37 ∧ A'.1 367 41 = A.1 367 41 ∧ A'.2.1 = A.2.1 ∧ r = none ∧ ((¬ (A'.1 367 13).toInt = 0 ∨ ((A.1 367 13).toInt = 0 ∧ (A'.1 367 11).toInt = (A.1 367 11).toInt + 1)) ∧ (A.1 367 11).toInt ≤ (A'.1 367 11).toInt ∧ (A'.1 367 11).toInt ≤ (A.1 367 11).toInt + 1)) := hxC.of (by rfl) (hY148q5 hA a1 (fun r A' h => h))
theorem hY152q5 {d : Nat} {Bn Br : Int} {A0 A : hs_A} (hA : hJ 5 Bn Br A0 A)  (a1 : Int32) (a2 : Int32) {P : Option Value → hs_A → Prop} (hP : ∀ (r : Option Value) (A' : hs_A), (hJ 5 Bn Br A0 A' ∧ A'.1 367 12 = A.1 367 12 ∧ A'.1 367 19 = A.1 367 19 ∧ A'.1 367 20 = A.1 367 20 ∧ A'.1 367 31 = A.1 367 31 ∧ A'.1 367 37 = A.1 367 37 ∧ A'.1 367 41 = A.1 367 41 ∧ A'.2.1 = A.2.1 ∧ r = none ∧ ((¬ (A'.1 367 13).toInt = 0 ∨ ((A.1 367 13).toInt = 0 ∧ (A'.1 367 11).toInt = (A.1 367 11).toInt + 1 ∧ ¬ a1.toInt = a2.toInt)) ∧ (A.1 367 11).toInt ≤ (A'.1 367 11).toInt ∧ (A'.1 367 11).toInt ≤ (A.1 367 11).toInt + 1)) → P r A') : hxa (d + 2) none hm_t152 0 [.ref 368, .int a1, .int a2] [] A P := by
  have k2 := hk_2
  have fb367_11 := hA.f (i := 367) (k := 11) (by rfl)
  have fb367_12 := hA.f (i := 367) (k := 12) (by rfl)
  have fb367_13 := hA.f (i := 367) (k := 13) (by rfl)
  have fb367_19 := hA.f (i := 367) (k := 19) (by rfl)
  have fb367_20 := hA.f (i := 367) (k := 20) (by rfl)
  have fb367_31 := hA.f (i := 367) (k := 31) (by rfl)
  have fb367_37 := hA.f (i := 367) (k := 37) (by rfl)
  have fb367_41 := hA.f (i := 367) (k := 41) (by rfl)
  refine hxa_iload_n (by rfl) rfl ?_
  refine hxa_iload_n (by rfl) rfl ?_
  refine hxj_cne (by rfl) rfl rfl (fun q1 => ?_) (fun q1 => ?_)
  ·
    refine hxa_aload_n (by rfl) rfl ?_
    refine hxj_getK (by rfl) (by rfl) (by rfl) rfl ?_
    refine hxj_zne (by rfl) rfl (fun q2 => ?_) (fun q2 => ?_)
    ·
      exact hxa_return (by rfl) rfl (hP _ _ ⟨hA, rfl, rfl, rfl, rfl, rfl, rfl, rfl, rfl, by omega⟩)
    ·
      refine hxa_aload_n (by rfl) rfl ?_
      refine hxa_call0 (by rfl) (by rfl) (by rfl) (by rfl) (by rfl) (by rfl) (hX147q5 (d := d + 0) hA ) ?_
      rintro _ A3 ⟨hA3, frA3_0, frA3_1, frA3_2, frA3_3, frA3_4, frA3_5, aeA3, rfl, fA3⟩
      have ttA3_12 : (A3.1 367 12).toInt = (A.1 367 12).toInt := congrArg Int32.toInt (frA3_0.trans rfl)
      have ttA3_19 : (A3.1 367 19).toInt = (A.1 367 19).toInt := congrArg Int32.toInt (frA3_1.trans rfl)
      have ttA3_20 : (A3.1 367 20).toInt = (A.1 367 20).toInt := congrArg Int32.toInt (frA3_2.trans rfl)
      have ttA3_31 : (A3.1 367 31).toInt = (A.1 367 31).toInt := congrArg Int32.toInt (frA3_3.trans rfl)
      have ttA3_37 : (A3.1 367 37).toInt = (A.1 367 37).toInt := congrArg Int32.toInt (frA3_4.trans rfl)
      have ttA3_41 : (A3.1 367 41).toInt = (A.1 367 41).toInt := congrArg Int32.toInt (frA3_5.trans rfl)
      have fbA3_367_11 := hA3.f (i := 367) (k := 11) (by rfl)
      have fbA3_367_13 := hA3.f (i := 367) (k := 13) (by rfl)
      exact hxa_return (by rfl) rfl (hP _ _ ⟨hA3, (frA3_0.trans rfl), (frA3_1.trans rfl), (frA3_2.trans rfl), (frA3_3.trans rfl), (frA3_4.trans rfl), (frA3_5.trans rfl), (aeA3.trans rfl), rfl, by omega⟩)
  ·
    refine hxa_aload_n (by rfl) rfl ?_
    refine hxa_iconst (by rfl) rfl ?_
    refine hxa_call0 (by rfl) (by rfl) (by rfl) (by rfl) (by rfl) (by rfl) (hX145q5 (d := d + 1) hA (Int32.ofNat 2) (by omega) (by omega)) ?_
    rintro _ A4 ⟨hA4, frA4_0, frA4_1, frA4_2, frA4_3, frA4_4, frA4_5, aeA4, rfl, fA4⟩
    have ttA4_12 : (A4.1 367 12).toInt = (A.1 367 12).toInt := congrArg Int32.toInt (frA4_0.trans rfl)
    have ttA4_19 : (A4.1 367 19).toInt = (A.1 367 19).toInt := congrArg Int32.toInt (frA4_1.trans rfl)
    have ttA4_20 : (A4.1 367 20).toInt = (A.1 367 20).toInt := congrArg Int32.toInt (frA4_2.trans rfl)
    have ttA4_31 : (A4.1 367 31).toInt = (A.1 367 31).toInt := congrArg Int32.toInt (frA4_3.trans rfl)
    have ttA4_37 : (A4.1 367 37).toInt = (A.1 367 37).toInt := congrArg Int32.toInt (frA4_4.trans rfl)
    have ttA4_41 : (A4.1 367 41).toInt = (A.1 367 41).toInt := congrArg Int32.toInt (frA4_5.trans rfl)
    have fbA4_367_11 := hA4.f (i := 367) (k := 11) (by rfl)
    have fbA4_367_13 := hA4.f (i := 367) (k := 13) (by rfl)
    refine hxa_aload_n (by rfl) rfl ?_
    refine hxj_getK (by rfl) (by rfl) (by rfl) rfl ?_
    refine hxj_zne (by rfl) rfl (fun q5 => ?_) (fun q5 => ?_)
    ·
      exact hxa_return (by rfl) rfl (hP _ _ ⟨hA4, (frA4_0.trans rfl), (frA4_1.trans rfl), (frA4_2.trans rfl), (frA4_3.trans rfl), (frA4_4.trans rfl), (frA4_5.trans rfl), (aeA4.trans rfl), rfl, by omega⟩)
    ·
      refine hxa_aload_n (by rfl) rfl ?_
      refine hxa_call0 (by rfl) (by rfl) (by rfl) (by rfl) (by rfl) (by rfl) (hX147q5 (d := d + 0) hA4 ) ?_
      rintro _ A6 ⟨hA6, frA6_0, frA6_1, frA6_2, frA6_3, frA6_4, frA6_5, aeA6, rfl, fA6⟩
      have ttA6_12 : (A6.1 367 12).toInt = (A.1 367 12).toInt := congrArg Int32.toInt (frA6_0.trans (frA4_0.trans rfl))
      have ttA6_19 : (A6.1 367 19).toInt = (A.1 367 19).toInt := congrArg Int32.toInt (frA6_1.trans (frA4_1.trans rfl))
      have ttA6_20 : (A6.1 367 20).toInt = (A.1 367 20).toInt := congrArg Int32.toInt (frA6_2.trans (frA4_2.trans rfl))
      have ttA6_31 : (A6.1 367 31).toInt = (A.1 367 31).toInt := congrArg Int32.toInt (frA6_3.trans (frA4_3.trans rfl))
      have ttA6_37 : (A6.1 367 37).toInt = (A.1 367 37).toInt := congrArg Int32.toInt (frA6_4.trans (frA4_4.trans rfl))
      have ttA6_41 : (A6.1 367 41).toInt = (A.1 367 41).toInt := congrArg Int32.toInt (frA6_5.trans (frA4_5.trans rfl))
      have fbA6_367_11 := hA6.f (i := 367) (k := 11) (by rfl)
      have fbA6_367_13 := hA6.f (i := 367) (k := 13) (by rfl)
      exact hxa_return (by rfl) rfl (hP _ _ ⟨hA6, (frA6_0.trans (frA4_0.trans rfl)), (frA6_1.trans (frA4_1.trans rfl)), (frA6_2.trans (frA4_2.trans rfl)), (frA6_3.trans (frA4_3.trans rfl)), (frA6_4.trans (frA4_4.trans rfl)), (frA6_5.trans (frA4_5.trans rfl)), (aeA6.trans (aeA4.trans rfl)), rfl, by omega⟩)
theorem hX152q5 {d : Nat} {Bn Br : Int} {A0 A : hs_A} (hA : hJ 5 Bn Br A0 A)  (a1 : Int32) (a2 : Int32) : hxC (d + 3) 152 hm_m152 [.ref 368, .int a1, .int a2] A (fun r A' => hJ 5 Bn Br A0 A' ∧ A'.1 367 12 = A.1 367 12 ∧ A'.1 367 19 = A.1 367 19 ∧ A'.1 367 20 = A.1 367 20 ∧ A'.1 367 31 = A.1 367 31 ∧ A'.1 367 37 = A.1 367 37 ∧ A'.1 367 41 = A.1 367 41 ∧ A'.2.1 = A.2.1 ∧ r = none ∧ ((¬ (A'.1 367 13).toInt = 0 ∨ ((A.1 367 13).toInt = 0 ∧ (A'.1 367 11).toInt = (A.1 367 11).toInt + 1 ∧ ¬ a1.toInt = a2.toInt)) ∧ (A.1 367 11).toInt ≤ (A'.1 367 11).toInt ∧ (A'.1 367 11).toInt ≤ (A.1 367 11).toInt + 1)) := hxC.of (by rfl) (hY152q5 hA a1 a2 (fun r A' h => h))
theorem hY155q5 {d : Nat} {Bn Br : Int} {A0 A : hs_A} (hA : hJ 5 Bn Br A0 A)  (a1 : Int32) (p1 : 0 ≤ a1.toInt) (q1 : a1.toInt ≤ 9999) (a2 : Int32) {P : Option Value → hs_A → Prop} (hP : ∀ (r : Option Value) (A' : hs_A), (hJ 5 Bn Br A0 A' ∧ A'.1 367 12 = A.1 367 12 ∧ A'.1 367 19 = A.1 367 19 ∧ A'.1 367 20 = A.1 367 20 ∧ A'.1 367 31 = A.1 367 31 ∧ A'.1 367 37 = A.1 367 37 ∧ A'.1 367 41 = A.1 367 41 ∧ A'.2.1 = A.2.1 ∧ ∃ z : Int32, r = some (.int z) ∧ ((0 ≤ z.toInt ∧ z.toInt ≤ 9999) ∧ (¬ (A'.1 367 13).toInt = 0 ∨ ((A.1 367 13).toInt = 0 ∧ (A'.1 367 11).toInt = (A.1 367 11).toInt + 1)) ∧ (A.1 367 11).toInt ≤ (A'.1 367 11).toInt ∧ (A'.1 367 11).toInt ≤ (A.1 367 11).toInt + 1)) → P r A') : hxa (d + 2) (some (.int)) hm_t155 0 [.ref 368, .int a1, .int a2, .retAddr 0] [] A P := by
  have k1 := hk_1
  have k2 := hk_2
  have k5 := hk_5
  have fb367_11 := hA.f (i := 367) (k := 11) (by rfl)
  have fb367_12 := hA.f (i := 367) (k := 12) (by rfl)
  have fb367_13 := hA.f (i := 367) (k := 13) (by rfl)
  have fb367_19 := hA.f (i := 367) (k := 19) (by rfl)
  have fb367_20 := hA.f (i := 367) (k := 20) (by rfl)
  have fb367_31 := hA.f (i := 367) (k := 31) (by rfl)
  have fb367_37 := hA.f (i := 367) (k := 37) (by rfl)
  have fb367_41 := hA.f (i := 367) (k := 41) (by rfl)
  refine hxa_aload_n (by rfl) rfl ?_
  refine hxj_getK (by rfl) (by rfl) (by rfl) rfl ?_
  refine hxj_zgt (by rfl) rfl (fun q1 => ?_) (fun q1 => ?_)
  ·
    refine hxa_aload_n (by rfl) rfl ?_
    refine hxa_iconst (by rfl) rfl ?_
    refine hxa_call0 (by rfl) (by rfl) (by rfl) (by rfl) (by rfl) (by rfl) (hX145q5 (d := d + 1) hA (Int32.ofNat 1) (by omega) (by omega)) ?_
    rintro _ A2 ⟨hA2, frA2_0, frA2_1, frA2_2, frA2_3, frA2_4, frA2_5, aeA2, rfl, fA2⟩
    have ttA2_12 : (A2.1 367 12).toInt = (A.1 367 12).toInt := congrArg Int32.toInt (frA2_0.trans rfl)
    have ttA2_19 : (A2.1 367 19).toInt = (A.1 367 19).toInt := congrArg Int32.toInt (frA2_1.trans rfl)
    have ttA2_20 : (A2.1 367 20).toInt = (A.1 367 20).toInt := congrArg Int32.toInt (frA2_2.trans rfl)
    have ttA2_31 : (A2.1 367 31).toInt = (A.1 367 31).toInt := congrArg Int32.toInt (frA2_3.trans rfl)
    have ttA2_37 : (A2.1 367 37).toInt = (A.1 367 37).toInt := congrArg Int32.toInt (frA2_4.trans rfl)
    have ttA2_41 : (A2.1 367 41).toInt = (A.1 367 41).toInt := congrArg Int32.toInt (frA2_5.trans rfl)
    have fbA2_367_11 := hA2.f (i := 367) (k := 11) (by rfl)
    have fbA2_367_13 := hA2.f (i := 367) (k := 13) (by rfl)
    refine hxa_iload_n (by rfl) rfl ?_
    exact hxa_ireturn (by rfl) rfl (hP _ _ ⟨hA2, (frA2_0.trans rfl), (frA2_1.trans rfl), (frA2_2.trans rfl), (frA2_3.trans rfl), (frA2_4.trans rfl), (frA2_5.trans rfl), (aeA2.trans rfl), _, rfl, by omega⟩)
  ·
    refine hxa_aload_n (by rfl) rfl ?_
    refine hxa_iconst (by rfl) rfl ?_
    refine hxa_call0 (by rfl) (by rfl) (by rfl) (by rfl) (by rfl) (by rfl) (hX144q5 (d := d + 1) hA (Int32.ofNat 2)) ?_
    rintro _ _ ⟨rfl, z3, rfl, fz3⟩
    rcases fz3 with fz3 | fz3
    ·
      refine hxj_zne (by rfl) rfl (fun q4 => ?_) (fun q4 => False.elim (by omega))
      refine hxa_aload_n (by rfl) rfl ?_
      refine hxa_get (v := .ref 373) (by rfl) (by rfl) (by rfl) rfl ?_
      refine hxa_aload_n (by rfl) rfl ?_
      refine hxj_getK (by rfl) (by rfl) (by rfl) rfl ?_
      refine hxj_ialdB (by rfl) (by rfl) rfl (by omega) (by omega) hA (by rfl) (fun z5 ez5 fz5 gz5 => ?_)
      refine hxa_s1 (by rfl) (Or.inl ⟨_, rfl, rfl⟩) rfl ?_
      refine hxa_iload_n (by rfl) rfl ?_
      refine hxa_iload_n (by rfl) rfl ?_
      refine hxj_clt (by rfl) rfl rfl (fun q6 => ?_) (fun q6 => ?_)
      ·
        refine hxa_aload_n (by rfl) rfl ?_
        refine hxa_iconst (by rfl) rfl ?_
        refine hxa_aload_n (by rfl) rfl ?_
        refine hxj_getK (by rfl) (by rfl) (by rfl) rfl ?_
        refine hxa_call0 (by rfl) (by rfl) (by rfl) (by rfl) (by rfl) (by rfl) (hX146q5 (d := d + 1) hA (Int32.ofNat 5) (A.1 367 11) (by omega) (by omega)) ?_
        rintro _ A7 ⟨hA7, frA7_0, frA7_1, frA7_2, frA7_3, frA7_4, frA7_5, frA7_6, frA7_7, aeA7, rfl⟩
        have ttA7_12 : (A7.1 367 12).toInt = (A.1 367 12).toInt := congrArg Int32.toInt (frA7_0.trans rfl)
        have ttA7_19 : (A7.1 367 19).toInt = (A.1 367 19).toInt := congrArg Int32.toInt (frA7_1.trans rfl)
        have ttA7_20 : (A7.1 367 20).toInt = (A.1 367 20).toInt := congrArg Int32.toInt (frA7_2.trans rfl)
        have ttA7_31 : (A7.1 367 31).toInt = (A.1 367 31).toInt := congrArg Int32.toInt (frA7_3.trans rfl)
        have ttA7_37 : (A7.1 367 37).toInt = (A.1 367 37).toInt := congrArg Int32.toInt (frA7_4.trans rfl)
        have ttA7_41 : (A7.1 367 41).toInt = (A.1 367 41).toInt := congrArg Int32.toInt (frA7_5.trans rfl)
        have ttA7_11 : (A7.1 367 11).toInt = (A.1 367 11).toInt := congrArg Int32.toInt (frA7_6.trans rfl)
        have ttA7_13 : (A7.1 367 13).toInt = (A.1 367 13).toInt := congrArg Int32.toInt (frA7_7.trans rfl)
        refine hxa_aload_n (by rfl) rfl ?_
        refine hxa_call0 (by rfl) (by rfl) (by rfl) (by rfl) (by rfl) (by rfl) (hX147q5 (d := d + 0) hA7 ) ?_
        rintro _ A8 ⟨hA8, frA8_0, frA8_1, frA8_2, frA8_3, frA8_4, frA8_5, aeA8, rfl, fA8⟩
        have ttA8_12 : (A8.1 367 12).toInt = (A.1 367 12).toInt := congrArg Int32.toInt (frA8_0.trans (frA7_0.trans rfl))
        have ttA8_19 : (A8.1 367 19).toInt = (A.1 367 19).toInt := congrArg Int32.toInt (frA8_1.trans (frA7_1.trans rfl))
        have ttA8_20 : (A8.1 367 20).toInt = (A.1 367 20).toInt := congrArg Int32.toInt (frA8_2.trans (frA7_2.trans rfl))
        have ttA8_31 : (A8.1 367 31).toInt = (A.1 367 31).toInt := congrArg Int32.toInt (frA8_3.trans (frA7_3.trans rfl))
        have ttA8_37 : (A8.1 367 37).toInt = (A.1 367 37).toInt := congrArg Int32.toInt (frA8_4.trans (frA7_4.trans rfl))
        have ttA8_41 : (A8.1 367 41).toInt = (A.1 367 41).toInt := congrArg Int32.toInt (frA8_5.trans (frA7_5.trans rfl))
        have fbA8_367_11 := hA8.f (i := 367) (k := 11) (by rfl)
        have fbA8_367_13 := hA8.f (i := 367) (k := 13) (by rfl)
        refine hxa_iload_n (by rfl) rfl ?_
        exact hxa_ireturn (by rfl) rfl (hP _ _ ⟨hA8, (frA8_0.trans (frA7_0.trans rfl)), (frA8_1.trans (frA7_1.trans rfl)), (frA8_2.trans (frA7_2.trans rfl)), (frA8_3.trans (frA7_3.trans rfl)), (frA8_4.trans (frA7_4.trans rfl)), (frA8_5.trans (frA7_5.trans rfl)), (aeA8.trans (aeA7.trans rfl)), _, rfl, by omega⟩)
      ·
        refine hxa_iload_n (by rfl) rfl ?_
        refine hxa_iload_n (by rfl) rfl ?_
        have rga2 := hn_rng a2
        refine hxj_cle (by rfl) rfl rfl (fun q9 => ?_) (fun q9 => ?_)
        ·
          refine hxa_aload_n (by rfl) rfl ?_
          refine hxa_call0 (by rfl) (by rfl) (by rfl) (by rfl) (by rfl) (by rfl) (hX147q5 (d := d + 0) hA ) ?_
          rintro _ A10 ⟨hA10, frA10_0, frA10_1, frA10_2, frA10_3, frA10_4, frA10_5, aeA10, rfl, fA10⟩
          have ttA10_12 : (A10.1 367 12).toInt = (A.1 367 12).toInt := congrArg Int32.toInt (frA10_0.trans rfl)
          have ttA10_19 : (A10.1 367 19).toInt = (A.1 367 19).toInt := congrArg Int32.toInt (frA10_1.trans rfl)
          have ttA10_20 : (A10.1 367 20).toInt = (A.1 367 20).toInt := congrArg Int32.toInt (frA10_2.trans rfl)
          have ttA10_31 : (A10.1 367 31).toInt = (A.1 367 31).toInt := congrArg Int32.toInt (frA10_3.trans rfl)
          have ttA10_37 : (A10.1 367 37).toInt = (A.1 367 37).toInt := congrArg Int32.toInt (frA10_4.trans rfl)
          have ttA10_41 : (A10.1 367 41).toInt = (A.1 367 41).toInt := congrArg Int32.toInt (frA10_5.trans rfl)
          have fbA10_367_11 := hA10.f (i := 367) (k := 11) (by rfl)
          have fbA10_367_13 := hA10.f (i := 367) (k := 13) (by rfl)
          refine hxa_iload_n (by rfl) rfl ?_
          exact hxa_ireturn (by rfl) rfl (hP _ _ ⟨hA10, (frA10_0.trans rfl), (frA10_1.trans rfl), (frA10_2.trans rfl), (frA10_3.trans rfl), (frA10_4.trans rfl), (frA10_5.trans rfl), (aeA10.trans rfl), _, rfl, by omega⟩)
        ·
          refine hxa_aload_n (by rfl) rfl ?_
          refine hxa_iconst (by rfl) rfl ?_
          refine hxa_aload_n (by rfl) rfl ?_
          refine hxj_getK (by rfl) (by rfl) (by rfl) rfl ?_
          refine hxa_call0 (by rfl) (by rfl) (by rfl) (by rfl) (by rfl) (by rfl) (hX146q5 (d := d + 1) hA (Int32.ofNat 5) (A.1 367 11) (by omega) (by omega)) ?_
          rintro _ A11 ⟨hA11, frA11_0, frA11_1, frA11_2, frA11_3, frA11_4, frA11_5, frA11_6, frA11_7, aeA11, rfl⟩
          have ttA11_12 : (A11.1 367 12).toInt = (A.1 367 12).toInt := congrArg Int32.toInt (frA11_0.trans rfl)
          have ttA11_19 : (A11.1 367 19).toInt = (A.1 367 19).toInt := congrArg Int32.toInt (frA11_1.trans rfl)
          have ttA11_20 : (A11.1 367 20).toInt = (A.1 367 20).toInt := congrArg Int32.toInt (frA11_2.trans rfl)
          have ttA11_31 : (A11.1 367 31).toInt = (A.1 367 31).toInt := congrArg Int32.toInt (frA11_3.trans rfl)
          have ttA11_37 : (A11.1 367 37).toInt = (A.1 367 37).toInt := congrArg Int32.toInt (frA11_4.trans rfl)
          have ttA11_41 : (A11.1 367 41).toInt = (A.1 367 41).toInt := congrArg Int32.toInt (frA11_5.trans rfl)
          have ttA11_11 : (A11.1 367 11).toInt = (A.1 367 11).toInt := congrArg Int32.toInt (frA11_6.trans rfl)
          have ttA11_13 : (A11.1 367 13).toInt = (A.1 367 13).toInt := congrArg Int32.toInt (frA11_7.trans rfl)
          refine hxa_aload_n (by rfl) rfl ?_
          refine hxa_call0 (by rfl) (by rfl) (by rfl) (by rfl) (by rfl) (by rfl) (hX147q5 (d := d + 0) hA11 ) ?_
          rintro _ A12 ⟨hA12, frA12_0, frA12_1, frA12_2, frA12_3, frA12_4, frA12_5, aeA12, rfl, fA12⟩
          have ttA12_12 : (A12.1 367 12).toInt = (A.1 367 12).toInt := congrArg Int32.toInt (frA12_0.trans (frA11_0.trans rfl))
          have ttA12_19 : (A12.1 367 19).toInt = (A.1 367 19).toInt := congrArg Int32.toInt (frA12_1.trans (frA11_1.trans rfl))
          have ttA12_20 : (A12.1 367 20).toInt = (A.1 367 20).toInt := congrArg Int32.toInt (frA12_2.trans (frA11_2.trans rfl))
          have ttA12_31 : (A12.1 367 31).toInt = (A.1 367 31).toInt := congrArg Int32.toInt (frA12_3.trans (frA11_3.trans rfl))
          have ttA12_37 : (A12.1 367 37).toInt = (A.1 367 37).toInt := congrArg Int32.toInt (frA12_4.trans (frA11_4.trans rfl))
          have ttA12_41 : (A12.1 367 41).toInt = (A.1 367 41).toInt := congrArg Int32.toInt (frA12_5.trans (frA11_5.trans rfl))
          have fbA12_367_11 := hA12.f (i := 367) (k := 11) (by rfl)
          have fbA12_367_13 := hA12.f (i := 367) (k := 13) (by rfl)
          refine hxa_iload_n (by rfl) rfl ?_
          exact hxa_ireturn (by rfl) rfl (hP _ _ ⟨hA12, (frA12_0.trans (frA11_0.trans rfl)), (frA12_1.trans (frA11_1.trans rfl)), (frA12_2.trans (frA11_2.trans rfl)), (frA12_3.trans (frA11_3.trans rfl)), (frA12_4.trans (frA11_4.trans rfl)), (frA12_5.trans (frA11_5.trans rfl)), (aeA12.trans (aeA11.trans rfl)), _, rfl, by omega⟩)
    ·
      refine hxj_zne (by rfl) rfl (fun q13 => False.elim (by omega)) (fun q13 => ?_)
      refine hxa_aload_n (by rfl) rfl ?_
      refine hxa_iconst (by rfl) rfl ?_
      refine hxa_call0 (by rfl) (by rfl) (by rfl) (by rfl) (by rfl) (by rfl) (hX145q5 (d := d + 1) hA (Int32.ofNat 1) (by omega) (by omega)) ?_
      rintro _ A14 ⟨hA14, frA14_0, frA14_1, frA14_2, frA14_3, frA14_4, frA14_5, aeA14, rfl, fA14⟩
      have ttA14_12 : (A14.1 367 12).toInt = (A.1 367 12).toInt := congrArg Int32.toInt (frA14_0.trans rfl)
      have ttA14_19 : (A14.1 367 19).toInt = (A.1 367 19).toInt := congrArg Int32.toInt (frA14_1.trans rfl)
      have ttA14_20 : (A14.1 367 20).toInt = (A.1 367 20).toInt := congrArg Int32.toInt (frA14_2.trans rfl)
      have ttA14_31 : (A14.1 367 31).toInt = (A.1 367 31).toInt := congrArg Int32.toInt (frA14_3.trans rfl)
      have ttA14_37 : (A14.1 367 37).toInt = (A.1 367 37).toInt := congrArg Int32.toInt (frA14_4.trans rfl)
      have ttA14_41 : (A14.1 367 41).toInt = (A.1 367 41).toInt := congrArg Int32.toInt (frA14_5.trans rfl)
      have fbA14_367_11 := hA14.f (i := 367) (k := 11) (by rfl)
      have fbA14_367_13 := hA14.f (i := 367) (k := 13) (by rfl)
      refine hxa_iload_n (by rfl) rfl ?_
      exact hxa_ireturn (by rfl) rfl (hP _ _ ⟨hA14, (frA14_0.trans rfl), (frA14_1.trans rfl), (frA14_2.trans rfl), (frA14_3.trans rfl), (frA14_4.trans rfl), (frA14_5.trans rfl), (aeA14.trans rfl), _, rfl, by omega⟩)
theorem hX155q5 {d : Nat} {Bn Br : Int} {A0 A : hs_A} (hA : hJ 5 Bn Br A0 A)  (a1 : Int32) (p1 : 0 ≤ a1.toInt) (q1 : a1.toInt ≤ 9999) (a2 : Int32) : hxC (d + 3) 155 hm_m155 [.ref 368, .int a1, .int a2] A (fun r A' => hJ 5 Bn Br A0 A' ∧ A'.1 367 12 = A.1 367 12 ∧ A'.1 367 19 = A.1 367 19 ∧ A'.1 367 20 = A.1 367 20 ∧ A'.1 367 31 = A.1 367 31 ∧ A'.1 367 37 = A.1 367 37 ∧ A'.1 367 41 = A.1 367 41 ∧ A'.2.1 = A.2.1 ∧ ∃ z : Int32, r = some (.int z) ∧ ((0 ≤ z.toInt ∧ z.toInt ≤ 9999) ∧ (¬ (A'.1 367 13).toInt = 0 ∨ ((A.1 367 13).toInt = 0 ∧ (A'.1 367 11).toInt = (A.1 367 11).toInt + 1)) ∧ (A.1 367 11).toInt ≤ (A'.1 367 11).toInt ∧ (A'.1 367 11).toInt ≤ (A.1 367 11).toInt + 1)) := hxC.of (by rfl) (hY155q5 hA a1 p1 q1 a2 (fun r A' h => h))
theorem hY153q5 {d : Nat} {Bn Br : Int} {A0 A : hs_A} (hA : hJ 5 Bn Br A0 A)  (a1 : Int32) (p1 : 0 ≤ a1.toInt) (q1 : a1.toInt ≤ 9999) (a2 : Int32) {P : Option Value → hs_A → Prop} (hP : ∀ (r : Option Value) (A' : hs_A), (hJ 5 Bn Br A0 A' ∧ A'.1 367 12 = A.1 367 12 ∧ A'.1 367 19 = A.1 367 19 ∧ A'.1 367 20 = A.1 367 20 ∧ A'.1 367 31 = A.1 367 31 ∧ A'.1 367 37 = A.1 367 37 ∧ A'.1 367 41 = A.1 367 41 ∧ A'.2.1 = A.2.1 ∧ ∃ z : Int32, r = some (.int z) ∧ ((0 ≤ z.toInt ∧ z.toInt ≤ 9999) ∧ (¬ (A'.1 367 13).toInt = 0 ∨ ((A.1 367 13).toInt = 0 ∧ (A.1 367 11).toInt + 3 ≤ (A'.1 367 11).toInt)) ∧ (A.1 367 11).toInt ≤ (A'.1 367 11).toInt)) → P r A') : hxa (d + 3) (some (.int)) hm_t153 0 [.ref 368, .int a1, .int a2, .retAddr 0] [] A P := by
  have k4 := hk_4
  have fb367_11 := hA.f (i := 367) (k := 11) (by rfl)
  have fb367_12 := hA.f (i := 367) (k := 12) (by rfl)
  have fb367_13 := hA.f (i := 367) (k := 13) (by rfl)
  have fb367_19 := hA.f (i := 367) (k := 19) (by rfl)
  have fb367_20 := hA.f (i := 367) (k := 20) (by rfl)
  have fb367_31 := hA.f (i := 367) (k := 31) (by rfl)
  have fb367_37 := hA.f (i := 367) (k := 37) (by rfl)
  have fb367_41 := hA.f (i := 367) (k := 41) (by rfl)
  refine hxa_aload_n (by rfl) rfl ?_
  refine hxa_call0 (by rfl) (by rfl) (by rfl) (by rfl) (by rfl) (by rfl) (hX147q5 (d := d + 1) hA ) ?_
  rintro _ A1 ⟨hA1, frA1_0, frA1_1, frA1_2, frA1_3, frA1_4, frA1_5, aeA1, rfl, fA1⟩
  have ttA1_12 : (A1.1 367 12).toInt = (A.1 367 12).toInt := congrArg Int32.toInt (frA1_0.trans rfl)
  have ttA1_19 : (A1.1 367 19).toInt = (A.1 367 19).toInt := congrArg Int32.toInt (frA1_1.trans rfl)
  have ttA1_20 : (A1.1 367 20).toInt = (A.1 367 20).toInt := congrArg Int32.toInt (frA1_2.trans rfl)
  have ttA1_31 : (A1.1 367 31).toInt = (A.1 367 31).toInt := congrArg Int32.toInt (frA1_3.trans rfl)
  have ttA1_37 : (A1.1 367 37).toInt = (A.1 367 37).toInt := congrArg Int32.toInt (frA1_4.trans rfl)
  have ttA1_41 : (A1.1 367 41).toInt = (A.1 367 41).toInt := congrArg Int32.toInt (frA1_5.trans rfl)
  have fbA1_367_11 := hA1.f (i := 367) (k := 11) (by rfl)
  have fbA1_367_13 := hA1.f (i := 367) (k := 13) (by rfl)
  refine hxa_aload_n (by rfl) rfl ?_
  refine hxa_iload_n (by rfl) rfl ?_
  refine hxa_iload_n (by rfl) rfl ?_
  refine hxa_call0 (by rfl) (by rfl) (by rfl) (by rfl) (by rfl) (by rfl) (hX155q5 (d := d + 0) hA1 a1 (by omega) (by omega) a2) ?_
  rintro _ A2 ⟨hA2, frA2_0, frA2_1, frA2_2, frA2_3, frA2_4, frA2_5, aeA2, z3, rfl, fz3⟩
  have ttA2_12 : (A2.1 367 12).toInt = (A.1 367 12).toInt := congrArg Int32.toInt (frA2_0.trans (frA1_0.trans rfl))
  have ttA2_19 : (A2.1 367 19).toInt = (A.1 367 19).toInt := congrArg Int32.toInt (frA2_1.trans (frA1_1.trans rfl))
  have ttA2_20 : (A2.1 367 20).toInt = (A.1 367 20).toInt := congrArg Int32.toInt (frA2_2.trans (frA1_2.trans rfl))
  have ttA2_31 : (A2.1 367 31).toInt = (A.1 367 31).toInt := congrArg Int32.toInt (frA2_3.trans (frA1_3.trans rfl))
  have ttA2_37 : (A2.1 367 37).toInt = (A.1 367 37).toInt := congrArg Int32.toInt (frA2_4.trans (frA1_4.trans rfl))
  have ttA2_41 : (A2.1 367 41).toInt = (A.1 367 41).toInt := congrArg Int32.toInt (frA2_5.trans (frA1_5.trans rfl))
  have fbA2_367_11 := hA2.f (i := 367) (k := 11) (by rfl)
  have fbA2_367_13 := hA2.f (i := 367) (k := 13) (by rfl)
  refine hxa_s1 (by rfl) (Or.inl ⟨_, rfl, rfl⟩) rfl ?_
  refine hxa_aload_n (by rfl) rfl ?_
  refine hxa_iconst (by rfl) rfl ?_
  refine hxa_call0 (by rfl) (by rfl) (by rfl) (by rfl) (by rfl) (by rfl) (hX148q5 (d := d + 0) hA2 (Int32.ofNat 4)) ?_
  rintro _ A4 ⟨hA4, frA4_0, frA4_1, frA4_2, frA4_3, frA4_4, frA4_5, aeA4, rfl, fA4⟩
  have ttA4_12 : (A4.1 367 12).toInt = (A.1 367 12).toInt := congrArg Int32.toInt (frA4_0.trans (frA2_0.trans (frA1_0.trans rfl)))
  have ttA4_19 : (A4.1 367 19).toInt = (A.1 367 19).toInt := congrArg Int32.toInt (frA4_1.trans (frA2_1.trans (frA1_1.trans rfl)))
  have ttA4_20 : (A4.1 367 20).toInt = (A.1 367 20).toInt := congrArg Int32.toInt (frA4_2.trans (frA2_2.trans (frA1_2.trans rfl)))
  have ttA4_31 : (A4.1 367 31).toInt = (A.1 367 31).toInt := congrArg Int32.toInt (frA4_3.trans (frA2_3.trans (frA1_3.trans rfl)))
  have ttA4_37 : (A4.1 367 37).toInt = (A.1 367 37).toInt := congrArg Int32.toInt (frA4_4.trans (frA2_4.trans (frA1_4.trans rfl)))
  have ttA4_41 : (A4.1 367 41).toInt = (A.1 367 41).toInt := congrArg Int32.toInt (frA4_5.trans (frA2_5.trans (frA1_5.trans rfl)))
  have fbA4_367_11 := hA4.f (i := 367) (k := 11) (by rfl)
  have fbA4_367_13 := hA4.f (i := 367) (k := 13) (by rfl)
  refine hxa_iload_n (by rfl) rfl ?_
  exact hxa_ireturn (by rfl) rfl (hP _ _ ⟨hA4, (frA4_0.trans (frA2_0.trans (frA1_0.trans rfl))), (frA4_1.trans (frA2_1.trans (frA1_1.trans rfl))), (frA4_2.trans (frA2_2.trans (frA1_2.trans rfl))), (frA4_3.trans (frA2_3.trans (frA1_3.trans rfl))), (frA4_4.trans (frA2_4.trans (frA1_4.trans rfl))), (frA4_5.trans (frA2_5.trans (frA1_5.trans rfl))), (aeA4.trans (aeA2.trans (aeA1.trans rfl))), _, rfl, by omega⟩)
theorem hX153q5 {d : Nat} {Bn Br : Int} {A0 A : hs_A} (hA : hJ 5 Bn Br A0 A)  (a1 : Int32) (p1 : 0 ≤ a1.toInt) (q1 : a1.toInt ≤ 9999) (a2 : Int32) : hxC (d + 4) 153 hm_m153 [.ref 368, .int a1, .int a2] A (fun r A' => hJ 5 Bn Br A0 A' ∧ A'.1 367 12 = A.1 367 12 ∧ A'.1 367 19 = A.1 367 19 ∧ A'.1 367 20 = A.1 367 20 ∧ A'.1 367 31 = A.1 367 31 ∧ A'.1 367 37 = A.1 367 37 ∧ A'.1 367 41 = A.1 367 41 ∧ A'.2.1 = A.2.1 ∧ ∃ z : Int32, r = some (.int z) ∧ ((0 ≤ z.toInt ∧ z.toInt ≤ 9999) ∧ (¬ (A'.1 367 13).toInt = 0 ∨ ((A.1 367 13).toInt = 0 ∧ (A.1 367 11).toInt + 3 ≤ (A'.1 367 11).toInt)) ∧ (A.1 367 11).toInt ≤ (A'.1 367 11).toInt)) := hxC.of (by rfl) (hY153q5 hA a1 p1 q1 a2 (fun r A' h => h))
theorem hY136q5 {d : Nat} {Bn Br : Int} {A0 A : hs_A} (hA : hJ 5 Bn Br A0 A)  (a1 : Int32) (p1 : 0 ≤ a1.toInt) {P : Option Value → hs_A → Prop} (hP : ∀ (r : Option Value) (A' : hs_A), (A = A' ∧ ∃ z : Int32, r = some (.int z) ∧ (z = hby A a1 ∧ (z.toInt = 0 ∨ a1.toInt < 2000) ∧ 0 ≤ z.toInt ∧ z.toInt ≤ 255)) → P r A') : hxa (d + 0) (some (.int)) hm_t136 0 [.ref 368, .int a1] [] A P := by
  have k0 := hk_0
  have fb367_4 := hA.f (i := 367) (k := 4) (by rfl)
  refine hxa_iload_n (by rfl) rfl ?_
  refine hxa_aload_n (by rfl) rfl ?_
  refine hxj_getK (by rfl) (by rfl) (by rfl) rfl ?_
  have rga1 := hn_rng a1
  refine hxj_cge (by rfl) rfl rfl (fun q1 => ?_) (fun q1 => ?_)
  ·
    refine hxa_iconst (by rfl) rfl ?_
    exact hxa_ireturn (by rfl) rfl (hP _ _ ⟨rfl, _, rfl, ⟨by unfold hby; rw [if_neg (by omega)], by omega, by omega, by omega⟩⟩)
  ·
    refine hxa_aload_n (by rfl) rfl ?_
    refine hxa_get (v := .ref 370) (by rfl) (by rfl) (by rfl) rfl ?_
    refine hxa_iload_n (by rfl) rfl ?_
    refine hxj_bald (by rfl) (by rfl) rfl (by omega) (by omega) (fun z2 ez2 => ?_)
    refine hxa_sipush (by rfl) rfl ?_
    refine hxa_iand (by rfl) (hn_top (fun z3 ez3 => ?_))
    have fz3 : 0 ≤ z3.toInt ∧ z3.toInt ≤ 255 := by
      have q := hn_and (x := z2) (y := (Int32.ofNat 255)) (by rw [hk_255]; decide)
      rw [← ez3, hk_255] at q
      exact q
    refine hxa_goto (by rfl) ?_
    exact hxa_ireturn (by rfl) rfl (hP _ _ ⟨rfl, _, rfl, ⟨by unfold hby; rw [if_pos (by omega), ez2, ez3], by omega, by omega, by omega⟩⟩)
theorem hX136q5 {d : Nat} {Bn Br : Int} {A0 A : hs_A} (hA : hJ 5 Bn Br A0 A)  (a1 : Int32) (p1 : 0 ≤ a1.toInt) : hxC (d + 1) 136 hm_m136 [.ref 368, .int a1] A (fun r A' => A = A' ∧ ∃ z : Int32, r = some (.int z) ∧ (z = hby A a1 ∧ (z.toInt = 0 ∨ a1.toInt < 2000) ∧ 0 ≤ z.toInt ∧ z.toInt ≤ 255)) := hxC.of (by rfl) (hY136q5 hA a1 p1 (fun r A' h => h))
theorem hY141q5 {d : Nat} {Bn Br : Int} {A0 A : hs_A} (hA : hJ 5 Bn Br A0 A)  (a1 : Int32) (p1 : 0 ≤ a1.toInt) (q1 : a1.toInt ≤ 39) (a2 : Int32) (a3 : Int32) (p3 : 0 ≤ a3.toInt) (q3 : a3.toInt ≤ 9999) (a4 : Int64) (fl0 : 0 ≤ (A.1 367 10).toInt) (fh0 : (A.1 367 10).toInt ≤ 401) {P : Option Value → hs_A → Prop} (hP : ∀ (r : Option Value) (A' : hs_A), (hJ 5 Bn Br A0 A' ∧ r = none ∧ ((A'.1 367 10).toInt = (A.1 367 10).toInt + 1)) → P r A') : hxa (d + 0) none hm_t141 0 [.ref 368, .int a1, .int a2, .int a3, .long a4, .double 0] [] A P := by
  refine hxa_aload_n (by rfl) rfl ?_
  refine hxa_get (v := .ref 371) (by rfl) (by rfl) (by rfl) rfl ?_
  refine hxa_aload_n (by rfl) rfl ?_
  refine hxj_getK (by rfl) (by rfl) (by rfl) rfl ?_
  refine hxa_iload_n (by rfl) rfl ?_
  refine hxj_iast (by rfl) (by rfl) rfl (by omega) (by omega) hA (hbok (by rfl) rfl (by omega) (by omega)) (by rfl) (by rfl) (fun A1 hA1 eA1 fA1 gA1 => ?_)
  refine hxa_aload_n (by rfl) rfl ?_
  refine hxa_get (v := .ref 372) (by rfl) (by rfl) (by rfl) rfl ?_
  refine hxa_aload_n (by rfl) rfl ?_
  refine hxj_getK (by rfl) (by rfl) (by rfl) (hkA eA1 rfl) ?_
  refine hxa_iload_n (by rfl) rfl ?_
  refine hxj_iast (by rfl) (by rfl) rfl (by omega) (by omega) hA1 (hbokN (by rfl)) (by rfl) (by rfl) (fun A2 hA2 eA2 fA2 gA2 => ?_)
  refine hxa_aload_n (by rfl) rfl ?_
  refine hxa_get (v := .ref 373) (by rfl) (by rfl) (by rfl) rfl ?_
  refine hxa_aload_n (by rfl) rfl ?_
  refine hxj_getK (by rfl) (by rfl) (by rfl) (hkA eA2 (hkA eA1 rfl)) ?_
  refine hxa_iload_n (by rfl) rfl ?_
  refine hxj_iast (by rfl) (by rfl) rfl (by omega) (by omega) hA2 (hbok (by rfl) rfl (by omega) (by omega)) (by rfl) (by rfl) (fun A3 hA3 eA3 fA3 gA3 => ?_)
  refine hxa_aload_n (by rfl) rfl ?_
  refine hxa_get (v := .ref 374) (by rfl) (by rfl) (by rfl) rfl ?_
  refine hxa_aload_n (by rfl) rfl ?_
  refine hxj_getK (by rfl) (by rfl) (by rfl) (hkA eA3 (hkA eA2 (hkA eA1 rfl))) ?_
  refine hxa_lload (by rfl) rfl ?_
  refine hxj_last (by rfl) (by rfl) rfl (by omega) (by omega) hA3 (by omega) (fun A4 hA4 eA4 fA4 => ?_)
  refine hxa_aload_n (by rfl) rfl ?_
  refine hxa_dupR (by rfl) ?_
  refine hxj_getK (by rfl) (by rfl) (by rfl) (hkA eA4 (hkA eA3 (hkA eA2 (hkA eA1 rfl)))) ?_
  refine hxa_iconst (by rfl) rfl ?_
  refine hxj_iadd (by rfl) rfl hk_1 (by omega) (by omega) (fun z5 ez5 => ?_)
  refine hxj_putI (by rfl) (by rfl) (by rfl) (by rfl) hA4 (hbok (by rfl) rfl (by omega) (by omega)) (by rfl) (by rfl) (fun A6 hA6 eA6 fA6 => ?_)
  exact hxa_return (by rfl) rfl (hP _ _ ⟨hA6, rfl, by rw [(show A6.1 367 10 = z5 from (hkS eA6))]; omega⟩)
theorem hX141q5 {d : Nat} {Bn Br : Int} {A0 A : hs_A} (hA : hJ 5 Bn Br A0 A)  (a1 : Int32) (p1 : 0 ≤ a1.toInt) (q1 : a1.toInt ≤ 39) (a2 : Int32) (a3 : Int32) (p3 : 0 ≤ a3.toInt) (q3 : a3.toInt ≤ 9999) (a4 : Int64) (fl0 : 0 ≤ (A.1 367 10).toInt) (fh0 : (A.1 367 10).toInt ≤ 401) : hxC (d + 1) 141 hm_m141 [.ref 368, .int a1, .int a2, .int a3, .long a4] A (fun r A' => hJ 5 Bn Br A0 A' ∧ r = none ∧ ((A'.1 367 10).toInt = (A.1 367 10).toInt + 1)) := hxC.of (by rfl) (hY141q5 hA a1 p1 q1 a2 a3 p3 q3 a4 fl0 fh0 (fun r A' h => h))
theorem hY143q5 {d : Nat} {Bn Br : Int} {A0 A : hs_A} (hA : hJ 5 Bn Br A0 A)  (a1 : Int32) (a2 : Int32) (a3 : Int32) (fl0 : 0 ≤ (A.1 367 10).toInt) (fh0 : (A.1 367 10).toInt ≤ 401) {P : Option Value → hs_A → Prop} (hP : ∀ (r : Option Value) (A' : hs_A), (hJ 5 Bn Br A0 A' ∧ ∃ z : Int32, r = some (.int z) ∧ (z.toInt = 1 ∧ (A'.1 367 10).toInt = (A.1 367 10).toInt + 1)) → P r A') : hxa (d + 1) (some (.int)) hm_t143 0 [.ref 368, .int a1, .int a2, .int a3, .retAddr 0] [] A P := by
  have k0 := hk_0
  have k1 := hk_1
  have k10 := hk_10
  have k13 := hk_13
  have k15 := hk_15
  have k3 := hk_3
  have k4 := hk_4
  have k5 := hk_5
  have k6 := hk_6
  have k7 := hk_7
  have k8 := hk_8
  have k9 := hk_9
  have L85 : ∀ (x85_4 : Int32) (bx85_4 : 3 ≤ x85_4.toInt) (cx85_4 : x85_4.toInt ≤ 15), hxa (d + 1) (some (.int)) hm_t143 85 [.ref 368, .int a1, .int a2, .int a3, .int x85_4] [] A P := by
    intro x85_4 bx85_4 cx85_4
    refine hxa_iload_n (by rfl) rfl ?_
    refine hxa_bipush (by rfl) rfl ?_
    refine hxj_cne (by rfl) rfl hk_60 (fun q1 => ?_) (fun q1 => ?_)
    ·
      refine hxa_aload_n (by rfl) rfl ?_
      refine hxa_iload (by rfl) rfl ?_
      refine hxa_iload_n (by rfl) rfl ?_
      refine hxa_iconst (by rfl) rfl ?_
      refine hxa_lconst (by rfl) rfl ?_
      refine hxa_call0 (by rfl) (by rfl) (by rfl) (by rfl) (by rfl) (by rfl) (hX141q5 (d := d + 0) hA x85_4 (by omega) (by omega) a1 (Int32.ofNat 0) (by omega) (by omega) (Int64.ofNat 0) (by omega) (by omega)) ?_
      rintro _ A2 ⟨hA2, rfl, fA2⟩
      have fbA2_367_10 := hA2.f (i := 367) (k := 10) (by rfl)
      refine hxa_iconst (by rfl) rfl ?_
      exact hxa_ireturn (by rfl) rfl (hP _ _ ⟨hA2, _, rfl, by omega⟩)
    ·
      refine hxa_bipush (by rfl) rfl ?_
      refine hxa_s1 (by rfl) (Or.inr ⟨_, rfl, rfl⟩) rfl ?_
      refine hxa_aload_n (by rfl) rfl ?_
      refine hxa_iload (by rfl) rfl ?_
      refine hxa_iload_n (by rfl) rfl ?_
      refine hxa_iconst (by rfl) rfl ?_
      refine hxa_lconst (by rfl) rfl ?_
      refine hxa_call0 (by rfl) (by rfl) (by rfl) (by rfl) (by rfl) (by rfl) (hX141q5 (d := d + 0) hA (Int32.ofNat 13) (by omega) (by omega) a1 (Int32.ofNat 0) (by omega) (by omega) (Int64.ofNat 0) (by omega) (by omega)) ?_
      rintro _ A3 ⟨hA3, rfl, fA3⟩
      have fbA3_367_10 := hA3.f (i := 367) (k := 10) (by rfl)
      refine hxa_iconst (by rfl) rfl ?_
      exact hxa_ireturn (by rfl) rfl (hP _ _ ⟨hA3, _, rfl, by omega⟩)
  have L55 : ∀ (x55_4 : Int32) (bx55_4 : 3 ≤ x55_4.toInt) (cx55_4 : x55_4.toInt ≤ 8), hxa (d + 1) (some (.int)) hm_t143 55 [.ref 368, .int a1, .int a2, .int a3, .int x55_4] [] A P := by
    intro x55_4 bx55_4 cx55_4
    refine hxa_iload_n (by rfl) rfl ?_
    refine hxa_bipush (by rfl) rfl ?_
    refine hxj_cne (by rfl) rfl hk_45 (fun q4 => ?_) (fun q4 => ?_)
    ·
      refine hxa_iload_n (by rfl) rfl ?_
      refine hxa_bipush (by rfl) rfl ?_
      refine hxj_cne (by rfl) rfl hk_42 (fun q5 => ?_) (fun q5 => ?_)
      ·
        refine hxa_iload_n (by rfl) rfl ?_
        refine hxa_bipush (by rfl) rfl ?_
        refine hxj_cne (by rfl) rfl hk_47 (fun q6 => ?_) (fun q6 => ?_)
        ·
          exact L85 x55_4 (by omega) (by omega)
        ·
          refine hxa_bipush (by rfl) rfl ?_
          refine hxa_s1 (by rfl) (Or.inr ⟨_, rfl, rfl⟩) rfl ?_
          exact L85 (Int32.ofNat 15) (by omega) (by omega)
      ·
        refine hxa_bipush (by rfl) rfl ?_
        refine hxa_s1 (by rfl) (Or.inr ⟨_, rfl, rfl⟩) rfl ?_
        refine hxa_iload_n (by rfl) rfl ?_
        refine hxa_bipush (by rfl) rfl ?_
        refine hxj_cne (by rfl) rfl hk_47 (fun q7 => ?_) (fun q7 => False.elim (by omega))
        exact L85 (Int32.ofNat 10) (by omega) (by omega)
    ·
      refine hxa_bipush (by rfl) rfl ?_
      refine hxa_s1 (by rfl) (Or.inr ⟨_, rfl, rfl⟩) rfl ?_
      refine hxa_iload_n (by rfl) rfl ?_
      refine hxa_bipush (by rfl) rfl ?_
      refine hxj_cne (by rfl) rfl hk_42 (fun q8 => ?_) (fun q8 => False.elim (by omega))
      refine hxa_iload_n (by rfl) rfl ?_
      refine hxa_bipush (by rfl) rfl ?_
      refine hxj_cne (by rfl) rfl hk_47 (fun q9 => ?_) (fun q9 => False.elim (by omega))
      exact L85 (Int32.ofNat 9) (by omega) (by omega)
  refine hxa_iload_n (by rfl) rfl ?_
  refine hxa_bipush (by rfl) rfl ?_
  refine hxj_cne (by rfl) rfl hk_59 (fun q10 => ?_) (fun q10 => ?_)
  ·
    refine hxa_iload_n (by rfl) rfl ?_
    refine hxa_bipush (by rfl) rfl ?_
    refine hxj_cne (by rfl) rfl hk_61 (fun q11 => ?_) (fun q11 => ?_)
    ·
      refine hxa_iload_n (by rfl) rfl ?_
      refine hxa_bipush (by rfl) rfl ?_
      refine hxj_cne (by rfl) rfl hk_40 (fun q12 => ?_) (fun q12 => ?_)
      ·
        refine hxa_iload_n (by rfl) rfl ?_
        refine hxa_bipush (by rfl) rfl ?_
        refine hxj_cne (by rfl) rfl hk_41 (fun q13 => ?_) (fun q13 => ?_)
        ·
          refine hxa_iconst (by rfl) rfl ?_
          refine hxa_s1 (by rfl) (Or.inr ⟨_, rfl, rfl⟩) rfl ?_
          refine hxa_iload_n (by rfl) rfl ?_
          refine hxa_bipush (by rfl) rfl ?_
          refine hxj_cne (by rfl) rfl hk_43 (fun q14 => ?_) (fun q14 => ?_)
          ·
            exact L55 (Int32.ofNat 3) (by omega) (by omega)
          ·
            refine hxa_bipush (by rfl) rfl ?_
            refine hxa_s1 (by rfl) (Or.inr ⟨_, rfl, rfl⟩) rfl ?_
            exact L55 (Int32.ofNat 8) (by omega) (by omega)
        ·
          refine hxa_bipush (by rfl) rfl ?_
          refine hxa_goto (by rfl) ?_
          refine hxa_s1 (by rfl) (Or.inr ⟨_, rfl, rfl⟩) rfl ?_
          refine hxa_iload_n (by rfl) rfl ?_
          refine hxa_bipush (by rfl) rfl ?_
          refine hxj_cne (by rfl) rfl hk_43 (fun q15 => ?_) (fun q15 => False.elim (by omega))
          exact L55 (Int32.ofNat 7) (by omega) (by omega)
      ·
        refine hxa_bipush (by rfl) rfl ?_
        refine hxa_goto (by rfl) ?_
        refine hxa_s1 (by rfl) (Or.inr ⟨_, rfl, rfl⟩) rfl ?_
        refine hxa_iload_n (by rfl) rfl ?_
        refine hxa_bipush (by rfl) rfl ?_
        refine hxj_cne (by rfl) rfl hk_43 (fun q16 => ?_) (fun q16 => False.elim (by omega))
        exact L55 (Int32.ofNat 6) (by omega) (by omega)
    ·
      refine hxa_iconst (by rfl) rfl ?_
      refine hxa_goto (by rfl) ?_
      refine hxa_s1 (by rfl) (Or.inr ⟨_, rfl, rfl⟩) rfl ?_
      refine hxa_iload_n (by rfl) rfl ?_
      refine hxa_bipush (by rfl) rfl ?_
      refine hxj_cne (by rfl) rfl hk_43 (fun q17 => ?_) (fun q17 => False.elim (by omega))
      exact L55 (Int32.ofNat 5) (by omega) (by omega)
  ·
    refine hxa_iconst (by rfl) rfl ?_
    refine hxa_goto (by rfl) ?_
    refine hxa_s1 (by rfl) (Or.inr ⟨_, rfl, rfl⟩) rfl ?_
    refine hxa_iload_n (by rfl) rfl ?_
    refine hxa_bipush (by rfl) rfl ?_
    refine hxj_cne (by rfl) rfl hk_43 (fun q18 => ?_) (fun q18 => False.elim (by omega))
    exact L55 (Int32.ofNat 4) (by omega) (by omega)
theorem hX143q5 {d : Nat} {Bn Br : Int} {A0 A : hs_A} (hA : hJ 5 Bn Br A0 A)  (a1 : Int32) (a2 : Int32) (a3 : Int32) (fl0 : 0 ≤ (A.1 367 10).toInt) (fh0 : (A.1 367 10).toInt ≤ 401) : hxC (d + 2) 143 hm_m143 [.ref 368, .int a1, .int a2, .int a3] A (fun r A' => hJ 5 Bn Br A0 A' ∧ ∃ z : Int32, r = some (.int z) ∧ (z.toInt = 1 ∧ (A'.1 367 10).toInt = (A.1 367 10).toInt + 1)) := hxC.of (by rfl) (hY143q5 hA a1 a2 a3 fl0 fh0 (fun r A' h => h))
theorem hY142q5 {d : Nat} {Bn Br : Int} {A0 A : hs_A} (hA : hJ 5 Bn Br A0 A)   {P : Option Value → hs_A → Prop} (hP : ∀ (r : Option Value) (A' : hs_A), (hJ 5 Bn Br A0 A' ∧ r = none) → P r A') : hxa (d + 2) none hm_t142 0 [.ref 368, .retAddr 0, .retAddr 0, .retAddr 0, .retAddr 0, .retAddr 0, .retAddr 0, .retAddr 0] [] A P := by
  have k0 := hk_0
  have k1 := hk_1
  have k2 := hk_2
  have k3 := hk_3
  have L7 : ∀ (m7 : Nat) (w7_0 : Int32) (x7_1 : Int32) (x7_2 : Value) (x7_3 : Value) (x7_4 : Value) (x7_5 : Value) (x7_6 : Value) (x7_7 : Value) (Ac7 : hs_A) (hx7_2 : hc_two (some x7_2) = false) (hx7_3 : hc_two (some x7_3) = false) (hx7_5 : hc_two (some x7_5) = false) (hx7_6 : hc_two (some x7_6) = false) (hAc7 : hJ 5 Bn Br A0 Ac7) (ek7_0 : Ac7.1 367 10 = w7_0) (bx7_1 : 0 ≤ x7_1.toInt) (cx7_1 : x7_1.toInt ≤ 2000) (bw7_0 : 0 ≤ w7_0.toInt) (cw7_0 : w7_0.toInt ≤ 402) (hm7 : (402 - w7_0.toInt) * 3000 + (2001 - x7_1.toInt) < (m7 : Int)), hxa (d + 2) none hm_t142 7 [.ref 368, .int x7_1, x7_2, x7_3, x7_4, x7_5, x7_6, x7_7] [] Ac7 P := by
    intro m7
    induction m7 with
    | zero => intro w7_0 x7_1 x7_2 x7_3 x7_4 x7_5 x7_6 x7_7 Ac7 hx7_2 hx7_3 hx7_5 hx7_6 hAc7 ek7_0 bx7_1 cx7_1 bw7_0 cw7_0 hm7;  exact False.elim (by omega)
    | succ m7 ih7 =>
      intro w7_0 x7_1 x7_2 x7_3 x7_4 x7_5 x7_6 x7_7 Ac7 hx7_2 hx7_3 hx7_5 hx7_6 hAc7 ek7_0 bx7_1 cx7_1 bw7_0 cw7_0 hm7
      have tk7_0 : (Ac7.1 367 10).toInt = w7_0.toInt := congrArg Int32.toInt ek7_0
      have L208 : ∀ (m208 : Nat) (x208_2 : Int32) (x208_3 : Int32) (x208_4 : Int32) (bx208_2 : 48 ≤ x208_2.toInt) (cx208_2 : x208_2.toInt ≤ 57) (bx208_3 : 0 ≤ x208_3.toInt) (cx208_3 : x208_3.toInt ≤ 2000) (bx208_4 : 0 ≤ x208_4.toInt) (cx208_4 : x208_4.toInt ≤ 9999) (cx7_1 : x7_1.toInt ≤ 1999) (cw7_0 : w7_0.toInt ≤ 400) (u208_0 : x7_1.toInt + x208_3.toInt ≤ 2000) (u208_1 : (x208_3.toInt = 0 ∧ x208_4.toInt = 0) ∨ (x208_3.toInt = 1 ∧ x208_4.toInt ≤ 9) ∨ (x208_3.toInt = 2 ∧ x208_4.toInt ≤ 99) ∨ (x208_3.toInt = 3 ∧ x208_4.toInt ≤ 999) ∨ 4 ≤ x208_3.toInt) (hm208 : 2000 - x208_3.toInt < (m208 : Int)), hxa (d + 2) none hm_t142 208 [.ref 368, .int x7_1, .int x208_2, .int x208_3, .int x208_4, x7_5, x7_6, x7_7] [] Ac7 P := by
        intro m208
        induction m208 with
        | zero => intro x208_2 x208_3 x208_4 bx208_2 cx208_2 bx208_3 cx208_3 bx208_4 cx208_4 cx7_1 cw7_0 u208_0 u208_1 hm208;  exact False.elim (by omega)
        | succ m208 ih208 =>
          intro x208_2 x208_3 x208_4 bx208_2 cx208_2 bx208_3 cx208_3 bx208_4 cx208_4 cx7_1 cw7_0 u208_0 u208_1 hm208
          refine hxa_aload_n (by rfl) rfl ?_
          refine hxa_iload_n (by rfl) rfl ?_
          refine hxa_iload_n (by rfl) rfl ?_
          refine hxj_iadd (by rfl) rfl rfl (by omega) (by omega) (fun z1 ez1 => ?_)
          refine hxa_call0 (by rfl) (by rfl) (by rfl) (by rfl) (by rfl) (by rfl) (hX136q5 (d := d + 1) hAc7 z1 (by omega)) ?_
          rintro _ _ ⟨rfl, z2, rfl, fz2⟩
          refine hxa_call2 (by rfl) (by decide) (by rfl) (by rfl) (by rfl) (hX137 (d := d + 1)  z2) ?_
          rintro _ _ ⟨rfl, z3, rfl, fz3⟩
          rcases fz3 with fz3 | fz3
          ·
            refine hxj_zeq (by rfl) rfl (fun q4 => False.elim (by omega)) (fun q4 => ?_)
            refine hxa_iload_n (by rfl) rfl ?_
            refine hxa_iconst (by rfl) rfl ?_
            refine hxj_cge (by rfl) rfl hk_4 (fun q5 => ?_) (fun q5 => ?_)
            ·
              refine hxj_iinc (by rfl) rfl rfl hk_1 (by omega) (by omega) (fun _ => rfl) (fun z6 ez6 => ?_)
              refine hxa_goto (by rfl) ?_
              exact ih208 x208_2 z6 x208_4 (by omega) (by omega) (by omega) (by omega) (by omega) (by omega) (by omega) (by omega) (by omega) (by omega) (by omega)
            ·
              refine hxa_bipush (by rfl) rfl ?_
              refine hxa_iload (by rfl) rfl ?_
              refine hxj_imul (by rfl) hk_10 rfl (by omega) (by omega) (fun z7 ez7 => ?_)
              refine hxa_aload_n (by rfl) rfl ?_
              refine hxa_iload_n (by rfl) rfl ?_
              refine hxa_iload_n (by rfl) rfl ?_
              refine hxj_iadd (by rfl) rfl rfl (by omega) (by omega) (fun z8 ez8 => ?_)
              refine hxa_call0 (by rfl) (by rfl) (by rfl) (by rfl) (by rfl) (by rfl) (hX136q5 (d := d + 1) hAc7 z8 (by omega)) ?_
              rintro _ _ ⟨rfl, z9, rfl, fz9⟩
              have sb : z9.toInt = z2.toInt := by rw [fz9.1, fz2.1]; exact congrArg Int32.toInt (hby_c (by omega))
              refine hxj_iadd (by rfl) rfl rfl (by omega) (by omega) (fun z10 ez10 => ?_)
              refine hxa_bipush (by rfl) rfl ?_
              refine hxj_isub (by rfl) rfl hk_48 (by omega) (by omega) (fun z11 ez11 => ?_)
              refine hxa_s1 (by rfl) (Or.inr ⟨_, rfl, rfl⟩) rfl ?_
              refine hxj_iinc (by rfl) rfl rfl hk_1 (by omega) (by omega) (fun _ => rfl) (fun z12 ez12 => ?_)
              refine hxa_goto (by rfl) ?_
              exact ih208 x208_2 z12 z11 (by omega) (by omega) (by omega) (by omega) (by omega) (by omega) (by omega) (by omega) (by omega) (by omega) (by omega)
          ·
            refine hxj_zeq (by rfl) rfl (fun q13 => ?_) (fun q13 => False.elim (by omega))
            refine hxa_aload_n (by rfl) rfl ?_
            refine hxa_iload_n (by rfl) rfl ?_
            refine hxa_iconst (by rfl) rfl ?_
            refine hxj_cle (by rfl) rfl hk_4 (fun q14 => ?_) (fun q14 => ?_)
            ·
              refine hxa_iconst (by rfl) rfl ?_
              refine hxa_iload_n (by rfl) rfl ?_
              refine hxa_iload (by rfl) rfl ?_
              refine hxa_lconst (by rfl) rfl ?_
              refine hxa_call0 (by rfl) (by rfl) (by rfl) (by rfl) (by rfl) (by rfl) (hX141q5 (d := d + 1) hAc7 (Int32.ofNat 2) (by omega) (by omega) x7_1 x208_4 (by omega) (by omega) (Int64.ofNat 0) (by rw [(show Ac7.1 367 10 = w7_0 from ek7_0)]; omega) (by rw [(show Ac7.1 367 10 = w7_0 from ek7_0)]; omega)) ?_
              rintro _ A15 ⟨hA15, rfl, fA15⟩
              have fbA15_367_10 := hA15.f (i := 367) (k := 10) (by rfl)
              refine hxa_iload_n (by rfl) rfl ?_
              refine hxa_iload_n (by rfl) rfl ?_
              refine hxj_iadd (by rfl) rfl rfl (by omega) (by omega) (fun z16 ez16 => ?_)
              refine hxa_s1 (by rfl) (Or.inl ⟨_, rfl, rfl⟩) rfl ?_
              refine hxa_goto (by rfl) ?_
              refine hxa_goto (by rfl) ?_
              exact ih7 (A15.1 367 10) z16 (.int x208_2) (.int x208_3) (.int x208_4) (x7_5) (x7_6) (x7_7) A15 rfl rfl hx7_5 hx7_6 hA15 rfl (by omega) (by omega) (by omega) (by omega) (by omega)
            ·
              refine hxa_iconst (by rfl) rfl ?_
              refine hxa_goto (by rfl) ?_
              refine hxa_iload_n (by rfl) rfl ?_
              refine hxa_iload (by rfl) rfl ?_
              refine hxa_lconst (by rfl) rfl ?_
              refine hxa_call0 (by rfl) (by rfl) (by rfl) (by rfl) (by rfl) (by rfl) (hX141q5 (d := d + 1) hAc7 (Int32.ofNat 3) (by omega) (by omega) x7_1 x208_4 (by omega) (by omega) (Int64.ofNat 0) (by rw [(show Ac7.1 367 10 = w7_0 from ek7_0)]; omega) (by rw [(show Ac7.1 367 10 = w7_0 from ek7_0)]; omega)) ?_
              rintro _ A17 ⟨hA17, rfl, fA17⟩
              have fbA17_367_10 := hA17.f (i := 367) (k := 10) (by rfl)
              refine hxa_iload_n (by rfl) rfl ?_
              refine hxa_iload_n (by rfl) rfl ?_
              refine hxj_iadd (by rfl) rfl rfl (by omega) (by omega) (fun z18 ez18 => ?_)
              refine hxa_s1 (by rfl) (Or.inl ⟨_, rfl, rfl⟩) rfl ?_
              refine hxa_goto (by rfl) ?_
              refine hxa_goto (by rfl) ?_
              exact ih7 (A17.1 367 10) z18 (.int x208_2) (.int x208_3) (.int x208_4) (x7_5) (x7_6) (x7_7) A17 rfl rfl hx7_5 hx7_6 hA17 rfl (by omega) (by omega) (by omega) (by omega) (by omega)
      have L146 : ∀ (m146 : Nat) (x146_2 : Int32) (x146_3 : Int32) (x146_4 : Int64) (x146_6 : Int32) (x146_7 : Int32) (bx146_2 : 97 ≤ x146_2.toInt) (cx146_2 : x146_2.toInt ≤ 122) (bx146_3 : 0 ≤ x146_3.toInt) (cx146_3 : x146_3.toInt ≤ 8) (bx146_6 : 1 ≤ x146_6.toInt) (cx146_6 : x146_6.toInt ≤ 39) (bx146_7 : 0 ≤ x146_7.toInt) (cx146_7 : x146_7.toInt ≤ 20) (cx7_1 : x7_1.toInt ≤ 1999) (cw7_0 : w7_0.toInt ≤ 400) (u146_0 : x7_1.toInt + x146_3.toInt ≤ 2000) (hm146 : 20 - x146_7.toInt < (m146 : Int)), hxa (d + 2) none hm_t142 146 [.ref 368, .int x7_1, .int x146_2, .int x146_3, .long x146_4, .double 0, .int x146_6, .int x146_7] [] Ac7 P := by
        intro m146
        induction m146 with
        | zero => intro x146_2 x146_3 x146_4 x146_6 x146_7 bx146_2 cx146_2 bx146_3 cx146_3 bx146_6 cx146_6 bx146_7 cx146_7 cx7_1 cw7_0 u146_0 hm146;  exact False.elim (by omega)
        | succ m146 ih146 =>
          intro x146_2 x146_3 x146_4 x146_6 x146_7 bx146_2 cx146_2 bx146_3 cx146_3 bx146_6 cx146_6 bx146_7 cx146_7 cx7_1 cw7_0 u146_0 hm146
          refine hxa_iload (by rfl) rfl ?_
          refine hxa_bipush (by rfl) rfl ?_
          refine hxj_cge (by rfl) rfl hk_20 (fun q19 => ?_) (fun q19 => ?_)
          ·
            refine hxa_aload_n (by rfl) rfl ?_
            refine hxa_iload (by rfl) rfl ?_
            refine hxa_iload_n (by rfl) rfl ?_
            refine hxa_iconst (by rfl) rfl ?_
            refine hxa_lload (by rfl) rfl ?_
            refine hxa_call0 (by rfl) (by rfl) (by rfl) (by rfl) (by rfl) (by rfl) (hX141q5 (d := d + 1) hAc7 x146_6 (by omega) (by omega) x7_1 (Int32.ofNat 0) (by omega) (by omega) x146_4 (by rw [(show Ac7.1 367 10 = w7_0 from ek7_0)]; omega) (by rw [(show Ac7.1 367 10 = w7_0 from ek7_0)]; omega)) ?_
            rintro _ A20 ⟨hA20, rfl, fA20⟩
            have fbA20_367_10 := hA20.f (i := 367) (k := 10) (by rfl)
            refine hxa_iload_n (by rfl) rfl ?_
            refine hxa_iload_n (by rfl) rfl ?_
            refine hxj_iadd (by rfl) rfl rfl (by omega) (by omega) (fun z21 ez21 => ?_)
            refine hxa_s1 (by rfl) (Or.inl ⟨_, rfl, rfl⟩) rfl ?_
            refine hxa_goto (by rfl) ?_
            refine hxa_goto (by rfl) ?_
            exact ih7 (A20.1 367 10) z21 (.int x146_2) (.int x146_3) (.long x146_4) (.double 0) (.int x146_6) (.int x146_7) A20 rfl rfl rfl rfl hA20 rfl (by omega) (by omega) (by omega) (by omega) (by omega)
          ·
            refine hxa_aload_n (by rfl) rfl ?_
            refine hxa_get (v := .ref 375) (by rfl) (by rfl) (by rfl) rfl ?_
            refine hxa_iload (by rfl) rfl ?_
            refine hxj_lald (by rfl) (by rfl) rfl (by omega) (by omega) (fun j22 ej22 => ?_)
            refine hxa_lload (by rfl) rfl ?_
            refine hxa_lcmp (by rfl) (hn_top (fun z23 _ => ?_))
            refine hxj_zne (by rfl) rfl (fun q24 => ?_) (fun q24 => ?_)
            ·
              refine hxj_iinc (by rfl) rfl rfl hk_1 (by omega) (by omega) (fun _ => rfl) (fun z25 ez25 => ?_)
              refine hxa_goto (by rfl) ?_
              exact ih146 x146_2 x146_3 x146_4 x146_6 z25 (by omega) (by omega) (by omega) (by omega) (by omega) (by omega) (by omega) (by omega) (by omega) (by omega) (by omega) (by omega)
            ·
              refine hxa_bipush (by rfl) rfl ?_
              refine hxa_iload (by rfl) rfl ?_
              refine hxj_iadd (by rfl) hk_20 rfl (by omega) (by omega) (fun z26 ez26 => ?_)
              refine hxa_s1 (by rfl) (Or.inr ⟨_, rfl, rfl⟩) rfl ?_
              refine hxj_iinc (by rfl) rfl rfl hk_1 (by omega) (by omega) (fun _ => rfl) (fun z27 ez27 => ?_)
              refine hxa_goto (by rfl) ?_
              exact ih146 x146_2 x146_3 x146_4 z26 z27 (by omega) (by omega) (by omega) (by omega) (by omega) (by omega) (by omega) (by omega) (by omega) (by omega) (by omega) (by omega)
      have L135 : ∀ (x135_2 : Int32) (x135_3 : Int32) (x135_4 : Int64) (y135_0 : Int32) (bx135_2 : 97 ≤ x135_2.toInt) (cx135_2 : x135_2.toInt ≤ 122) (bx135_3 : 0 ≤ x135_3.toInt) (cx135_3 : x135_3.toInt ≤ 2000) (by135_0 : 1 ≤ y135_0.toInt) (cy135_0 : y135_0.toInt ≤ 3) (cx7_1 : x7_1.toInt ≤ 1999) (cw7_0 : w7_0.toInt ≤ 400) (u135_0 : x7_1.toInt + x135_3.toInt ≤ 2000), hxa (d + 2) none hm_t142 135 [.ref 368, .int x7_1, .int x135_2, .int x135_3, .long x135_4, .double 0, x7_6, x7_7] [.int y135_0] Ac7 P := by
        intro x135_2 x135_3 x135_4 y135_0 bx135_2 cx135_2 bx135_3 cx135_3 by135_0 cy135_0 cx7_1 cw7_0 u135_0
        refine hxa_s1 (by rfl) (Or.inr ⟨_, rfl, rfl⟩) rfl ?_
        refine hxa_iload_n (by rfl) rfl ?_
        refine hxa_bipush (by rfl) rfl ?_
        refine hxj_cgt (by rfl) rfl hk_8 (fun q28 => ?_) (fun q28 => ?_)
        ·
          refine hxa_aload_n (by rfl) rfl ?_
          refine hxa_iload (by rfl) rfl ?_
          refine hxa_iload_n (by rfl) rfl ?_
          refine hxa_iconst (by rfl) rfl ?_
          refine hxa_lload (by rfl) rfl ?_
          refine hxa_call0 (by rfl) (by rfl) (by rfl) (by rfl) (by rfl) (by rfl) (hX141q5 (d := d + 1) hAc7 y135_0 (by omega) (by omega) x7_1 (Int32.ofNat 0) (by omega) (by omega) x135_4 (by rw [(show Ac7.1 367 10 = w7_0 from ek7_0)]; omega) (by rw [(show Ac7.1 367 10 = w7_0 from ek7_0)]; omega)) ?_
          rintro _ A29 ⟨hA29, rfl, fA29⟩
          have fbA29_367_10 := hA29.f (i := 367) (k := 10) (by rfl)
          refine hxa_iload_n (by rfl) rfl ?_
          refine hxa_iload_n (by rfl) rfl ?_
          refine hxj_iadd (by rfl) rfl rfl (by omega) (by omega) (fun z30 ez30 => ?_)
          refine hxa_s1 (by rfl) (Or.inl ⟨_, rfl, rfl⟩) rfl ?_
          refine hxa_goto (by rfl) ?_
          refine hxa_goto (by rfl) ?_
          exact ih7 (A29.1 367 10) z30 (.int x135_2) (.int x135_3) (.long x135_4) (.double 0) (.int y135_0) (x7_7) A29 rfl rfl rfl rfl hA29 rfl (by omega) (by omega) (by omega) (by omega) (by omega)
        ·
          refine hxa_iconst (by rfl) rfl ?_
          refine hxa_s1 (by rfl) (Or.inr ⟨_, rfl, rfl⟩) rfl ?_
          exact L146 (Int.toNat (20 - 0) + 1) x135_2 x135_3 x135_4 y135_0 (Int32.ofNat 0) (by omega) (by omega) (by omega) (by omega) (by omega) (by omega) (by omega) (by omega) (by omega) (by omega) (by omega) (by omega)
      have L85 : ∀ (m85 : Nat) (x85_2 : Int32) (x85_3 : Int32) (x85_4 : Int64) (bx85_2 : 97 ≤ x85_2.toInt) (cx85_2 : x85_2.toInt ≤ 122) (bx85_3 : 0 ≤ x85_3.toInt) (cx85_3 : x85_3.toInt ≤ 2000) (cx7_1 : x7_1.toInt ≤ 1999) (cw7_0 : w7_0.toInt ≤ 400) (u85_0 : x7_1.toInt + x85_3.toInt ≤ 2000) (hm85 : 2000 - x85_3.toInt < (m85 : Int)), hxa (d + 2) none hm_t142 85 [.ref 368, .int x7_1, .int x85_2, .int x85_3, .long x85_4, .double 0, x7_6, x7_7] [] Ac7 P := by
        intro m85
        induction m85 with
        | zero => intro x85_2 x85_3 x85_4 bx85_2 cx85_2 bx85_3 cx85_3 cx7_1 cw7_0 u85_0 hm85;  exact False.elim (by omega)
        | succ m85 ih85 =>
          intro x85_2 x85_3 x85_4 bx85_2 cx85_2 bx85_3 cx85_3 cx7_1 cw7_0 u85_0 hm85
          refine hxa_aload_n (by rfl) rfl ?_
          refine hxa_iload_n (by rfl) rfl ?_
          refine hxa_iload_n (by rfl) rfl ?_
          refine hxj_iadd (by rfl) rfl rfl (by omega) (by omega) (fun z31 ez31 => ?_)
          refine hxa_call0 (by rfl) (by rfl) (by rfl) (by rfl) (by rfl) (by rfl) (hX136q5 (d := d + 1) hAc7 z31 (by omega)) ?_
          rintro _ _ ⟨rfl, z32, rfl, fz32⟩
          refine hxa_call2 (by rfl) (by decide) (by rfl) (by rfl) (by rfl) (hX138 (d := d + 1)  z32) ?_
          rintro _ _ ⟨rfl, z33, rfl, fz33⟩
          rcases fz33 with fz33 | fz33
          ·
            refine hxj_zeq (by rfl) rfl (fun q34 => False.elim (by omega)) (fun q34 => ?_)
            refine hxa_iload_n (by rfl) rfl ?_
            refine hxa_bipush (by rfl) rfl ?_
            refine hxj_cge (by rfl) rfl hk_8 (fun q35 => ?_) (fun q35 => ?_)
            ·
              refine hxj_iinc (by rfl) rfl rfl hk_1 (by omega) (by omega) (fun _ => rfl) (fun z36 ez36 => ?_)
              refine hxa_goto (by rfl) ?_
              exact ih85 x85_2 z36 x85_4 (by omega) (by omega) (by omega) (by omega) (by omega) (by omega) (by omega) (by omega)
            ·
              refine hxa_lload (by rfl) rfl ?_
              refine hxa_aload_n (by rfl) rfl ?_
              refine hxa_iload_n (by rfl) rfl ?_
              refine hxa_iload_n (by rfl) rfl ?_
              refine hxj_iadd (by rfl) rfl rfl (by omega) (by omega) (fun z37 ez37 => ?_)
              refine hxa_call0 (by rfl) (by rfl) (by rfl) (by rfl) (by rfl) (by rfl) (hX136q5 (d := d + 1) hAc7 z37 (by omega)) ?_
              rintro _ _ ⟨rfl, z38, rfl, fz38⟩
              refine hxa_call2 (by rfl) (by decide) (by rfl) (by rfl) (by rfl) (hX139 (d := d + 1)  x85_4 z38) ?_
              rintro _ _ ⟨rfl, j39, rfl⟩
              refine hxa_lstore (by rfl) rfl ?_
              refine hxj_iinc (by rfl) rfl rfl hk_1 (by omega) (by omega) (fun _ => rfl) (fun z40 ez40 => ?_)
              refine hxa_goto (by rfl) ?_
              exact ih85 x85_2 z40 j39 (by omega) (by omega) (by omega) (by omega) (by omega) (by omega) (by omega) (by omega)
          ·
            refine hxj_zeq (by rfl) rfl (fun q41 => ?_) (fun q41 => False.elim (by omega))
            refine hxa_iload_n (by rfl) rfl ?_
            refine hxa_bipush (by rfl) rfl ?_
            refine hxj_cle (by rfl) rfl hk_8 (fun q42 => ?_) (fun q42 => ?_)
            ·
              refine hxa_iconst (by rfl) rfl ?_
              exact L135 x85_2 x85_3 x85_4 (Int32.ofNat 1) (by omega) (by omega) (by omega) (by omega) (by omega) (by omega) (by omega) (by omega) (by omega)
            ·
              refine hxa_iconst (by rfl) rfl ?_
              refine hxa_goto (by rfl) ?_
              exact L135 x85_2 x85_3 x85_4 (Int32.ofNat 3) (by omega) (by omega) (by omega) (by omega) (by omega) (by omega) (by omega) (by omega) (by omega)
      refine hxa_aload_n (by rfl) rfl ?_
      refine hxj_getK (by rfl) (by rfl) (by rfl) ek7_0 ?_
      refine hxa_sipush (by rfl) rfl ?_
      refine hxj_cgt (by rfl) rfl hk_400 (fun q43 => ?_) (fun q43 => ?_)
      ·
        exact hxa_return (by rfl) rfl (hP _ _ ⟨hAc7, rfl⟩)
      ·
        refine hxa_aload_n (by rfl) rfl ?_
        refine hxa_iload_n (by rfl) rfl ?_
        refine hxa_call0 (by rfl) (by rfl) (by rfl) (by rfl) (by rfl) (by rfl) (hX136q5 (d := d + 1) hAc7 x7_1 (by omega)) ?_
        rintro _ _ ⟨rfl, z44, rfl, fz44⟩
        refine hxa_s1 (by rfl) (Or.inl ⟨_, rfl, rfl⟩) rfl ?_
        refine hxa_iload_n (by rfl) rfl ?_
        refine hxa_aload_n (by rfl) rfl ?_
        refine hxj_getB (by rfl) (by rfl) (by rfl) hAc7 (by rfl) (fun z45 ez45 fz45 gz45 => ?_)
        refine hxj_clt (by rfl) rfl rfl (fun q46 => ?_) (fun q46 => ?_)
        ·
          refine hxa_iload_n (by rfl) rfl ?_
          refine hxa_bipush (by rfl) rfl ?_
          refine hxj_ceq (by rfl) rfl hk_9 (fun q47 => ?_) (fun q47 => ?_)
          ·
            refine hxj_iinc (by rfl) rfl rfl hk_1 (by omega) (by omega) (fun _ => rfl) (fun z48 ez48 => ?_)
            refine hxa_goto (by rfl) ?_
            refine hxa_goto (by rfl) ?_
            exact ih7 w7_0 z48 (.int z44) (x7_3) (x7_4) (x7_5) (x7_6) (x7_7) Ac7 rfl hx7_3 hx7_5 hx7_6 hAc7 ek7_0 (by omega) (by omega) (by omega) (by omega) (by omega)
          ·
            refine hxa_iload_n (by rfl) rfl ?_
            refine hxa_bipush (by rfl) rfl ?_
            refine hxj_ceq (by rfl) rfl hk_10 (fun q49 => ?_) (fun q49 => ?_)
            ·
              refine hxj_iinc (by rfl) rfl rfl hk_1 (by omega) (by omega) (fun _ => rfl) (fun z50 ez50 => ?_)
              refine hxa_goto (by rfl) ?_
              refine hxa_goto (by rfl) ?_
              exact ih7 w7_0 z50 (.int z44) (x7_3) (x7_4) (x7_5) (x7_6) (x7_7) Ac7 rfl hx7_3 hx7_5 hx7_6 hAc7 ek7_0 (by omega) (by omega) (by omega) (by omega) (by omega)
            ·
              refine hxa_iload_n (by rfl) rfl ?_
              refine hxa_bipush (by rfl) rfl ?_
              refine hxj_ceq (by rfl) rfl hk_13 (fun q51 => ?_) (fun q51 => ?_)
              ·
                refine hxj_iinc (by rfl) rfl rfl hk_1 (by omega) (by omega) (fun _ => rfl) (fun z52 ez52 => ?_)
                refine hxa_goto (by rfl) ?_
                refine hxa_goto (by rfl) ?_
                exact ih7 w7_0 z52 (.int z44) (x7_3) (x7_4) (x7_5) (x7_6) (x7_7) Ac7 rfl hx7_3 hx7_5 hx7_6 hAc7 ek7_0 (by omega) (by omega) (by omega) (by omega) (by omega)
              ·
                refine hxa_iload_n (by rfl) rfl ?_
                refine hxa_bipush (by rfl) rfl ?_
                refine hxj_cne (by rfl) rfl hk_32 (fun q53 => ?_) (fun q53 => ?_)
                ·
                  refine hxa_iload_n (by rfl) rfl ?_
                  refine hxa_call2 (by rfl) (by decide) (by rfl) (by rfl) (by rfl) (hX138 (d := d + 1)  z44) ?_
                  rintro _ _ ⟨rfl, z54, rfl, fz54⟩
                  rcases fz54 with fz54 | fz54
                  ·
                    refine hxj_zeq (by rfl) rfl (fun q55 => False.elim (by omega)) (fun q55 => ?_)
                    refine hxa_iconst (by rfl) rfl ?_
                    refine hxa_s1 (by rfl) (Or.inl ⟨_, rfl, rfl⟩) rfl ?_
                    refine hxa_lconst (by rfl) rfl ?_
                    refine hxa_lstore (by rfl) rfl ?_
                    exact L85 (Int.toNat (2000 - 0) + 1) z44 (Int32.ofNat 0) (Int64.ofNat 0) (by omega) (by omega) (by omega) (by omega) (by omega) (by omega) (by omega) (by omega)
                  ·
                    refine hxj_zeq (by rfl) rfl (fun q56 => ?_) (fun q56 => False.elim (by omega))
                    refine hxa_iload_n (by rfl) rfl ?_
                    refine hxa_call2 (by rfl) (by decide) (by rfl) (by rfl) (by rfl) (hX137 (d := d + 1)  z44) ?_
                    rintro _ _ ⟨rfl, z57, rfl, fz57⟩
                    rcases fz57 with fz57 | fz57
                    ·
                      refine hxj_zeq (by rfl) rfl (fun q58 => False.elim (by omega)) (fun q58 => ?_)
                      refine hxa_iconst (by rfl) rfl ?_
                      refine hxa_s1 (by rfl) (Or.inl ⟨_, rfl, rfl⟩) rfl ?_
                      refine hxa_iconst (by rfl) rfl ?_
                      refine hxa_s1 (by rfl) (Or.inr ⟨_, rfl, rfl⟩) rfl ?_
                      exact L208 (Int.toNat (2000 - 0) + 1) z44 (Int32.ofNat 0) (Int32.ofNat 0) (by omega) (by omega) (by omega) (by omega) (by omega) (by omega) (by omega) (by omega) (by omega) (by omega) (by omega)
                    ·
                      refine hxj_zeq (by rfl) rfl (fun q59 => ?_) (fun q59 => False.elim (by omega))
                      refine hxa_iload_n (by rfl) rfl ?_
                      refine hxa_aload_n (by rfl) rfl ?_
                      refine hxa_iload_n (by rfl) rfl ?_
                      refine hxa_iload_n (by rfl) rfl ?_
                      refine hxa_aload_n (by rfl) rfl ?_
                      refine hxa_iload_n (by rfl) rfl ?_
                      refine hxa_iconst (by rfl) rfl ?_
                      refine hxj_iadd (by rfl) rfl hk_1 (by omega) (by omega) (fun z60 ez60 => ?_)
                      refine hxa_call0 (by rfl) (by rfl) (by rfl) (by rfl) (by rfl) (by rfl) (hX136q5 (d := d + 1) hAc7 z60 (by omega)) ?_
                      rintro _ _ ⟨rfl, z61, rfl, fz61⟩
                      refine hxa_call0 (by rfl) (by rfl) (by rfl) (by rfl) (by rfl) (by rfl) (hX143q5 (d := d + 0) hAc7 x7_1 z44 z61 (by rw [(show Ac7.1 367 10 = w7_0 from ek7_0)]; omega) (by rw [(show Ac7.1 367 10 = w7_0 from ek7_0)]; omega)) ?_
                      rintro _ A62 ⟨hA62, z63, rfl, fz63⟩
                      have fbA62_367_10 := hA62.f (i := 367) (k := 10) (by rfl)
                      refine hxj_iadd (by rfl) rfl rfl (by omega) (by omega) (fun z64 ez64 => ?_)
                      refine hxa_s1 (by rfl) (Or.inl ⟨_, rfl, rfl⟩) rfl ?_
                      refine hxa_goto (by rfl) ?_
                      exact ih7 (A62.1 367 10) z64 (.int z44) (x7_3) (x7_4) (x7_5) (x7_6) (x7_7) A62 rfl hx7_3 hx7_5 hx7_6 hA62 rfl (by omega) (by omega) (by omega) (by omega) (by omega)
                ·
                  refine hxj_iinc (by rfl) rfl rfl hk_1 (by omega) (by omega) (fun _ => rfl) (fun z65 ez65 => ?_)
                  refine hxa_goto (by rfl) ?_
                  refine hxa_goto (by rfl) ?_
                  exact ih7 w7_0 z65 (.int z44) (x7_3) (x7_4) (x7_5) (x7_6) (x7_7) Ac7 rfl hx7_3 hx7_5 hx7_6 hAc7 ek7_0 (by omega) (by omega) (by omega) (by omega) (by omega)
        ·
          refine hxa_aload_n (by rfl) rfl ?_
          refine hxa_iconst (by rfl) rfl ?_
          refine hxa_aload_n (by rfl) rfl ?_
          refine hxj_getK (by rfl) (by rfl) (by rfl) ez45 ?_
          refine hxa_iconst (by rfl) rfl ?_
          refine hxa_lconst (by rfl) rfl ?_
          refine hxa_call0 (by rfl) (by rfl) (by rfl) (by rfl) (by rfl) (by rfl) (hX141q5 (d := d + 1) hAc7 (Int32.ofNat 0) (by omega) (by omega) z45 (Int32.ofNat 0) (by omega) (by omega) (Int64.ofNat 0) (by rw [(show Ac7.1 367 10 = w7_0 from ek7_0)]; omega) (by rw [(show Ac7.1 367 10 = w7_0 from ek7_0)]; omega)) ?_
          rintro _ A66 ⟨hA66, rfl, fA66⟩
          have fbA66_367_10 := hA66.f (i := 367) (k := 10) (by rfl)
          exact hxa_return (by rfl) rfl (hP _ _ ⟨hA66, rfl⟩)
  refine hxa_aload_n (by rfl) rfl ?_
  refine hxa_iconst (by rfl) rfl ?_
  refine hxj_putI (by rfl) (by rfl) (by rfl) (by rfl) hA (hbok (by rfl) hk_0 (by omega) (by omega)) (by rfl) (by rfl) (fun A67 hA67 eA67 fA67 => ?_)
  refine hxa_iconst (by rfl) rfl ?_
  refine hxa_s1 (by rfl) (Or.inl ⟨_, rfl, rfl⟩) rfl ?_
  exact L7 (Int.toNat ((402 - 0) * 3000 + (2001 - 0)) + 1) (Int32.ofNat 0) (Int32.ofNat 0) (.retAddr 0) (.retAddr 0) (.retAddr 0) (.retAddr 0) (.retAddr 0) (.retAddr 0) A67 rfl rfl rfl rfl hA67 (hkS eA67) (by omega) (by omega) (by omega) (by omega) (by omega)
theorem hX142q5 {d : Nat} {Bn Br : Int} {A0 A : hs_A} (hA : hJ 5 Bn Br A0 A)   : hxC (d + 3) 142 hm_m142 [.ref 368] A (fun r A' => hJ 5 Bn Br A0 A' ∧ r = none) := hxC.of (by rfl) (hY142q5 hA  (fun r A' h => h))
theorem hY149q5 {d : Nat} {Bn Br : Int} {A0 A : hs_A} (hA : hJ 5 Bn Br A0 A) (hl : (A0.1 367 18).toInt = 0) (a1 : Int32) (p1 : 1 ≤ a1.toInt) (q1 : a1.toInt ≤ 1) {P : Option Value → hs_A → Prop} (hP : ∀ (r : Option Value) (A' : hs_A), (hJ 5 Bn Br A0 A' ∧ A'.1 367 11 = A.1 367 11 ∧ A'.1 367 12 = A.1 367 12 ∧ A'.1 367 13 = A.1 367 13 ∧ A'.1 367 19 = A.1 367 19 ∧ A'.1 367 20 = A.1 367 20 ∧ A'.1 367 31 = A.1 367 31 ∧ A'.1 367 37 = A.1 367 37 ∧ A'.1 367 41 = A.1 367 41 ∧ r = none ∧ (A'.2.1 376 1 = Int32.ofNat 0 ∧ ∀ a : Nat, 4 ≤ (a : Int) → (a : Int) < 8 → (A'.2.1 383 a).toInt = (A'.2.1 384 a).toInt)) → P r A') : hxa (d + 0) none hm_t149 0 [.ref 368, .int a1, .retAddr 0] [] A P := by
  have k0 := hk_0
  have fb367_11 := hA.f (i := 367) (k := 11) (by rfl)
  have fb367_12 := hA.f (i := 367) (k := 12) (by rfl)
  have fb367_13 := hA.f (i := 367) (k := 13) (by rfl)
  have fb367_19 := hA.f (i := 367) (k := 19) (by rfl)
  have fb367_20 := hA.f (i := 367) (k := 20) (by rfl)
  have fb367_31 := hA.f (i := 367) (k := 31) (by rfl)
  have fb367_37 := hA.f (i := 367) (k := 37) (by rfl)
  have fb367_41 := hA.f (i := 367) (k := 41) (by rfl)
  have L57 : ∀ (m57 : Nat) (x57_2 : Int32) (Ac57 : hs_A) (hAc57 : hJ 5 Bn Br A0 Ac57) (ek57_0 : Ac57.1 367 11 = (A.1 367 11)) (ek57_1 : Ac57.1 367 12 = (A.1 367 12)) (ek57_2 : Ac57.1 367 13 = (A.1 367 13)) (ek57_3 : Ac57.1 367 19 = (A.1 367 19)) (ek57_4 : Ac57.1 367 20 = (A.1 367 20)) (ek57_5 : Ac57.1 367 31 = (A.1 367 31)) (ek57_6 : Ac57.1 367 37 = (A.1 367 37)) (ek57_7 : Ac57.1 367 41 = (A.1 367 41)) (bx57_2 : 0 ≤ x57_2.toInt) (cx57_2 : x57_2.toInt ≤ 4) (u57_0 : ∀ a : Nat, 4 * 1 ≤ (a : Int) → (a : Int) < 4 * 1 + x57_2.toInt → (Ac57.2.1 383 a).toInt = (Ac57.2.1 384 a).toInt) (u57_1 : Ac57.2.1 376 1 = Int32.ofNat 0) (hm57 : 4 - x57_2.toInt < (m57 : Int)), hxa (d + 0) none hm_t149 57 [.ref 368, .int a1, .int x57_2] [] Ac57 P := by
    intro m57
    induction m57 with
    | zero => intro x57_2 Ac57 hAc57 ek57_0 ek57_1 ek57_2 ek57_3 ek57_4 ek57_5 ek57_6 ek57_7 bx57_2 cx57_2 u57_0 u57_1 hm57;  exact False.elim (by omega)
    | succ m57 ih57 =>
      intro x57_2 Ac57 hAc57 ek57_0 ek57_1 ek57_2 ek57_3 ek57_4 ek57_5 ek57_6 ek57_7 bx57_2 cx57_2 u57_0 u57_1 hm57
      refine hxa_iload_n (by rfl) rfl ?_
      refine hxa_iconst (by rfl) rfl ?_
      refine hxj_cge (by rfl) rfl hk_4 (fun q1 => ?_) (fun q1 => ?_)
      ·
        exact hxa_return (by rfl) rfl (hP _ _ ⟨hAc57, ek57_0, ek57_1, ek57_2, ek57_3, ek57_4, ek57_5, ek57_6, ek57_7, rfl, ⟨u57_1, fun a h1 h2 => u57_0 a (by omega) (by omega)⟩⟩)
      ·
        refine hxa_aload_n (by rfl) rfl ?_
        refine hxa_get (v := .ref 384) (by rfl) (by rfl) (by rfl) rfl ?_
        refine hxa_iconst (by rfl) rfl ?_
        refine hxa_iload_n (by rfl) rfl ?_
        refine hxj_imul (by rfl) hk_4 rfl (by omega) (by omega) (fun z2 ez2 => ?_)
        refine hxa_iload_n (by rfl) rfl ?_
        refine hxj_iadd (by rfl) rfl rfl (by omega) (by omega) (fun z3 ez3 => ?_)
        refine hxa_iconst (by rfl) rfl ?_
        refine hxj_iastE (by rfl) (by rfl) rfl (by omega) (by omega) hAc57 (by omega) (hlrA hl rfl (by omega) (by omega) (by omega)) (fun A4 hA4 eA4 fA4 gA4 => ?_)
        refine hxa_aload_n (by rfl) rfl ?_
        refine hxa_get (v := .ref 385) (by rfl) (by rfl) (by rfl) rfl ?_
        refine hxa_iconst (by rfl) rfl ?_
        refine hxa_iload_n (by rfl) rfl ?_
        refine hxj_imul (by rfl) hk_4 rfl (by omega) (by omega) (fun z5 ez5 => ?_)
        refine hxa_iload_n (by rfl) rfl ?_
        refine hxj_iadd (by rfl) rfl rfl (by omega) (by omega) (fun z6 ez6 => ?_)
        refine hxa_iconst (by rfl) rfl ?_
        refine hxj_iastE (by rfl) (by rfl) rfl (by omega) (by omega) hA4 (by omega) (hlrA hl rfl (by omega) (by omega) (by omega)) (fun A7 hA7 eA7 fA7 gA7 => ?_)
        refine hxj_iinc (by rfl) rfl rfl hk_1 (by omega) (by omega) (fun _ => rfl) (fun z8 ez8 => ?_)
        refine hxa_goto (by rfl) ?_
        exact ih57 z8 A7 hA7 (hkA eA7 (hkA eA4 ek57_0)) (hkA eA7 (hkA eA4 ek57_1)) (hkA eA7 (hkA eA4 ek57_2)) (hkA eA7 (hkA eA4 ek57_3)) (hkA eA7 (hkA eA4 ek57_4)) (hkA eA7 (hkA eA4 ek57_5)) (hkA eA7 (hkA eA4 ek57_6)) (hkA eA7 (hkA eA4 ek57_7)) (by omega) (by omega) (by first | exact hpl (s := 1) (by assumption) (by assumption) rfl (by omega) (by omega) (by omega) (by assumption) u57_0 | (intro a h1 h2; omega)) (by exact (helA fA7 (by omega) (helA fA4 (by omega) u57_1))) (by omega)
  have L31 : ∀ (m31 : Nat) (x31_2 : Int32) (Ac31 : hs_A) (hAc31 : hJ 5 Bn Br A0 Ac31) (ek31_0 : Ac31.1 367 11 = (A.1 367 11)) (ek31_1 : Ac31.1 367 12 = (A.1 367 12)) (ek31_2 : Ac31.1 367 13 = (A.1 367 13)) (ek31_3 : Ac31.1 367 19 = (A.1 367 19)) (ek31_4 : Ac31.1 367 20 = (A.1 367 20)) (ek31_5 : Ac31.1 367 31 = (A.1 367 31)) (ek31_6 : Ac31.1 367 37 = (A.1 367 37)) (ek31_7 : Ac31.1 367 41 = (A.1 367 41)) (bx31_2 : 0 ≤ x31_2.toInt) (cx31_2 : x31_2.toInt ≤ 24) (u31_0 : Ac31.2.1 376 1 = Int32.ofNat 0) (hm31 : 24 - x31_2.toInt < (m31 : Int)), hxa (d + 0) none hm_t149 31 [.ref 368, .int a1, .int x31_2] [] Ac31 P := by
    intro m31
    induction m31 with
    | zero => intro x31_2 Ac31 hAc31 ek31_0 ek31_1 ek31_2 ek31_3 ek31_4 ek31_5 ek31_6 ek31_7 bx31_2 cx31_2 u31_0 hm31;  exact False.elim (by omega)
    | succ m31 ih31 =>
      intro x31_2 Ac31 hAc31 ek31_0 ek31_1 ek31_2 ek31_3 ek31_4 ek31_5 ek31_6 ek31_7 bx31_2 cx31_2 u31_0 hm31
      refine hxa_iload_n (by rfl) rfl ?_
      refine hxa_bipush (by rfl) rfl ?_
      refine hxj_cge (by rfl) rfl hk_24 (fun q9 => ?_) (fun q9 => ?_)
      ·
        refine hxa_iconst (by rfl) rfl ?_
        refine hxa_s1 (by rfl) (Or.inl ⟨_, rfl, rfl⟩) rfl ?_
        exact L57 (Int.toNat (4 - 0) + 1) (Int32.ofNat 0) Ac31 hAc31 ek31_0 ek31_1 ek31_2 ek31_3 ek31_4 ek31_5 ek31_6 ek31_7 (by omega) (by omega) (by first | exact hpl (s := 1) (by assumption) (by assumption) rfl (by omega) (by omega) (by omega) (by assumption) u57_0 | (intro a h1 h2; omega)) (by exact u31_0) (by omega)
      ·
        refine hxa_aload_n (by rfl) rfl ?_
        refine hxa_get (v := .ref 381) (by rfl) (by rfl) (by rfl) rfl ?_
        refine hxa_bipush (by rfl) rfl ?_
        refine hxa_iload_n (by rfl) rfl ?_
        refine hxj_imul (by rfl) hk_24 rfl (by omega) (by omega) (fun z10 ez10 => ?_)
        refine hxa_iload_n (by rfl) rfl ?_
        refine hxj_iadd (by rfl) rfl rfl (by omega) (by omega) (fun z11 ez11 => ?_)
        refine hxa_iconst (by rfl) rfl ?_
        refine hxj_iast (by rfl) (by rfl) rfl (by omega) (by omega) hAc31 (hbokN (by rfl)) (by rfl) (by rfl) (fun A12 hA12 eA12 fA12 gA12 => ?_)
        refine hxj_iinc (by rfl) rfl rfl hk_1 (by omega) (by omega) (fun _ => rfl) (fun z13 ez13 => ?_)
        refine hxa_goto (by rfl) ?_
        exact ih31 z13 A12 hA12 (hkA eA12 ek31_0) (hkA eA12 ek31_1) (hkA eA12 ek31_2) (hkA eA12 ek31_3) (hkA eA12 ek31_4) (hkA eA12 ek31_5) (hkA eA12 ek31_6) (hkA eA12 ek31_7) (by omega) (by omega) (by exact (helA fA12 (by omega) u31_0)) (by omega)
  refine hxa_aload_n (by rfl) rfl ?_
  refine hxa_get (v := .ref 377) (by rfl) (by rfl) (by rfl) rfl ?_
  refine hxa_iload_n (by rfl) rfl ?_
  refine hxa_iconst (by rfl) rfl ?_
  refine hxj_iast (by rfl) (by rfl) rfl (by omega) (by omega) hA (hbok (by rfl) hk_0 (by omega) (by omega)) (by rfl) (by rfl) (fun A14 hA14 eA14 fA14 gA14 => ?_)
  have e376 : A14.2.1 376 1 = Int32.ofNat 0 := by rw [fA14, (show a1.toNatClampNeg = 1 from by have := hn_cn (j := a1) (by omega); omega), hup1]
  refine hxa_aload_n (by rfl) rfl ?_
  refine hxa_get (v := .ref 380) (by rfl) (by rfl) (by rfl) rfl ?_
  refine hxa_iload_n (by rfl) rfl ?_
  refine hxa_iconst (by rfl) rfl ?_
  refine hxj_iast (by rfl) (by rfl) rfl (by omega) (by omega) hA14 (hbokN (by rfl)) (by rfl) (by rfl) (fun A15 hA15 eA15 fA15 gA15 => ?_)
  refine hxa_aload_n (by rfl) rfl ?_
  refine hxa_get (v := .ref 382) (by rfl) (by rfl) (by rfl) rfl ?_
  refine hxa_iload_n (by rfl) rfl ?_
  refine hxa_bipush (by rfl) rfl ?_
  refine hxj_iast (by rfl) (by rfl) rfl (by omega) (by omega) hA15 (hbokN (by rfl)) (by rfl) (by rfl) (fun A16 hA16 eA16 fA16 gA16 => ?_)
  refine hxa_aload_n (by rfl) rfl ?_
  refine hxa_get (v := .ref 383) (by rfl) (by rfl) (by rfl) rfl ?_
  refine hxa_iload_n (by rfl) rfl ?_
  refine hxa_iconst (by rfl) rfl ?_
  refine hxj_iast (by rfl) (by rfl) rfl (by omega) (by omega) hA16 (hbokN (by rfl)) (by rfl) (by rfl) (fun A17 hA17 eA17 fA17 gA17 => ?_)
  refine hxa_iconst (by rfl) rfl ?_
  refine hxa_s1 (by rfl) (Or.inl ⟨_, rfl, rfl⟩) rfl ?_
  exact L31 (Int.toNat (24 - 0) + 1) (Int32.ofNat 0) A17 hA17 (hkA eA17 (hkA eA16 (hkA eA15 (hkA eA14 rfl)))) (hkA eA17 (hkA eA16 (hkA eA15 (hkA eA14 rfl)))) (hkA eA17 (hkA eA16 (hkA eA15 (hkA eA14 rfl)))) (hkA eA17 (hkA eA16 (hkA eA15 (hkA eA14 rfl)))) (hkA eA17 (hkA eA16 (hkA eA15 (hkA eA14 rfl)))) (hkA eA17 (hkA eA16 (hkA eA15 (hkA eA14 rfl)))) (hkA eA17 (hkA eA16 (hkA eA15 (hkA eA14 rfl)))) (hkA eA17 (hkA eA16 (hkA eA15 (hkA eA14 rfl)))) (by omega) (by omega) (by exact (helA fA17 (by omega) (helA fA16 (by omega) (helA fA15 (by omega) e376)))) (by omega)
theorem hX149q5 {d : Nat} {Bn Br : Int} {A0 A : hs_A} (hA : hJ 5 Bn Br A0 A) (hl : (A0.1 367 18).toInt = 0) (a1 : Int32) (p1 : 1 ≤ a1.toInt) (q1 : a1.toInt ≤ 1) : hxC (d + 1) 149 hm_m149 [.ref 368, .int a1] A (fun r A' => hJ 5 Bn Br A0 A' ∧ A'.1 367 11 = A.1 367 11 ∧ A'.1 367 12 = A.1 367 12 ∧ A'.1 367 13 = A.1 367 13 ∧ A'.1 367 19 = A.1 367 19 ∧ A'.1 367 20 = A.1 367 20 ∧ A'.1 367 31 = A.1 367 31 ∧ A'.1 367 37 = A.1 367 37 ∧ A'.1 367 41 = A.1 367 41 ∧ r = none ∧ (A'.2.1 376 1 = Int32.ofNat 0 ∧ ∀ a : Nat, 4 ≤ (a : Int) → (a : Int) < 8 → (A'.2.1 383 a).toInt = (A'.2.1 384 a).toInt)) := hxC.of (by rfl) (hY149q5 hA hl a1 p1 q1 (fun r A' h => h))
/-! the pile of what waits, and the code of a term -/
def hN (W : Nat → Int32) : Nat → Nat → Nat → Prop
  | 0, o, g => o = 0 ∧ g = 0
  | n + 1, o, g => ((W n).toInt = 6 ∧ g = 0 ∧ ∃ o' g', o = o' + 1 ∧ hN W n o' g') ∨ (((W n).toInt = 8 ∨ (W n).toInt = 9) ∧ g = 1 ∧ hN W n o 0) ∨ (((W n).toInt = 10 ∨ (W n).toInt = 15) ∧ ((g = 2 ∧ hN W n o 0) ∨ (g = 3 ∧ hN W n o 1)))
theorem hN_le (W : Nat → Int32) : ∀ (n o g : Nat), hN W n o g → o ≤ n ∧ g ≤ 3 ∧ (g = 0 → n ≤ 3 * o) ∧ (g = 1 → n ≤ 3 * o + 1) ∧ n ≤ 3 * o + 2 := by
  intro n
  induction n with
  | zero => intro o g h; obtain ⟨rfl, rfl⟩ := h; omega
  | succ n ih =>
    intro o g h
    rcases h with ⟨-, rfl, o', g', rfl, h⟩ | ⟨-, rfl, h⟩ | ⟨-, ⟨rfl, h⟩ | ⟨rfl, h⟩⟩
    · have := ih _ _ h
      omega
    · have := ih _ _ h
      omega
    · have := ih _ _ h
      omega
    · have := ih _ _ h
      omega
theorem hN_ext {W W' : Nat → Int32} : ∀ (n o g : Nat), (∀ i, i < n → W' i = W i) → hN W n o g → hN W' n o g := by
  intro n
  induction n with
  | zero => intro o g _ h; exact h
  | succ n ih =>
    intro o g hw h
    have e := hw n (by omega)
    have hw' : ∀ i, i < n → W' i = W i := fun i hi => hw i (by omega)
    rcases h with ⟨h0, h1, o', g', h2, h⟩ | ⟨h0, h1, h⟩ | ⟨h0, ⟨h1, h⟩ | ⟨h1, h⟩⟩
    · exact Or.inl ⟨by rw [e]; exact h0, h1, o', g', h2, ih _ _ hw' h⟩
    · exact Or.inr (Or.inl ⟨by rw [e]; exact h0, h1, ih _ _ hw' h⟩)
    · exact Or.inr (Or.inr ⟨by rw [e]; exact h0, Or.inl ⟨h1, ih _ _ hw' h⟩⟩)
    · exact Or.inr (Or.inr ⟨by rw [e]; exact h0, Or.inr ⟨h1, ih _ _ hw' h⟩⟩)
def hWe (K I : Nat → Int32) : Nat → Nat → Nat → Nat → Prop
  | 0, _, h, h' => h = h'
  | n + 1, c, h, h' => ((K c).toInt = 0 ∧ hWe K I n (c + 1) (h + 1) h') ∨ ((K c).toInt = 1 ∧ (0 ≤ (I c).toInt ∧ (I c).toInt ≤ 8) ∧ hWe K I n (c + 1) (h + 1) h') ∨ ((2 ≤ (K c).toInt ∧ (K c).toInt ≤ 5) ∧ 2 ≤ h ∧ hWe K I n (c + 1) (h - 1) h')
theorem hWe_W {K I : Nat → Int32} : ∀ (n c h h' : Nat), hWe K I n c h h' → hW K I n c h := by
  intro n
  induction n with
  | zero => intro c h h' _; exact True.intro
  | succ n ih =>
    intro c h h' w
    rcases w with ⟨a, w⟩ | ⟨a, b, w⟩ | ⟨a, b, w⟩
    · exact Or.inl ⟨a, ih _ _ _ w⟩
    · exact Or.inr (Or.inl ⟨a, b, ih _ _ _ w⟩)
    · exact Or.inr (Or.inr ⟨a, b, ih _ _ _ w⟩)
theorem hWe_snoc {K I K' I' : Nat → Int32} : ∀ (n c h h' h2 : Nat), (∀ i, i < n → K' (c + i) = K (c + i) ∧ I' (c + i) = I (c + i)) → hWe K I n c h h' → hWe K' I' 1 (c + n) h' h2 → hWe K' I' (n + 1) c h h2 := by
  intro n
  induction n with
  | zero =>
    intro c h h' h2 _ w w2
    have : h = h' := w
    subst this
    exact w2
  | succ n ih =>
    intro c h h' h2 he w w2
    have e := he 0 (by omega)
    have he' : ∀ i, i < n → K' (c + 1 + i) = K (c + 1 + i) ∧ I' (c + 1 + i) = I (c + 1 + i) := fun i hi => by
      have := he (i + 1) (by omega)
      have e2 : c + (i + 1) = c + 1 + i := by omega
      rw [e2] at this
      exact this
    have w2' : hWe K' I' 1 (c + 1 + n) h' h2 := by
      have e2 : c + (n + 1) = c + 1 + n := by omega
      rw [e2] at w2
      exact w2
    have ec : c + 0 = c := rfl
    rw [ec] at e
    rcases w with ⟨a, w⟩ | ⟨a, b, w⟩ | ⟨a, b, w⟩
    · exact Or.inl ⟨by rw [e.1]; exact a, ih _ _ _ _ he' w w2'⟩
    · exact Or.inr (Or.inl ⟨by rw [e.1]; exact a, by rw [e.2]; exact b, ih _ _ _ _ he' w w2'⟩)
    · exact Or.inr (Or.inr ⟨by rw [e.1]; exact a, b, ih _ _ _ _ he' w w2'⟩)
theorem hWe_ext {K I K' I' : Nat → Int32} : ∀ (n c h h' : Nat), (∀ i, i < n → K' (c + i) = K (c + i) ∧ I' (c + i) = I (c + i)) → hWe K I n c h h' → hWe K' I' n c h h' := by
  intro n
  induction n with
  | zero => intro c h h' _ w; exact w
  | succ n ih =>
    intro c h h' he w
    have e := he 0 (by omega)
    have he' : ∀ i, i < n → K' (c + 1 + i) = K (c + 1 + i) ∧ I' (c + 1 + i) = I (c + 1 + i) := fun i hi => by
      have := he (i + 1) (by omega)
      have e2 : c + (i + 1) = c + 1 + i := by omega
      rw [e2] at this
      exact this
    have ec : c + 0 = c := rfl
    rw [ec] at e
    rcases w with ⟨a, w⟩ | ⟨a, b, w⟩ | ⟨a, b, w⟩
    · exact Or.inl ⟨by rw [e.1]; exact a, ih _ _ _ he' w⟩
    · exact Or.inr (Or.inl ⟨by rw [e.1]; exact a, by rw [e.2]; exact b, ih _ _ _ he' w⟩)
    · exact Or.inr (Or.inr ⟨by rw [e.1]; exact a, b, ih _ _ _ he' w⟩)
def hQ (s f : Int) (o g e : Nat) (A : hs_A) : Prop := hN (A.2.1 392) (A.1 367 41).toInt.toNat o g ∧ 0 ≤ (A.1 367 41).toInt ∧ (0 ≤ s ∧ 420 * s ≤ f ∧ f ≤ (A.1 367 37).toInt) ∧ hWe (A.2.1 390) (A.2.1 391) ((A.1 367 37).toInt - f).toNat f.toNat 0 ((A.1 367 41).toInt.toNat - o + e) ∧ (A.1 367 37).toInt + (A.1 367 41).toInt - o ≤ 420 * s + (A.1 367 11).toInt
/-- the code below n stands, and the other rows -/
def hK (n : Nat) (A A' : hs_A) : Prop := (∀ c, ¬ c = 390 → ¬ c = 391 → ¬ c = 392 → A'.2.1 c = A.2.1 c) ∧ ∀ j, j < n → A'.2.1 390 j = A.2.1 390 j ∧ A'.2.1 391 j = A.2.1 391 j
theorem hK.refl (n : Nat) (A : hs_A) : hK n A A := ⟨fun _ _ _ _ => rfl, fun _ _ => ⟨rfl, rfl⟩⟩
theorem hK.trans {n n' : Nat} {A A' A2 : hs_A} (h : hK n A A') (h2 : hK n' A' A2) (hn : n ≤ n') : hK n A A2 := ⟨fun c a b e => (h2.1 c a b e).trans (h.1 c a b e), fun j hj => ⟨((h2.2 j (by omega)).1).trans (h.2 j hj).1, ((h2.2 j (by omega)).2).trans (h.2 j hj).2⟩⟩
theorem hK.eq {n : Nat} {A A' : hs_A} (h : A'.2.1 = A.2.1) : hK n A A' := by
  unfold hK
  rw [h]
  exact ⟨fun _ _ _ _ => rfl, fun _ _ => ⟨rfl, rfl⟩⟩
theorem hK.w {n j : Nat} {x : Int32} {A A' : hs_A} (h : A'.2.1 = hs_up A.2.1 392 j x) : hK n A A' := by
  unfold hK
  rw [h]
  refine ⟨fun c _ _ hc => ?_, fun i _ => ⟨hup2 (by omega), hup2 (by omega)⟩⟩
  funext b
  exact hup2 (fun e => hc e.1)
theorem hK.em {n : Nat} {c k v : Int32} {A A' : hs_A} (h : A'.2.1 = hs_up (hs_up A.2.1 390 c.toNatClampNeg k) 391 c.toNatClampNeg v) (h0 : 0 ≤ c.toInt) (hn : (n : Int) ≤ c.toInt) : hK n A A' ∧ A'.2.1 392 = A.2.1 392 := by
  have hc := hn_cn h0
  have key : ∀ q b, ¬ (q = 390 ∨ q = 391) ∨ b < n → A'.2.1 q b = A.2.1 q b := by
    intro q b hq'
    rw [h]
    rw [hup2 (by omega), hup2 (by omega)]
  refine ⟨⟨fun q a b _ => ?_, fun i hi => ⟨key _ _ (Or.inr hi), key _ _ (Or.inr hi)⟩⟩, ?_⟩
  · funext i
    exact key _ _ (Or.inl (by omega))
  · funext i
    exact key _ _ (Or.inl (by omega))
section HQ
variable {s f : Int} {o g e : Nat} {A A' : hs_A}
theorem hQ.w (h : hQ s f o g e A) : (o : Int) ≤ (A.1 367 41).toInt ∧ (A.1 367 41).toInt ≤ 3 * o + 2 := by
  have := hN_le _ _ _ _ h.1
  have h1 := h.2.1
  omega
theorem hQ.mv (h : hQ s f o g e A) (h41 : (A'.1 367 41).toInt = (A.1 367 41).toInt) (h37 : (A'.1 367 37).toInt = (A.1 367 37).toInt) (ha : A'.2.1 = A.2.1) (ht : (A.1 367 11).toInt ≤ (A'.1 367 11).toInt) : hQ s f o g e A' := by
  unfold hQ
  rw [h41, h37, ha]
  exact ⟨h.1, h.2.1, h.2.2.1, h.2.2.2.1, by have := h.2.2.2.2; omega⟩
theorem hQ.init (hs : 0 ≤ s) (h0 : 420 * s ≤ (A.1 367 37).toInt) (h1 : (A.1 367 37).toInt ≤ 420 * s + (A.1 367 11).toInt) (hw : (A.1 367 41).toInt = 0) : hQ s (A.1 367 37).toInt 0 0 0 A := by
  unfold hQ
  rw [hw]
  refine ⟨⟨rfl, rfl⟩, by omega, ⟨hs, h0, by omega⟩, ?_, by omega⟩
  have : ((A.1 367 37).toInt - (A.1 367 37).toInt).toNat = 0 := by omega
  rw [this]
  rfl
theorem hQ.code {c k v : Int32} (h : hQ s f o g e A) (hc : A.1 367 37 = c) (ha : A'.2.1 = hs_up (hs_up A.2.1 390 c.toNatClampNeg k) 391 c.toNatClampNeg v) {h2 : Nat} (h0 : 0 ≤ f) (w : ∀ (K I : Nat → Int32), K c.toNatClampNeg = k → I c.toNatClampNeg = v → hWe K I 1 c.toNatClampNeg ((A.1 367 41).toInt.toNat - o + e) h2) (h37 : (A'.1 367 37).toInt = (A.1 367 37).toInt + 1) : hWe (A'.2.1 390) (A'.2.1 391) ((A'.1 367 37).toInt - f).toNat f.toNat 0 h2 := by
  have hfc := h.2.2.1.2.2
  have hcc : c.toInt = (A.1 367 37).toInt := by rw [hc]
  have hn := hn_cn (j := c) (by omega)
  have e1 : ((A'.1 367 37).toInt - f).toNat = ((A.1 367 37).toInt - f).toNat + 1 := by omega
  have e2 : f.toNat + ((A.1 367 37).toInt - f).toNat = c.toNatClampNeg := by omega
  rw [e1]
  refine hWe_snoc _ _ _ _ _ (fun i hi => ?_) h.2.2.2.1 ?_
  · rw [ha]
    exact ⟨by rw [hup2 (by omega), hup2 (by omega)], by rw [hup2 (by omega), hup2 (by omega)]⟩
  · rw [e2]
    refine w _ _ ?_ ?_
    · rw [ha, hup2 (by omega), hup1]
    · rw [ha, hup1]
theorem hQ.unit {c k v : Int32} (h : hQ s f o g 0 A) (hc : A.1 367 37 = c) (ha : A'.2.1 = hs_up (hs_up A.2.1 390 c.toNatClampNeg k) 391 c.toNatClampNeg v) (h37 : (A'.1 367 37).toInt = (A.1 367 37).toInt + 1) (h41 : (A'.1 367 41).toInt = (A.1 367 41).toInt) (ht : (A'.1 367 11).toInt = (A.1 367 11).toInt + 1) (hk : k.toInt = 0 ∨ (k.toInt = 1 ∧ 0 ≤ v.toInt ∧ v.toInt ≤ 8)) : hQ s f o g 1 A' := by
  have hs := h.2.2.1
  have hcc : c.toInt = (A.1 367 37).toInt := by rw [hc]
  have h92 := (hK.em (n := 0) ha (by omega) (by omega)).2
  refine ⟨by rw [h41, h92]; exact h.1, by rw [h41]; exact h.2.1, ⟨hs.1, hs.2.1, by omega⟩, ?_, by have := h.2.2.2.2; omega⟩
  refine h.code hc ha (by omega) (fun K I eK eI => ?_) h37
  rw [h41]
  rcases hk with hk | ⟨hk, hv⟩
  · exact Or.inl ⟨by rw [eK]; exact hk, rfl⟩
  · exact Or.inr (Or.inl ⟨by rw [eK]; exact hk, by rw [eI]; exact hv, rfl⟩)
theorem hQ.op {c k v : Int32} {g' : Nat} (h : hQ s f o g 1 A) (hc : A.1 367 37 = c) (ha : A'.2.1 = hs_up (hs_up A.2.1 390 c.toNatClampNeg k) 391 c.toNatClampNeg v) (h37 : (A'.1 367 37).toInt = (A.1 367 37).toInt + 1) (h41 : (A'.1 367 41).toInt = (A.1 367 41).toInt - 1) (ht : (A'.1 367 11).toInt = (A.1 367 11).toInt) (hk : 2 ≤ k.toInt ∧ k.toInt ≤ 5) (hw : 0 < (A.1 367 41).toInt) (hn : hN (A.2.1 392) ((A.1 367 41).toInt - 1).toNat o g') : hQ s f o g' 1 A' := by
  have hs := h.2.2.1
  have hcc : c.toInt = (A.1 367 37).toInt := by rw [hc]
  have h92 := (hK.em (n := 0) ha (by omega) (by omega)).2
  have hle := hN_le _ _ _ _ hn
  refine ⟨by rw [h41, h92]; exact hn, by omega, ⟨hs.1, hs.2.1, by omega⟩, ?_, by have := h.2.2.2.2; omega⟩
  refine h.code hc ha (by omega) (fun K I eK eI => ?_) h37
  rw [h41]
  exact Or.inr (Or.inr ⟨by rw [eK]; exact hk, by omega, by show _ = _; omega⟩)
theorem hQ.push {x j : Int32} {g2 : Nat} (h : hQ s f o g 1 A) (hj : A.1 367 41 = j) (ha : A'.2.1 = hs_up A.2.1 392 j.toNatClampNeg x) (h37 : (A'.1 367 37).toInt = (A.1 367 37).toInt) (h41 : (A'.1 367 41).toInt = (A.1 367 41).toInt + 1) (ht : (A'.1 367 11).toInt = (A.1 367 11).toInt + 1) (hx : ((x.toInt = 8 ∨ x.toInt = 9) ∧ g = 0 ∧ g2 = 1) ∨ ((x.toInt = 10 ∨ x.toInt = 15) ∧ ((g = 0 ∧ g2 = 2) ∨ (g = 1 ∧ g2 = 3)))) : hQ s f o g2 0 A' := by
  have hw := h.2.1
  have hjj : j.toInt = (A.1 367 41).toInt := by rw [hj]
  have hn := hn_cn (j := j) (by omega)
  have hle := hN_le _ _ _ _ h.1
  have e1 : (A'.1 367 41).toInt.toNat = (A.1 367 41).toInt.toNat + 1 := by omega
  have eW : (A'.2.1 392) (A.1 367 41).toInt.toNat = x := by
    have : (A.1 367 41).toInt.toNat = j.toNatClampNeg := by omega
    rw [ha, this, hup1]
  have hN' : hN (A'.2.1 392) (A.1 367 41).toInt.toNat o g := hN_ext _ _ _ (fun i hi => by rw [ha, hup2 (by omega)]) h.1
  have e390 : A'.2.1 390 = A.2.1 390 := by rw [ha]; funext i; exact hup2 (by omega)
  have e391 : A'.2.1 391 = A.2.1 391 := by rw [ha]; funext i; exact hup2 (by omega)
  refine ⟨?_, by omega, by rw [h37]; exact h.2.2.1, ?_, by have := h.2.2.2.2; omega⟩
  · rw [e1]
    rcases hx with ⟨a, rfl, rfl⟩ | ⟨a, ⟨rfl, rfl⟩ | ⟨rfl, rfl⟩⟩
    · exact Or.inr (Or.inl ⟨by rw [eW]; exact a, rfl, hN'⟩)
    · exact Or.inr (Or.inr ⟨by rw [eW]; exact a, Or.inl ⟨rfl, hN'⟩⟩)
    · exact Or.inr (Or.inr ⟨by rw [eW]; exact a, Or.inr ⟨rfl, hN'⟩⟩)
  · rw [e390, e391, h37]
    have : (A'.1 367 41).toInt.toNat - o + 0 = (A.1 367 41).toInt.toNat - o + 1 := by omega
    rw [this]
    exact h.2.2.2.1
theorem hQ.opn {x j : Int32} (h : hQ s f o g 0 A) (hj : A.1 367 41 = j) (ha : A'.2.1 = hs_up A.2.1 392 j.toNatClampNeg x) (h37 : (A'.1 367 37).toInt = (A.1 367 37).toInt) (h41 : (A'.1 367 41).toInt = (A.1 367 41).toInt + 1) (ht : (A.1 367 11).toInt ≤ (A'.1 367 11).toInt) (hx : x.toInt = 6) : hQ s f (o + 1) 0 0 A' := by
  have hw := h.2.1
  have hjj : j.toInt = (A.1 367 41).toInt := by rw [hj]
  have hn := hn_cn (j := j) (by omega)
  have hle := hN_le _ _ _ _ h.1
  have e1 : (A'.1 367 41).toInt.toNat = (A.1 367 41).toInt.toNat + 1 := by omega
  have eW : (A'.2.1 392) (A.1 367 41).toInt.toNat = x := by
    have : (A.1 367 41).toInt.toNat = j.toNatClampNeg := by omega
    rw [ha, this, hup1]
  have hN' : hN (A'.2.1 392) (A.1 367 41).toInt.toNat o g := hN_ext _ _ _ (fun i hi => by rw [ha, hup2 (by omega)]) h.1
  have e390 : A'.2.1 390 = A.2.1 390 := by rw [ha]; funext i; exact hup2 (by omega)
  have e391 : A'.2.1 391 = A.2.1 391 := by rw [ha]; funext i; exact hup2 (by omega)
  refine ⟨?_, by omega, by rw [h37]; exact h.2.2.1, ?_, by have := h.2.2.2.2; omega⟩
  · rw [e1]
    exact Or.inl ⟨by rw [eW]; exact hx, rfl, o, g, rfl, hN'⟩
  · rw [e390, e391, h37]
    have : (A'.1 367 41).toInt.toNat - (o + 1) + 0 = (A.1 367 41).toInt.toNat - o + 0 := by omega
    rw [this]
    exact h.2.2.2.1
theorem hQ.close (h : hQ s f (o + 1) 0 1 A) (ha : A'.2.1 = A.2.1) (h37 : (A'.1 367 37).toInt = (A.1 367 37).toInt) (h41 : (A'.1 367 41).toInt = (A.1 367 41).toInt - 1) (ht : (A.1 367 11).toInt ≤ (A'.1 367 11).toInt) : ∃ g', hQ s f o g' 1 A' := by
  have hw := h.w
  obtain ⟨n, hn⟩ : ∃ n, (A.1 367 41).toInt.toNat = n + 1 := ⟨(A.1 367 41).toInt.toNat - 1, by omega⟩
  have h1 := h.1
  rw [hn] at h1
  rcases h1 with ⟨-, -, o', g', e, h1⟩ | ⟨-, z, -⟩ | ⟨-, ⟨z, -⟩ | ⟨z, -⟩⟩
  · have eo : o' = o := by omega
    subst eo
    have e1 : (A'.1 367 41).toInt.toNat = n := by omega
    refine ⟨g', by rw [ha, e1]; exact h1, by omega, by rw [h37]; exact h.2.2.1, ?_, by have := h.2.2.2.2; omega⟩
    rw [ha, h37]
    have : (A'.1 367 41).toInt.toNat - o' + 1 = (A.1 367 41).toInt.toNat - (o' + 1) + 1 := by omega
    rw [this]
    exact h.2.2.2.1
  · cases z
  · cases z
  · cases z
theorem hQ.fin (h : hQ s f 0 0 1 A) : (A.1 367 41).toInt = 0 ∧ hWe (A.2.1 390) (A.2.1 391) ((A.1 367 37).toInt - f).toNat f.toNat 0 1 := by
  have hw := h.2.1
  have hle := hN_le _ _ _ _ h.1
  have e : (A.1 367 41).toInt.toNat = 0 := by omega
  have h4 := h.2.2.2.1
  rw [e] at h4
  exact ⟨by omega, h4⟩
/-- what the top of the pile is -/
theorem hQ.top {j z : Int32} (h : hQ s f o g 1 A) (hw : 0 < (A.1 367 41).toInt) (hj : j.toInt = (A.1 367 41).toInt - 1) (e : A.2.1 392 j.toNatClampNeg = z) : (z.toInt = 6 ∧ g = 0) ∨ ((z.toInt = 8 ∨ z.toInt = 9) ∧ g = 1 ∧ hN (A.2.1 392) ((A.1 367 41).toInt - 1).toNat o 0) ∨ ((z.toInt = 10 ∨ z.toInt = 15) ∧ ∃ g', g' ≤ 1 ∧ hN (A.2.1 392) ((A.1 367 41).toInt - 1).toNat o g') := by
  have hn := hn_cn (j := j) (by omega)
  obtain ⟨n, hnn⟩ : ∃ n, (A.1 367 41).toInt.toNat = n + 1 := ⟨(A.1 367 41).toInt.toNat - 1, by omega⟩
  have h1 := h.1
  rw [hnn] at h1
  have e1 : ((A.1 367 41).toInt - 1).toNat = n := by omega
  have e2 : j.toNatClampNeg = n := by omega
  rw [e2] at e
  rw [e1]
  rcases h1 with ⟨a, b, -⟩ | ⟨a, b, h1⟩ | ⟨a, ⟨b, h1⟩ | ⟨b, h1⟩⟩
  · exact Or.inl ⟨by rw [← e]; exact a, b⟩
  · exact Or.inr (Or.inl ⟨by rw [← e]; exact a, b, h1⟩)
  · exact Or.inr (Or.inr ⟨by rw [← e]; exact a, 0, by omega, h1⟩)
  · exact Or.inr (Or.inr ⟨by rw [← e]; exact a, 1, by omega, h1⟩)
end HQ
theorem hQ.cb {s f : Int} {o g e : Nat} {A : hs_A} (h : hQ s f o g e A) (ht : (A.1 367 11).toInt ≤ 400) : 420 * s ≤ (A.1 367 37).toInt ∧ (A.1 367 37).toInt ≤ 420 * s + 400 := by
  have := h.w
  have h3 := h.2.2.1
  have h5 := h.2.2.2.2
  omega
theorem hQ.zero {s f : Int} {o g e : Nat} {A : hs_A} (h : hQ s f o g e A) (hw : (A.1 367 41).toInt ≤ 0) : g = 0 := by
  have h1 := h.1
  have : (A.1 367 41).toInt.toNat = 0 := by omega
  rw [this] at h1
  exact h1.2
theorem hUnit {s f : Int} {o g : Nat} {A A1 A2 : hs_A} {k v : Int32} (hq' : hQ s f o g 0 A) (e37 : (A1.1 367 37).toInt = (A.1 367 37).toInt + 1) (ea : A1.2.1 = hs_up (hs_up A.2.1 390 (A.1 367 37).toNatClampNeg k) 391 (A.1 367 37).toNatClampNeg v) (f37 : (A2.1 367 37).toInt = (A1.1 367 37).toInt) (f41 : (A2.1 367 41).toInt = (A.1 367 41).toInt) (f11 : (A1.1 367 11).toInt = (A.1 367 11).toInt) (f13 : (A1.1 367 13).toInt = (A.1 367 13).toInt) (ae : A2.2.1 = A1.2.1) (pr : (¬ (A2.1 367 13).toInt = 0 ∨ ((A1.1 367 13).toInt = 0 ∧ (A2.1 367 11).toInt = (A1.1 367 11).toInt + 1)) ∧ (A1.1 367 11).toInt ≤ (A2.1 367 11).toInt ∧ (A2.1 367 11).toInt ≤ (A1.1 367 11).toInt + 1) (hk : k.toInt = 0 ∨ (k.toInt = 1 ∧ 0 ≤ v.toInt ∧ v.toInt ≤ 8)) : (¬ (A2.1 367 13).toInt = 0 ∨ ((A.1 367 13).toInt = 0 ∧ (A2.1 367 11).toInt = (A.1 367 11).toInt + 1 ∧ hQ s f o g 1 A2)) ∧ (A.1 367 11).toInt ≤ (A2.1 367 11).toInt ∧ (A.1 367 37).toInt ≤ (A2.1 367 37).toInt ∧ (A2.1 367 37).toInt ≤ (A.1 367 37).toInt + 1 ∧ hK (A.1 367 37).toInt.toNat A A2 ∧ A2.2.1 392 = A.2.1 392 := by
  have hc0 := hq'.2.2.1
  have hem := hK.em (n := (A.1 367 37).toInt.toNat) (c := A.1 367 37) (ae.trans ea) (by omega) (by omega)
  refine ⟨?_, by omega, by omega, by omega, hem.1, hem.2⟩
  rcases pr.1 with p | p
  · exact Or.inl p
  · exact Or.inr ⟨by omega, by omega, hq'.unit rfl (ae.trans ea) (by omega) f41 (by omega) hk⟩
theorem hUnitF {s f : Int} {o g : Nat} {A A2 : hs_A} (f37 : (A2.1 367 37).toInt = (A.1 367 37).toInt) (ae : A2.2.1 = A.2.1) (pr : ¬ (A2.1 367 13).toInt = 0 ∧ (A2.1 367 11).toInt = (A.1 367 11).toInt) : (¬ (A2.1 367 13).toInt = 0 ∨ ((A.1 367 13).toInt = 0 ∧ (A2.1 367 11).toInt = (A.1 367 11).toInt + 1 ∧ hQ s f o g 1 A2)) ∧ (A.1 367 11).toInt ≤ (A2.1 367 11).toInt ∧ (A.1 367 37).toInt ≤ (A2.1 367 37).toInt ∧ (A2.1 367 37).toInt ≤ (A.1 367 37).toInt + 1 ∧ hK (A.1 367 37).toInt.toNat A A2 ∧ A2.2.1 392 = A.2.1 392 := ⟨Or.inl pr.1, by omega, by omega, by omega, hK.eq ae, by rw [ae]⟩
theorem hOp {s f : Int} {o g g' : Nat} {W0 W1 W2 : hs_A} {x k v : Int32} (hq' : hQ s f o g 1 W0) (e1 : W1.1 = hs_up W0.1 367 41 x) (f1 : W1.2 = W0.2) (hx : x.toInt = (W0.1 367 41).toInt - 1) (ea : W2.2.1 = hs_up (hs_up W1.2.1 390 (W1.1 367 37).toNatClampNeg k) 391 (W1.1 367 37).toNatClampNeg v) (e37 : (W2.1 367 37).toInt = (W1.1 367 37).toInt + 1) (f41 : W2.1 367 41 = W1.1 367 41) (f11 : W2.1 367 11 = W1.1 367 11) (hk : 2 ≤ k.toInt ∧ k.toInt ≤ 5) (hw : 0 < (W0.1 367 41).toInt) (hn : hN (W0.2.1 392) ((W0.1 367 41).toInt - 1).toNat o g') : hQ s f o g' 1 W2 ∧ hK (W0.1 367 37).toInt.toNat W0 W2 ∧ W2.2.1 392 = W0.2.1 392 ∧ (W2.1 367 37).toInt = (W0.1 367 37).toInt + 1 ∧ (W2.1 367 41).toInt = (W0.1 367 41).toInt - 1 := by
  have a37 : W1.1 367 37 = W0.1 367 37 := by rw [e1, hup2 (by omega)]
  have a11 : W1.1 367 11 = W0.1 367 11 := by rw [e1, hup2 (by omega)]
  have a41 : W1.1 367 41 = x := by rw [e1, hup1]
  have hc0 := hq'.2.2.1
  rw [f1, a37] at ea
  rw [a37] at e37
  have b41 : (W2.1 367 41).toInt = (W0.1 367 41).toInt - 1 := by rw [f41, a41]; exact hx
  have hem := hK.em (n := (W0.1 367 37).toInt.toNat) (c := W0.1 367 37) ea (by omega) (by omega)
  exact ⟨hq'.op rfl ea e37 b41 (by rw [f11, a11]) hk hw hn, hem.1, hem.2, e37, b41⟩
