/-! AN HOUR: what of the row it leaves alone -/
def hRk (A A' : hs_A) : Prop := ∀ k : Nat, (k < 30 ∨ 50 ≤ k ∧ k < 60 ∨ k = 70) → A'.2.1 396 k = A.2.1 396 k
theorem hRk.st {A Ac A' : hs_A} {c j : Nat} {v : Int32} (h : hRk A Ac) (f : A'.2.1 = hs_up Ac.2.1 c j v) (hc : ¬ c = 396) : hRk A A' := fun k hk => by
  rw [f, hup2 (fun w => hc w.1.symm)]
  exact h k hk
theorem hRk.s6 {A Ac A' : hs_A} {z v : Int32} (h : hRk A Ac) (f : A'.2.1 = hs_up Ac.2.1 396 z.toNatClampNeg v) (h0 : 0 ≤ z.toInt) (hj : 30 ≤ z.toInt ∧ z.toInt < 50 ∨ 60 ≤ z.toInt ∧ ¬ z.toInt = 70) : hRk A A' := fun k hk => by
  have c := hn_cn (j := z) h0
  rw [f, hup2 (fun w => by omega)]
  exact h k hk
theorem hRk.pu {A Ac A' : hs_A} (h : hRk A Ac) (f : A'.2 = Ac.2) : hRk A A' := fun k hk => by
  rw [f]
  exact h k hk
theorem hRk.w {W : Nat} {A Ac A' : hs_A} (h : hRk A Ac) (w : uf_W W Ac A') (b : Nat.testBit W (ug_g 396) = false) : hRk A A' := fun k hk => (w.2.1 396 _ _ k rfl (by omega) b).trans (h k hk)
theorem uf_j180 {d : Nat} {A : hs_A} {P : Option Value → hs_A → Prop} {a1 : Int32} (hH : uf_H A) (w : hxC d 180 hm_m180 [.ref 368, .int a1] A P) : hxC d 180 hm_m180 [.ref 368, .int a1] A (fun r A' => P r A' ∧ uf_W ug_x206.2.2.2.1 A A' ∧ uf_H A') := uf_X (X := ug_x206) (j := 206) rfl rfl (ug_L.cons uf_r1 (uf_int uf_nil)) hH w
theorem uf_j181 {d : Nat} {A : hs_A} {P : Option Value → hs_A → Prop} {a1 a2 a3 : Int32} (hH : uf_H A) (w : hxC d 181 hm_m181 [.ref 368, .int a1, .int a2, .int a3] A P) : hxC d 181 hm_m181 [.ref 368, .int a1, .int a2, .int a3] A (fun r A' => P r A' ∧ uf_W ug_x200.2.2.2.1 A A' ∧ uf_H A') := uf_X (X := ug_x200) (j := 200) rfl rfl (ug_L.cons uf_r1 (uf_int (uf_int (uf_int uf_nil)))) hH w
theorem uf_j184 {d : Nat} {A : hs_A} {P : Option Value → hs_A → Prop} (hH : uf_H A) (w : hxC d 184 hm_m184 [.ref 368] A P) : hxC d 184 hm_m184 [.ref 368] A (fun r A' => P r A' ∧ uf_W ug_x202.2.2.2.1 A A' ∧ uf_H A') := uf_X (X := ug_x202) (j := 202) rfl rfl (ug_L.cons uf_r1 uf_nil) hH w
theorem uf_j185 {d : Nat} {A : hs_A} {P : Option Value → hs_A → Prop} {a1 : Int32} (hH : uf_H A) (w : hxC d 185 hm_m185 [.ref 368, .int a1] A P) : hxC d 185 hm_m185 [.ref 368, .int a1] A (fun r A' => P r A' ∧ uf_W ug_x159.2.2.2.1 A A' ∧ uf_H A') := uf_X (X := ug_x159) (j := 159) rfl rfl (ug_L.cons uf_r1 (uf_int uf_nil)) hH w
def hRq (A A' : hs_A) : Prop := (∀ k : Nat, (k < 30 ∨ 50 ≤ k ∧ k < 60) → A'.2.1 396 k = A.2.1 396 k) ∧ (A'.2.1 396 70).toInt = (A.2.1 396 70).toInt + 1
theorem hRq_mk {A Ac A18 A19 : hs_A} {z15 z17 v : Int32} (h : hRk A Ac) (e15 : Ac.2.1 396 (Int32.ofNat 70).toNatClampNeg = z15) (e17 : z17.toInt = z15.toInt + 1) (f18 : A18.2.1 = hs_up Ac.2.1 396 (Int32.ofNat 70).toNatClampNeg z17) (f19 : A19.2.1 = hs_up A18.2.1 396 (Int32.ofNat 71).toNatClampNeg v) : hRq A A19 := by
  rw [show (Int32.ofNat 70).toNatClampNeg = 70 from rfl] at e15 f18
  rw [show (Int32.ofNat 71).toNatClampNeg = 71 from rfl] at f19
  refine ⟨fun k hk => ?_, ?_⟩
  · rw [f19, hup2 (fun w => by omega), f18, hup2 (fun w => by omega)]
    exact h k (by omega)
  · rw [f19, hup2 (by omega), f18, hup1, ← h 70 (by omega), e15]
    exact e17
theorem hY184g {d : Nat} {Bn Br : Int} {A0 A : hs_A} (hA : hJ 0 Bn Br A0 A) (hBr : Br ≤ 1000000)  (uH : uf_H A) {P : Option Value → hs_A → Prop} (hP : ∀ (r : Option Value) (A' : hs_A), (hJ 0 Bn (Br + 1) A0 A' ∧ r = none ∧ (hRq A A')) → P r A') : hxa (d + 4) none hm_t184 0 [.ref 368, .retAddr 0] [] A P := by
  have kk72 := hk_72
  have kk70 := hk_70
  have kk71 := hk_71
  have rA : hRk A A := fun _ _ => rfl
  have uA : uf_H A := uH
  have k0 := hk_0
  have L127 : ∀ (m127 : Nat) (x127_1 : Int32) (Ac127 : hs_A) (hAc127 : hJ 0 Bn Br A0 Ac127) (bx127_1 : 0 ≤ x127_1.toInt) (cx127_1 : x127_1.toInt ≤ 10) (hm127 : 10 - x127_1.toInt < (m127 : Int)) (iv127 : hRk A Ac127 ∧ uf_H Ac127), hxa (d + 4) none hm_t184 127 [.ref 368, .int x127_1] [] Ac127 P := by
    intro m127
    induction m127 with
    | zero => intro x127_1 Ac127 hAc127 bx127_1 cx127_1 hm127 iv127;  exact False.elim (by omega)
    | succ m127 ih127 =>
      intro x127_1 Ac127 hAc127 bx127_1 cx127_1 hm127 iv127
      have rAc127 := iv127.1
      have uAc127 := iv127.2
      have L205 : ∀ (Ac205 : hs_A) (hAc205 : hJ 0 Bn Br A0 Ac205) (cx127_1 : x127_1.toInt ≤ 9) (iv205 : hRk A Ac205 ∧ uf_H Ac205), hxa (d + 4) none hm_t184 205 [.ref 368, .int x127_1] [] Ac205 P := by
        intro Ac205 hAc205 cx127_1 iv205
        have rAc205 := iv205.1
        have uAc205 := iv205.2
        refine hxa_aload_n (by rfl) rfl ?_
        refine hxa_get (v := .ref 399) (by rfl) (by rfl) (by rfl) rfl ?_
        refine hxa_iload_n (by rfl) rfl ?_
        refine hxj_zald (by rfl) (by rfl) rfl (by omega) (by omega) (fun z1 ez1 => ?_)
        refine hxj_zne (by rfl) rfl (fun q2 => ?_) (fun q2 => ?_)
        ·
          refine hxa_aload_n (by rfl) rfl ?_
          refine hxa_get (v := .ref 397) (by rfl) (by rfl) (by rfl) rfl ?_
          refine hxa_bipush (by rfl) rfl ?_
          refine hxa_iload_n (by rfl) rfl ?_
          refine hxj_iadd (by rfl) hk_60 rfl (by omega) (by omega) (fun z3 ez3 => ?_)
          refine hxa_aload_n (by rfl) rfl ?_
          refine hxa_get (v := .ref 382) (by rfl) (by rfl) (by rfl) rfl ?_
          refine hxa_aload_n (by rfl) rfl ?_
          refine hxj_getB (by rfl) (by rfl) (by rfl) hAc205 (by rfl) (fun z4 ez4 fz4 gz4 => ?_)
          refine hxj_iald (by rfl) (by rfl) rfl (by omega) (by omega) (fun z5 ez5 => ?_)
          refine hxj_iast396 (by rfl) rfl (by omega) (by omega) rfl hAc205 (by omega) (fun A6 hA6 eA6 fA6 gA6 => ?_)
          have rA6 : hRk A A6 := rAc205.s6 fA6 (by omega) (by omega)
          have uA6 : uf_H A6 := uAc205.e (congrArg (fun q => q.2) gA6)
          refine hxa_aload_n (by rfl) rfl ?_
          refine hxa_get (v := .ref 397) (by rfl) (by rfl) (by rfl) rfl ?_
          refine hxa_bipush (by rfl) rfl ?_
          refine hxa_dup2IR (by rfl) ?_
          refine hxj_iald396 (by rfl) hk_72 (by omega) (by omega) hA6 (fun z7 ez7 fz7 => ?_)
          refine hxa_iconst (by rfl) rfl ?_
          refine hxj_iaddU (by rfl) (fun z8 => ?_)
          refine hxj_iast396 (by rfl) hk_72 (by omega) (by omega) rfl hA6 (by omega) (fun A9 hA9 eA9 fA9 gA9 => ?_)
          have rA9 : hRk A A9 := rA6.s6 fA9 (by omega) (by omega)
          have uA9 : uf_H A9 := uA6.e (congrArg (fun q => q.2) gA9)
          refine hxj_iinc (by rfl) rfl rfl hk_1 (by omega) (by omega) (fun _ => rfl) (fun z10 ez10 => ?_)
          refine hxa_goto (by rfl) ?_
          exact ih127 z10 A9 hA9 (by omega) (by omega) (by omega) ⟨rA9, uA9⟩
        ·
          refine hxa_goto (by rfl) ?_
          refine hxj_iinc (by rfl) rfl rfl hk_1 (by omega) (by omega) (fun _ => rfl) (fun z11 ez11 => ?_)
          refine hxa_goto (by rfl) ?_
          exact ih127 z11 Ac205 hAc205 (by omega) (by omega) (by omega) ⟨rAc205, uAc205⟩
      refine hxa_iload_n (by rfl) rfl ?_
      refine hxa_aload_n (by rfl) rfl ?_
      refine hxa_get (v := .ref 377) (by rfl) (by rfl) (by rfl) rfl ?_
      refine hxa_aload_n (by rfl) rfl ?_
      refine hxj_getB (by rfl) (by rfl) (by rfl) hAc127 (by rfl) (fun z12 ez12 fz12 gz12 => ?_)
      refine hxj_ialdB (by rfl) (by rfl) rfl (by omega) (by omega) hAc127 (by rfl) (fun z13 ez13 fz13 gz13 => ?_)
      refine hxj_cge (by rfl) rfl rfl (fun q14 => ?_) (fun q14 => ?_)
      ·
        refine hxa_aload_n (by rfl) rfl ?_
        refine hxa_get (v := .ref 397) (by rfl) (by rfl) (by rfl) rfl ?_
        refine hxa_bipush (by rfl) rfl ?_
        refine hxa_dup2IR (by rfl) ?_
        refine hxj_iald396 (by rfl) hk_70 (by omega) (by omega) hAc127 (fun z15 ez15 fz15 => ?_)
        have H16 : hJ 0 Bn (Br + 1) A0 Ac127 := hJ.mono hAc127 (by omega) (by omega)
        refine hxa_iconst (by rfl) rfl ?_
        refine hxj_iadd (by rfl) rfl hk_1 (by omega) (by omega) (fun z17 ez17 => ?_)
        refine hxj_iast396 (by rfl) hk_70 (by omega) (by omega) rfl H16 (by omega) (fun A18 hA18 eA18 fA18 gA18 => ?_)
        refine hxa_aload_n (by rfl) rfl ?_
        refine hxa_get (v := .ref 397) (by rfl) (by rfl) (by rfl) rfl ?_
        refine hxa_bipush (by rfl) rfl ?_
        refine hxa_iconst (by rfl) rfl ?_
        refine hxj_iast396 (by rfl) hk_71 (by omega) (by omega) hk_4294967295 hA18 (by omega) (fun A19 hA19 eA19 fA19 gA19 => ?_)
        exact hxa_return (by rfl) rfl (hP _ _ ⟨hA19, rfl, hRq_mk rAc127 ez15 ez17 fA18 fA19⟩)
      ·
        refine hxa_aload_n (by rfl) rfl ?_
        refine hxa_get (v := .ref 397) (by rfl) (by rfl) (by rfl) rfl ?_
        refine hxa_bipush (by rfl) rfl ?_
        refine hxa_iload_n (by rfl) rfl ?_
        refine hxj_iadd (by rfl) hk_30 rfl (by omega) (by omega) (fun z20 ez20 => ?_)
        refine hxa_aload_n (by rfl) rfl ?_
        refine hxa_get (v := .ref 398) (by rfl) (by rfl) (by rfl) rfl ?_
        refine hxa_iload_n (by rfl) rfl ?_
        refine hxj_iald (by rfl) (by rfl) rfl (by omega) (by omega) (fun z21 ez21 => ?_)
        refine hxj_iast396 (by rfl) rfl (by omega) (by omega) rfl hAc127 (by omega) (fun A22 hA22 eA22 fA22 gA22 => ?_)
        have rA22 : hRk A A22 := rAc127.s6 fA22 (by omega) (by omega)
        have uA22 : uf_H A22 := uAc127.e (congrArg (fun q => q.2) gA22)
        refine hxa_aload_n (by rfl) rfl ?_
        refine hxa_get (v := .ref 397) (by rfl) (by rfl) (by rfl) rfl ?_
        refine hxa_bipush (by rfl) rfl ?_
        refine hxa_iload_n (by rfl) rfl ?_
        refine hxj_iadd (by rfl) hk_40 rfl (by omega) (by omega) (fun z23 ez23 => ?_)
        refine hxa_dup2IR (by rfl) ?_
        refine hxj_iald396 (by rfl) rfl (by omega) (by omega) hA22 (fun z24 ez24 fz24 => ?_)
        refine hxa_aload_n (by rfl) rfl ?_
        refine hxa_get (v := .ref 398) (by rfl) (by rfl) (by rfl) rfl ?_
        refine hxa_iload_n (by rfl) rfl ?_
        refine hxj_iald (by rfl) (by rfl) rfl (by omega) (by omega) (fun z25 ez25 => ?_)
        refine hxa_aload_n (by rfl) rfl ?_
        refine hxa_get (v := .ref 397) (by rfl) (by rfl) (by rfl) rfl ?_
        refine hxa_iload_n (by rfl) rfl ?_
        refine hxj_iald396 (by rfl) rfl (by omega) (by omega) hA22 (fun z26 ez26 fz26 => ?_)
        refine hxj_iandU (by rfl) (fun z27 => ?_)
        refine hxj_iorU (by rfl) (fun z28 => ?_)
        refine hxj_iast396 (by rfl) rfl (by omega) (by omega) rfl hA22 (by omega) (fun A29 hA29 eA29 fA29 gA29 => ?_)
        have rA29 : hRk A A29 := rA22.s6 fA29 (by omega) (by omega)
        have uA29 : uf_H A29 := uA22.e (congrArg (fun q => q.2) gA29)
        refine hxa_aload_n (by rfl) rfl ?_
        refine hxa_get (v := .ref 397) (by rfl) (by rfl) (by rfl) rfl ?_
        refine hxa_bipush (by rfl) rfl ?_
        refine hxa_iload_n (by rfl) rfl ?_
        refine hxj_iadd (by rfl) hk_60 rfl (by omega) (by omega) (fun z30 ez30 => ?_)
        refine hxj_iald396 (by rfl) rfl (by omega) (by omega) hA29 (fun z31 ez31 fz31 => ?_)
        refine hxj_zle (by rfl) rfl (fun q32 => ?_) (fun q32 => ?_)
        ·
          exact L205 A29 hA29 (by omega) ⟨rA29, uA29⟩
        ·
          refine hxa_aload_n (by rfl) rfl ?_
          refine hxa_get (v := .ref 397) (by rfl) (by rfl) (by rfl) rfl ?_
          refine hxa_bipush (by rfl) rfl ?_
          refine hxa_iload_n (by rfl) rfl ?_
          refine hxj_iadd (by rfl) hk_60 rfl (by omega) (by omega) (fun z33 ez33 => ?_)
          refine hxa_dup2IR (by rfl) ?_
          refine hxj_iald396 (by rfl) rfl (by omega) (by omega) hA29 (fun z34 ez34 fz34 => ?_)
          refine hxa_iconst (by rfl) rfl ?_
          refine hxj_isubU (by rfl) (fun z35 => ?_)
          refine hxj_iast396 (by rfl) rfl (by omega) (by omega) rfl hA29 (by omega) (fun A36 hA36 eA36 fA36 gA36 => ?_)
          have rA36 : hRk A A36 := rA29.s6 fA36 (by omega) (by omega)
          have uA36 : uf_H A36 := uA29.e (congrArg (fun q => q.2) gA36)
          exact L205 A36 hA36 (by omega) ⟨rA36, uA36⟩
  have L2 : ∀ (m2 : Nat) (x2_1 : Int32) (Ac2 : hs_A) (hAc2 : hJ 0 Bn Br A0 Ac2) (bx2_1 : 0 ≤ x2_1.toInt) (cx2_1 : x2_1.toInt ≤ 10) (hm2 : 10 - x2_1.toInt < (m2 : Int)) (iv2 : hRk A Ac2 ∧ uf_H Ac2), hxa (d + 4) none hm_t184 2 [.ref 368, .int x2_1] [] Ac2 P := by
    intro m2
    induction m2 with
    | zero => intro x2_1 Ac2 hAc2 bx2_1 cx2_1 hm2 iv2;  exact False.elim (by omega)
    | succ m2 ih2 =>
      intro x2_1 Ac2 hAc2 bx2_1 cx2_1 hm2 iv2
      have rAc2 := iv2.1
      have uAc2 := iv2.2
      have L64 : ∀ (y64_1 : Int32) (y64_2 : Int32) (Ac64 : hs_A) (hAc64 : hJ 0 Bn Br A0 Ac64) (by64_1 : 0 ≤ y64_1.toInt) (cy64_1 : y64_1.toInt ≤ 9) (cx2_1 : x2_1.toInt ≤ 9) (iv64 : hRk A Ac64 ∧ uf_H Ac64), hxa (d + 4) none hm_t184 64 [.ref 368, .int x2_1] [.int y64_2, .int y64_1, .ref 398] Ac64 P := by
        intro y64_1 y64_2 Ac64 hAc64 by64_1 cy64_1 cx2_1 iv64
        have rAc64 := iv64.1
        have uAc64 := iv64.2
        refine hxj_iast (by rfl) (by rfl) rfl (by omega) (by omega) hAc64 (hbokN (by rfl)) (by rfl) (by rfl) (fun A37 hA37 eA37 fA37 gA37 => ?_)
        have rA37 : hRk A A37 := rAc64.st fA37 (by omega)
        have uA37 : uf_H A37 := uAc64.e (congrArg (fun q => q.2) gA37)
        refine hxa_aload_n (by rfl) rfl ?_
        refine hxa_get (v := .ref 399) (by rfl) (by rfl) (by rfl) rfl ?_
        refine hxa_iload_n (by rfl) rfl ?_
        refine hxa_aload_n (by rfl) rfl ?_
        refine hxj_getI (by rfl) (by rfl) (by rfl) (fun z38 ez38 => ?_)
        refine hxj_zne (by rfl) rfl (fun q39 => ?_) (fun q39 => ?_)
        ·
          refine hxa_iconst (by rfl) rfl ?_
          refine hxj_zast (by rfl) (by rfl) rfl (by omega) (by omega) hk_0 (by omega) (by omega) hA37 (hbokN (by rfl)) (by rfl) (by rfl) (fun A40 hA40 eA40 fA40 gA40 => ?_)
          have rA40 : hRk A A40 := rA37.st fA40 (by omega)
          have uA40 : uf_H A40 := uA37.e (congrArg (fun q => q.2) gA40)
          refine hxj_iinc (by rfl) rfl rfl hk_1 (by omega) (by omega) (fun _ => rfl) (fun z41 ez41 => ?_)
          refine hxa_goto (by rfl) ?_
          exact ih2 z41 A40 hA40 (by omega) (by omega) (by omega) ⟨rA40, uA40⟩
        ·
          refine hxa_aload_n (by rfl) rfl ?_
          refine hxa_get (v := .ref 397) (by rfl) (by rfl) (by rfl) rfl ?_
          refine hxa_bipush (by rfl) rfl ?_
          refine hxa_iload_n (by rfl) rfl ?_
          refine hxj_iadd (by rfl) hk_60 rfl (by omega) (by omega) (fun z42 ez42 => ?_)
          refine hxj_iald396 (by rfl) rfl (by omega) (by omega) hA37 (fun z43 ez43 fz43 => ?_)
          refine hxj_zne (by rfl) rfl (fun q44 => ?_) (fun q44 => ?_)
          ·
            refine hxa_iconst (by rfl) rfl ?_
            refine hxj_zast (by rfl) (by rfl) rfl (by omega) (by omega) hk_0 (by omega) (by omega) hA37 (hbokN (by rfl)) (by rfl) (by rfl) (fun A45 hA45 eA45 fA45 gA45 => ?_)
            have rA45 : hRk A A45 := rA37.st fA45 (by omega)
            have uA45 : uf_H A45 := uA37.e (congrArg (fun q => q.2) gA45)
            refine hxj_iinc (by rfl) rfl rfl hk_1 (by omega) (by omega) (fun _ => rfl) (fun z46 ez46 => ?_)
            refine hxa_goto (by rfl) ?_
            exact ih2 z46 A45 hA45 (by omega) (by omega) (by omega) ⟨rA45, uA45⟩
          ·
            refine hxa_aload_n (by rfl) rfl ?_
            refine hxa_bipush (by rfl) rfl ?_
            refine hxa_aload_n (by rfl) rfl ?_
            refine hxa_get (v := .ref 397) (by rfl) (by rfl) (by rfl) rfl ?_
            refine hxa_bipush (by rfl) rfl ?_
            refine hxj_iald396 (by rfl) hk_70 (by omega) (by omega) hA37 (fun z47 ez47 fz47 => ?_)
            refine hxj_imulU (by rfl) (fun z48 => ?_)
            refine hxa_iload_n (by rfl) rfl ?_
            refine hxj_iaddU (by rfl) (fun z49 => ?_)
            refine hxa_call0 (by rfl) (by rfl) (by rfl) (by rfl) (by rfl) (by rfl) (hX174 (d := d + 2) hA37 z49) ?_
            rintro _ _ ⟨rfl, z50, rfl⟩
            refine hxa_aload_n (by rfl) rfl ?_
            refine hxa_iload_n (by rfl) rfl ?_
            refine hxa_call0 (by rfl) (by rfl) (by rfl) (by rfl) (by rfl) (by rfl) (uf_j180 uA37 (hX180 (d := d + 1) hA37 x2_1 (by omega) (by omega))) ?_
            rintro _ A51 ⟨⟨hA51, z52, rfl⟩, wA51, HA51⟩
            have rA51 : hRk A A51 := rA37.w wA51 (by decide +kernel)
            have uA51 : uf_H A51 := HA51
            have rgz50 := hn_rng z50
            have rgz52 := hn_rng z52
            refine hxj_cge (by rfl) rfl rfl (fun q53 => ?_) (fun q53 => ?_)
            ·
              refine hxa_iconst (by rfl) rfl ?_
              refine hxj_zast (by rfl) (by rfl) rfl (by omega) (by omega) hk_0 (by omega) (by omega) hA51 (hbokN (by rfl)) (by rfl) (by rfl) (fun A54 hA54 eA54 fA54 gA54 => ?_)
              have rA54 : hRk A A54 := rA51.st fA54 (by omega)
              have uA54 : uf_H A54 := uA51.e (congrArg (fun q => q.2) gA54)
              refine hxj_iinc (by rfl) rfl rfl hk_1 (by omega) (by omega) (fun _ => rfl) (fun z55 ez55 => ?_)
              refine hxa_goto (by rfl) ?_
              exact ih2 z55 A54 hA54 (by omega) (by omega) (by omega) ⟨rA54, uA54⟩
            ·
              refine hxa_iconst (by rfl) rfl ?_
              refine hxa_goto (by rfl) ?_
              refine hxj_zast (by rfl) (by rfl) rfl (by omega) (by omega) hk_1 (by omega) (by omega) hA51 (hbokN (by rfl)) (by rfl) (by rfl) (fun A56 hA56 eA56 fA56 gA56 => ?_)
              have rA56 : hRk A A56 := rA51.st fA56 (by omega)
              have uA56 : uf_H A56 := uA51.e (congrArg (fun q => q.2) gA56)
              refine hxj_iinc (by rfl) rfl rfl hk_1 (by omega) (by omega) (fun _ => rfl) (fun z57 ez57 => ?_)
              refine hxa_goto (by rfl) ?_
              exact ih2 z57 A56 hA56 (by omega) (by omega) (by omega) ⟨rA56, uA56⟩
      refine hxa_iload_n (by rfl) rfl ?_
      refine hxa_aload_n (by rfl) rfl ?_
      refine hxa_get (v := .ref 377) (by rfl) (by rfl) (by rfl) rfl ?_
      refine hxa_aload_n (by rfl) rfl ?_
      refine hxj_getB (by rfl) (by rfl) (by rfl) hAc2 (by rfl) (fun z58 ez58 fz58 gz58 => ?_)
      refine hxj_ialdB (by rfl) (by rfl) rfl (by omega) (by omega) hAc2 (by rfl) (fun z59 ez59 fz59 gz59 => ?_)
      refine hxj_cge (by rfl) rfl rfl (fun q60 => ?_) (fun q60 => ?_)
      ·
        refine hxa_iconst (by rfl) rfl ?_
        refine hxa_s1 (by rfl) (Or.inl ⟨_, rfl, rfl⟩) rfl ?_
        exact L127 (Int.toNat (10 - 0) + 1) (Int32.ofNat 0) Ac2 hAc2 (by omega) (by omega) (by omega) ⟨rAc2, uAc2⟩
      ·
        refine hxa_aload_n (by rfl) rfl ?_
        refine hxa_get (v := .ref 398) (by rfl) (by rfl) (by rfl) rfl ?_
        refine hxa_iload_n (by rfl) rfl ?_
        refine hxa_aload_n (by rfl) rfl ?_
        refine hxa_iload_n (by rfl) rfl ?_
        refine hxa_call0 (by rfl) (by rfl) (by rfl) (by rfl) (by rfl) (by rfl) (hX182 (d := d + 3) hAc2 x2_1 (by omega) (by omega)) ?_
        rintro _ _ ⟨rfl, z61, rfl, fz61⟩
        refine hxj_zne (by rfl) rfl (fun q62 => ?_) (fun q62 => ?_)
        ·
          refine hxa_iload_n (by rfl) rfl ?_
          refine hxj_zne (by rfl) rfl (fun q63 => ?_) (fun q63 => ?_)
          ·
            refine hxa_aload_n (by rfl) rfl ?_
            refine hxa_iload_n (by rfl) rfl ?_
            refine hxa_aload_n (by rfl) rfl ?_
            refine hxa_get (v := .ref 397) (by rfl) (by rfl) (by rfl) rfl ?_
            refine hxa_bipush (by rfl) rfl ?_
            refine hxa_iload_n (by rfl) rfl ?_
            refine hxj_iadd (by rfl) hk_29 rfl (by omega) (by omega) (fun z64 ez64 => ?_)
            refine hxj_iald396 (by rfl) rfl (by omega) (by omega) hAc2 (fun z65 ez65 fz65 => ?_)
            refine hxa_aload_n (by rfl) rfl ?_
            refine hxa_get (v := .ref 397) (by rfl) (by rfl) (by rfl) rfl ?_
            refine hxa_bipush (by rfl) rfl ?_
            refine hxj_iald396 (by rfl) hk_70 (by omega) (by omega) hAc2 (fun z66 ez66 fz66 => ?_)
            refine hxa_call0 (by rfl) (by rfl) (by rfl) (by rfl) (by rfl) (by rfl) (uf_j181 uAc2 (hX181 (d := d + 0) hAc2 x2_1 (by omega) (by omega) z65 z66)) ?_
            rintro _ A67 ⟨⟨hA67, z68, rfl, fz68⟩, wA67, HA67⟩
            have rA67 : hRk A A67 := rAc2.w wA67 (by decide +kernel)
            have uA67 : uf_H A67 := HA67
            exact L64 x2_1 z68 A67 hA67 (by omega) (by omega) (by omega) ⟨rA67, uA67⟩
          ·
            refine hxa_aload_n (by rfl) rfl ?_
            refine hxa_call0 (by rfl) (by rfl) (by rfl) (by rfl) (by rfl) (by rfl) (hX183 (d := d + 3) hAc2 ) ?_
            rintro _ _ ⟨rfl, z69, rfl⟩
            refine hxa_goto (by rfl) ?_
            exact L64 x2_1 z69 Ac2 hAc2 (by omega) (by omega) (by omega) ⟨rAc2, uAc2⟩
        ·
          refine hxa_iconst (by rfl) rfl ?_
          refine hxa_goto (by rfl) ?_
          exact L64 x2_1 (Int32.ofNat 0) Ac2 hAc2 (by omega) (by omega) (by omega) ⟨rAc2, uAc2⟩
  refine hxa_iconst (by rfl) rfl ?_
  refine hxa_s1 (by rfl) (Or.inl ⟨_, rfl, rfl⟩) rfl ?_
  exact L2 (Int.toNat (10 - 0) + 1) (Int32.ofNat 0) A hA (by omega) (by omega) (by omega) ⟨rA, uA⟩
theorem hX184g {d : Nat} {Bn Br : Int} {A0 A : hs_A} (hA : hJ 0 Bn Br A0 A) (hBr : Br ≤ 1000000)  (uH : uf_H A) : hxC (d + 5) 184 hm_m184 [.ref 368] A (fun r A' => hJ 0 Bn (Br + 1) A0 A' ∧ r = none ∧ (hRq A A')) := hxC.of (by rfl) (hY184g hA hBr uH (fun r A' h => h))
def hRn (n : Int) (A A' : hs_A) : Prop := (∀ k : Nat, (k < 30 ∨ 50 ≤ k ∧ k < 60) → A'.2.1 396 k = A.2.1 396 k) ∧ (A'.2.1 396 70).toInt = (A.2.1 396 70).toInt + n
theorem hRn.s {n : Int} {A Ac A' : hs_A} (h : hRn n A Ac) (q : hRq Ac A') : hRn (n + 1) A A' := ⟨fun k hk => (q.1 k hk).trans (h.1 k hk), by rw [q.2, h.2]; omega⟩
theorem hY185g {d : Nat} {Bn Br : Int} {A0 A : hs_A} (hA : hJ 0 Bn Br A0 A) (hBr : Br ≤ 990000) (a1 : Int32) (p1 : 0 ≤ a1.toInt) (q1 : a1.toInt ≤ 72) (uH : uf_H A) {P : Option Value → hs_A → Prop} (hP : ∀ (r : Option Value) (A' : hs_A), (hJ 0 Bn (Br + 72) A0 A' ∧ r = none ∧ (hRn a1.toInt A A')) → P r A') : hxa (d + 5) none hm_t185 0 [.ref 368, .int a1, .retAddr 0] [] A P := by
  have k0 := hk_0
  have L2 : ∀ (m2 : Nat) (x2_2 : Int32) (Ac2 : hs_A) (hAc2 : hJ 0 Bn (Br + x2_2.toInt) A0 Ac2) (bx2_2 : 0 ≤ x2_2.toInt) (cx2_2 : x2_2.toInt ≤ 72) (dx2_2 : x2_2.toInt ≤ a1.toInt) (hm2 : 72 - x2_2.toInt < (m2 : Int)) (iv2 : hRn x2_2.toInt A Ac2 ∧ uf_H Ac2), hxa (d + 5) none hm_t185 2 [.ref 368, .int a1, .int x2_2] [] Ac2 P := by
    intro m2
    induction m2 with
    | zero => intro x2_2 Ac2 hAc2 bx2_2 cx2_2 dx2_2 hm2 iv2;  exact False.elim (by omega)
    | succ m2 ih2 =>
      intro x2_2 Ac2 hAc2 bx2_2 cx2_2 dx2_2 hm2 iv2
      refine hxa_iload_n (by rfl) rfl ?_
      refine hxa_iload_n (by rfl) rfl ?_
      refine hxj_cge (by rfl) rfl rfl (fun q1 => ?_) (fun q1 => ?_)
      ·
        exact hxa_return (by rfl) rfl (hP _ _ ⟨(hJ.mono hAc2 (by omega) (by omega)), rfl, by have e : x2_2.toInt = a1.toInt := (by omega); rw [← e]; exact iv2.1⟩)
      ·
        refine hxa_aload_n (by rfl) rfl ?_
        refine hxa_call0 (by rfl) (by rfl) (by rfl) (by rfl) (by rfl) (by rfl) (uf_j184 iv2.2 (hX184g (d := d + 0) hAc2 (by omega) iv2.2)) ?_
        rintro _ A2 ⟨⟨hA2, rfl, c2⟩, w2, H2⟩
        refine hxj_iinc (by rfl) rfl rfl hk_1 (by omega) (by omega) (fun _ => rfl) (fun z3 ez3 => ?_)
        refine hxa_goto (by rfl) ?_
        exact ih2 z3 A2 (hJ.mono hA2 (by omega) (by omega)) (by omega) (by omega) (by omega) (by omega) (⟨by rw [ez3]; exact iv2.1.s c2, H2⟩)
  refine hxa_iconst (by rfl) rfl ?_
  refine hxa_s1 (by rfl) (Or.inl ⟨_, rfl, rfl⟩) rfl ?_
  exact L2 (Int.toNat (72 - 0) + 1) (Int32.ofNat 0) A (hJ.mono hA (by omega) (by omega)) (by omega) (by omega) (by omega) (by omega) (⟨⟨fun _ _ => rfl, by rw [hk_0]; omega⟩, uH⟩)
theorem hX185g {d : Nat} {Bn Br : Int} {A0 A : hs_A} (hA : hJ 0 Bn Br A0 A) (hBr : Br ≤ 990000) (a1 : Int32) (p1 : 0 ≤ a1.toInt) (q1 : a1.toInt ≤ 72) (uH : uf_H A) : hxC (d + 6) 185 hm_m185 [.ref 368, .int a1] A (fun r A' => hJ 0 Bn (Br + 72) A0 A' ∧ r = none ∧ (hRn a1.toInt A A')) := hxC.of (by rfl) (hY185g hA hBr a1 p1 q1 uH (fun r A' h => h))
