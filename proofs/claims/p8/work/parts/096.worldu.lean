section HXB
variable {d : Nat} {ret : Option FieldType} {tb : hc_K} {pc len r1 r2 : Nat} {l st : List Value} {A : hs_A} {P : Option Value → hs_A → Prop}
theorem hc_objS (ci : Nat) (fs : List Value) : hc_obj ci (some (.inr (ci, fs))) = some fs := by
  unfold hc_obj
  dsimp only
  rw [Nat.beq_refl]
theorem hc_arrS (t : Nat) (a : List Value) : hc_arr t (some (.inl (t, a))) = some a := by
  unfold hc_arr
  dsimp only
  rw [Nat.beq_refl]
theorem hxa_get {z i c : Nat} {ks : List Nat} {v : Value} (hI : hc_get tb pc = some (.getfield z, len, r1, r2)) (hs : hc_get hs_sh i = some (3, r1, ks)) (hk : hc_nth ks r2 = some c) (hv : hs_val A i r2 c = v) (k : hxa d ret tb (pc + 3) l (v :: st) A P) : hxa d ret tb pc l (.ref (i + 1) :: st) A P := fun h hR => hx_step 0 (fun g _ => by
  unfold hc_step1
  simp only [hI]
  show hi_getfield r1 r2 pc l (.ref (i + 1) :: st) hs_n h 0 0 = _
  unfold hi_getfield
  dsimp only
  rw [hR i _ hs, hs_cell3, hc_objS]
  dsimp only
  rw [hs_fs_at hk, hv]
  rfl) (k h hR)
theorem hxa_putI {z i : Nat} {ks : List Nat} {x : Int32} (hI : hc_get tb pc = some (.putfield z, len, r1, r2)) (hs : hc_get hs_sh i = some (3, r1, ks)) (hk : hc_nth ks r2 = some 0) (hf : hc_fit (hc_tyX r1 r2) (.int x) = true) (k : hxa d ret tb (pc + 3) l st (hs_up A.1 i r2 x, A.2) P) : hxa d ret tb pc l (.int x :: .ref (i + 1) :: st) A P := fun h hR => by
  obtain ⟨h', hp, hR'⟩ := hs_putI (x := x) hR hs hk
  refine hx_step 0 (fun g _ => ?_) (k h' hR')
  unfold hc_step1
  simp only [hI]
  show hi_putfield r1 r2 pc l (.int x :: .ref (i + 1) :: st) hs_n h 0 0 = _
  unfold hi_putfield
  dsimp only
  rw [hR i _ hs, hs_cell3, hc_objS]
  dsimp only
  rw [hf]
  dsimp only
  rw [hs_fs_at hk]
  dsimp only
  rw [hp]
  rfl
theorem hs_el {a : List Value} {j : Int32} {v : Value} (h0 : ¬ j < 0) (hv : hc_nth a j.toNatClampNeg = some v) : hc_el a j = some v := by
  unfold hc_el
  rw [decide_eq_false h0]
  exact hv
theorem hs_ald {t i n c s : Nat} {j : Int32} {a : List Value} {v : Value} {h : hc_H} (hg : hc_get h i = some (.inl (t, a))) (hv : hc_el a j = some v) : hc_ald t pc l (.int j :: .ref (i + 1) :: st) n h c s = hc_nx (pc + 1) l (v :: st) n h c s := by
  unfold hc_ald
  dsimp only
  rw [hg, hc_arrS]
  dsimp only
  rw [hv]
theorem hxa_iald {i m : Nat} {j : Int32} (hI : hc_get tb pc = some (.iaload, len, r1, r2)) (hs : hc_get hs_sh i = some (0, 1, [m])) (h0 : ¬ j < 0) (h1 : j.toNatClampNeg < m) (k : hxa d ret tb (pc + 1) l (.int (A.2.1 i j.toNatClampNeg) :: st) A P) : hxa d ret tb pc l (.int j :: .ref (i + 1) :: st) A P := fun h hR => hx_step 0 (fun g _ => by
  unfold hc_step1
  simp only [hI]
  show hi_iaload (0, fun _ => none) pc l (.int j :: .ref (i + 1) :: st) hs_n h 0 0 = _
  unfold hi_iaload
  exact hs_ald ((hR i _ hs).trans (congrArg some (hs_cell0 A i 1 m))) (hs_el h0 (hs_ar_at h1))) (k h hR)
theorem hs_ast {t i n c s : Nat} {j : Int32} {a : List Value} {v w : Value} {h h' : hc_H} (hg : hc_get h i = some (.inl (t, a))) (hv : hc_el a j = some w) (hp : hc_put h i (.inl (t, hc_set a j.toNatClampNeg v)) = some h') : hc_ast t i j v pc l st n h c s = hc_nx (pc + 1) l st n h' c s := by
  unfold hc_ast
  rw [hg, hc_arrS]
  dsimp only
  rw [hv]
  dsimp only
  rw [hp]
theorem hxa_iast {i m : Nat} {j x : Int32} (hI : hc_get tb pc = some (.iastore, len, r1, r2)) (hs : hc_get hs_sh i = some (0, 1, [m])) (h0 : ¬ j < 0) (h1 : j.toNatClampNeg < m) (k : hxa d ret tb (pc + 1) l st (A.1, hs_up A.2.1 i j.toNatClampNeg x, A.2.2) P) : hxa d ret tb pc l (.int x :: .int j :: .ref (i + 1) :: st) A P := fun h hR => by
  obtain ⟨h', hp, hR'⟩ := hs_setI (x := x) hR hs h1
  refine hx_step 0 (fun g _ => ?_) (k h' hR')
  unfold hc_step1
  simp only [hI]
  show hi_iastore pc l (.int x :: .int j :: .ref (i + 1) :: st) hs_n h 0 0 = _
  unfold hi_iastore
  exact hs_ast ((hR i _ hs).trans (congrArg some (hs_cell0 A i 1 m))) (hs_el h0 (hs_ar_at h1)) hp
theorem hxa_if {op : Jvm.ClassFile.Cond} {off : Int} {x : Int32} (hI : hc_get tb pc = some (.ifCond op off, len, r1, r2)) (kt : hc_cmp op x 0 = true → hxa d ret tb r1 l st A P) (kf : hc_cmp op x 0 = false → hxa d ret tb (pc + 3) l st A P) : hxa d ret tb pc l (.int x :: st) A P := fun h hR => by
  by_cases hb : hc_cmp op x 0 = true
  · refine hx_step 0 (fun g _ => ?_) (kt hb h hR)
    unfold hc_step1
    simp only [hI]
    show hi_ifCond (0, fun _ => none) op r1 pc l (.int x :: st) hs_n h 0 0 = _
    unfold hi_ifCond
    dsimp only
    rw [hb]
    rfl
  · have hb' : hc_cmp op x 0 = false := by cases hq : hc_cmp op x 0 <;> simp_all
    refine hx_step 0 (fun g _ => ?_) (kf hb' h hR)
    unfold hc_step1
    simp only [hI]
    show hi_ifCond (0, fun _ => none) op r1 pc l (.int x :: st) hs_n h 0 0 = _
    unfold hi_ifCond
    dsimp only
    rw [hb']
    rfl
theorem hxa_icmp {op : Jvm.ClassFile.Cond} {off : Int} {x y : Int32} (hI : hc_get tb pc = some (.if_icmp op off, len, r1, r2)) (kt : hc_cmp op x y = true → hxa d ret tb r1 l st A P) (kf : hc_cmp op x y = false → hxa d ret tb (pc + 3) l st A P) : hxa d ret tb pc l (.int y :: .int x :: st) A P := fun h hR => by
  by_cases hb : hc_cmp op x y = true
  · refine hx_step 0 (fun g _ => ?_) (kt hb h hR)
    unfold hc_step1
    simp only [hI]
    show hi_if_icmp op r1 pc l (.int y :: .int x :: st) hs_n h 0 0 = _
    unfold hi_if_icmp
    dsimp only
    rw [hb]
    rfl
  · have hb' : hc_cmp op x y = false := by cases hq : hc_cmp op x y <;> simp_all
    refine hx_step 0 (fun g _ => ?_) (kf hb' h hR)
    unfold hc_step1
    simp only [hI]
    show hi_if_icmp op r1 pc l (.int y :: .int x :: st) hs_n h 0 0 = _
    unfold hi_if_icmp
    dsimp only
    rw [hb']
    rfl
theorem hxa_goto {off : Int} (hI : hc_get tb pc = some (.goto off, len, r1, r2)) (k : hxa d ret tb r1 l st A P) : hxa d ret tb pc l st A P := fun h hR => hx_step 0 (fun g _ => by
  unfold hc_step1
  simp only [hI]
  rfl) (k h hR)
theorem hxa_s1 {ii : Instr} {x : Int32} {l' : List Value} (hI : hc_get tb pc = some (ii, len, r1, r2)) (hii : (∃ z, ii = .istore_n z ∧ len = 1) ∨ (∃ z, ii = .istore z ∧ len = 2)) (hl : hc_s1 l r1 (.int x) = some l') (k : hxa d ret tb (pc + len) l' st A P) : hxa d ret tb pc l (.int x :: st) A P := fun h hR => hx_step 0 (fun g _ => by
  unfold hc_step1
  simp only [hI]
  rcases hii with ⟨z, rfl, rfl⟩ | ⟨z, rfl, rfl⟩
  · show hi_istore_n r1 pc l (.int x :: st) hs_n h 0 0 = _
    unfold hi_istore_n
    dsimp only
    rw [hl]
    rfl
  · show hi_istore r1 pc l (.int x :: st) hs_n h 0 0 = _
    unfold hi_istore
    dsimp only
    rw [hl]
    rfl) (k h hR)
theorem hxa_iinc {z : Nat} {w : Int} {x : Int32} {l' : List Value} (hI : hc_get tb pc = some (.iinc z w, len, r1, r2)) (hx : hc_nth l r1 = some (.int x)) (hl : hc_s1 l r1 (.int (x + Int32.ofNat r2)) = some l') (k : hxa d ret tb (pc + 3) l' st A P) : hxa d ret tb pc l st A P := fun h hR => hx_step 0 (fun g _ => by
  unfold hc_step1
  simp only [hI]
  show hi_iinc r1 r2 pc l st hs_n h 0 0 = _
  unfold hi_iinc
  rw [hx]
  dsimp only
  rw [hl]
  rfl) (k h hR)
theorem hxa_ireturn {v : Value} (hI : hc_get tb pc = some (.ireturn, len, r1, r2)) (hv : hc_rtv ret v = true) (hP : P (some v) A) : hxa d ret tb pc l [v] A P := fun h hR => hx_ret (fun g => by
  unfold hc_step1
  simp only [hI]
  show hi_ireturn ret pc l [v] hs_n h 0 0 = _
  unfold hi_ireturn
  dsimp only
  rw [hv]) ⟨A, hR, hP⟩
theorem hxa_return (hI : hc_get tb pc = some (.return_, len, r1, r2)) (hv : ret = none) (hP : P none A) : hxa d ret tb pc l [] A P := fun h hR => hx_ret (fun g => by
  subst hv
  unfold hc_step1
  simp only [hI]
  rfl) ⟨A, hR, hP⟩
theorem hxa_call0 {z i ci : Nat} {ks : List Nat} {e : hc_M} {as rest : List Value} {P1 : Option Value → hs_A → Prop} (hI : hc_get tb pc = some (.invokevirtual z, len, r1, 0)) (he : hc_get hm_pg r1 = some e) (hpop : hc_pop e.2.2.2.2.2.1 st [] = some (as, .ref (i + 1) :: rest)) (hs : hc_get hs_sh i = some (3, ci, ks)) (hoc : e.2.2.2.2.1 = ci) (hcat : Nat.ble (hc_cat rest) 8 = true) (hC : hxC d r1 e (.ref (i + 1) :: as) A P1) (k : ∀ (r : Option Value) (A' : hs_A), P1 r A' → hxa d ret tb (pc + 3) l (hc_app r rest) A' P) : hxa d ret tb pc l st A P := fun h hR => by
  obtain ⟨F, r, h', hcall, A', hR', hP1⟩ := hC h hR
  refine hx_step F (fun g hg => ?_) (k r A' hP1 h' hR')
  unfold hc_step1
  simp only [hI]
  show hc_inv0 hm_pg (hx_call g d) r1 pc l st hs_n h 0 0 = _
  unfold hc_inv0
  rw [he]
  dsimp only
  rw [hpop]
  dsimp only
  rw [hR i _ hs, hs_cell3, hoc, hc_objS]
  dsimp only
  rw [hcat]
  dsimp only
  rw [hcall g hg]
  rfl
theorem hxa_call2 {z : Nat} {e : hc_M} {as rest : List Value} {P1 : Option Value → hs_A → Prop} (hI : hc_get tb pc = some (.invokestatic z, len, r1, r2)) (h8 : r2 ≠ 8) (he : hc_get hm_pg r1 = some e) (hpop : hc_pop e.2.2.2.2.2.1 st [] = some (as, rest)) (hcat : Nat.ble (hc_cat rest) 8 = true) (hC : hxC d r1 e as A P1) (k : ∀ (r : Option Value) (A' : hs_A), P1 r A' → hxa d ret tb (pc + 3) l (hc_app r rest) A' P) : hxa d ret tb pc l st A P := fun h hR => by
  obtain ⟨F, r, h', hcall, A', hR', hP1⟩ := hC h hR
  refine hx_step F (fun g hg => ?_) (k r A' hP1 h' hR')
  unfold hc_step1
  simp only [hI]
  show hi_invokestatic hm_pg (hx_call g d) r1 r2 pc l st hs_n h 0 0 = _
  unfold hi_invokestatic
  split
  · exact absurd rfl h8
  · unfold hc_inv2
    rw [he]
    dsimp only
    rw [hpop]
    dsimp only
    rw [hcat]
    dsimp only
    rw [hcall g hg]
    rfl
theorem hxa_ldcS {z : Nat} {k : Nat} (hI : hc_get tb pc = some (.ldc z, len, r1, 1)) (hk : r1 = k) (K : hxa d ret tb (pc + 2) l (.retAddr k :: st) A P) : hxa d ret tb pc l st A P := fun h hR => hx_step 0 (fun g _ => by
  subst hk
  unfold hc_step1
  simp only [hI]
  rfl) (K h hR)
theorem hxa_strLen {z : Nat} {k : Nat} (hI : hc_get tb pc = some (.invokevirtual z, len, 0, 7)) (hcat : Nat.ble (hc_cat st) 8 = true) (K : hxa d ret tb (pc + 3) l (.int (Int32.ofNat (hc_txt k).length) :: st) A P) : hxa d ret tb pc l (.retAddr k :: st) A P := fun h hR => hx_step 0 (fun g _ => by
  unfold hc_step1
  simp only [hI]
  show hi_str 0 pc l (.retAddr k :: st) hs_n h 0 0 = _
  unfold hi_str
  dsimp only
  rw [hcat]
  rfl) (K h hR)
theorem hxa_strChar {z b : Nat} {k : Nat} {i : Int32} (hI : hc_get tb pc = some (.invokevirtual z, len, 1, 7)) (hcat : Nat.ble (hc_cat st) 8 = true) (h0 : ¬ i < 0) (hb : (hc_txt k)[i.toNatClampNeg]? = some b) (K : hxa d ret tb (pc + 3) l (.int (Int32.ofNat b) :: st) A P) : hxa d ret tb pc l (.int i :: .retAddr k :: st) A P := fun h hR => hx_step 0 (fun g _ => by
  unfold hc_step1
  simp only [hI]
  show hi_str 1 pc l (.int i :: .retAddr k :: st) hs_n h 0 0 = _
  unfold hi_str
  dsimp only
  rw [hcat, decide_eq_false h0, hc_nth_eq, hb]
  rfl) (K h hR)
theorem hxa_strIdx {z : Nat} {k : Nat} {x : Int32} (hI : hc_get tb pc = some (.invokevirtual z, len, 2, 7)) (hcat : Nat.ble (hc_cat st) 8 = true) (K : hxa d ret tb (pc + 3) l (.int (hc_ixf x (hc_txt k) 0) :: st) A P) : hxa d ret tb pc l (.int x :: .retAddr k :: st) A P := fun h hR => hx_step 0 (fun g _ => by
  unfold hc_step1
  simp only [hI]
  show hi_str 2 pc l (.int x :: .retAddr k :: st) hs_n h 0 0 = _
  unfold hi_str
  dsimp only
  rw [hcat]
  rfl) (K h hR)
end HXB
