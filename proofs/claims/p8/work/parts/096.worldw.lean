section HXD
variable {d : Nat} {ret : Option FieldType} {tb : hc_K} {pc len r1 r2 : Nat} {l st : List Value} {A : hs_A} {P : Option Value → hs_A → Prop}
theorem hxa_ladd {x y : Int64} (hI : hc_get tb pc = some (.ladd, len, r1, r2))  (k : hxa d ret tb (pc + 1) l (.long (x + y) :: st) A P) : hxa d ret tb pc l (.long y :: .long x :: st) A P := fun h hR => hx_step 0 (fun g _ => by
  unfold hc_step1
  simp only [hI]
  rfl) (k h hR)
theorem hxa_lsub {x y : Int64} (hI : hc_get tb pc = some (.lsub, len, r1, r2))  (k : hxa d ret tb (pc + 1) l (.long (x - y) :: st) A P) : hxa d ret tb pc l (.long y :: .long x :: st) A P := fun h hR => hx_step 0 (fun g _ => by
  unfold hc_step1
  simp only [hI]
  rfl) (k h hR)
theorem hxa_lmul {x y : Int64} (hI : hc_get tb pc = some (.lmul, len, r1, r2))  (k : hxa d ret tb (pc + 1) l (.long (x * y) :: st) A P) : hxa d ret tb pc l (.long y :: .long x :: st) A P := fun h hR => hx_step 0 (fun g _ => by
  unfold hc_step1
  simp only [hI]
  rfl) (k h hR)
theorem hxa_lor {x y : Int64} (hI : hc_get tb pc = some (.lor, len, r1, r2))  (k : hxa d ret tb (pc + 1) l (.long (x ||| y) :: st) A P) : hxa d ret tb pc l (.long y :: .long x :: st) A P := fun h hR => hx_step 0 (fun g _ => by
  unfold hc_step1
  simp only [hI]
  rfl) (k h hR)
theorem hxa_lshl {x : Int64} {y : Int32} (hI : hc_get tb pc = some (.lshl, len, r1, r2))  (k : hxa d ret tb (pc + 1) l (.long (x <<< (y.toInt64 &&& 63)) :: st) A P) : hxa d ret tb pc l (.int y :: .long x :: st) A P := fun h hR => hx_step 0 (fun g _ => by
  unfold hc_step1
  simp only [hI]
  rfl) (k h hR)
theorem hxa_lcmp {x y : Int64} (hI : hc_get tb pc = some (.lcmp, len, r1, r2))  (k : hxa d ret tb (pc + 1) l (.int (lg_cmp x y) :: st) A P) : hxa d ret tb pc l (.long y :: .long x :: st) A P := fun h hR => hx_step 0 (fun g _ => by
  unfold hc_step1
  simp only [hI]
  rfl) (k h hR)
theorem hxa_i2l {x : Int32} (hI : hc_get tb pc = some (.i2l, len, r1, r2))  (k : hxa d ret tb (pc + 1) l (.long x.toInt64 :: st) A P) : hxa d ret tb pc l (.int x :: st) A P := fun h hR => hx_step 0 (fun g _ => by
  unfold hc_step1
  simp only [hI]
  rfl) (k h hR)
theorem hxa_l2i {x : Int64} (hI : hc_get tb pc = some (.l2i, len, r1, r2))  (k : hxa d ret tb (pc + 1) l (.int x.toInt32 :: st) A P) : hxa d ret tb pc l (.long x :: st) A P := fun h hR => hx_step 0 (fun g _ => by
  unfold hc_step1
  simp only [hI]
  rfl) (k h hR)
theorem hxa_i2b {x : Int32} (hI : hc_get tb pc = some (.i2b, len, r1, r2))  (k : hxa d ret tb (pc + 1) l (.int x.toInt8.toInt32 :: st) A P) : hxa d ret tb pc l (.int x :: st) A P := fun h hR => hx_step 0 (fun g _ => by
  unfold hc_step1
  simp only [hI]
  rfl) (k h hR)
theorem hxa_i2c {x : Int32} (hI : hc_get tb pc = some (.i2c, len, r1, r2))  (k : hxa d ret tb (pc + 1) l (.int (x.toUInt32 % 65536).toInt32 :: st) A P) : hxa d ret tb pc l (.int x :: st) A P := fun h hR => hx_step 0 (fun g _ => by
  unfold hc_step1
  simp only [hI]
  rfl) (k h hR)
theorem hxa_idiv {x y : Int32} (hI : hc_get tb pc = some (.idiv, len, r1, r2)) (hy : ¬ y = 0) (k : hxa d ret tb (pc + 1) l (.int (x / y) :: st) A P) : hxa d ret tb pc l (.int y :: .int x :: st) A P := fun h hR => hx_step 0 (fun g _ => by
  unfold hc_step1
  simp only [hI]
  show hi_idiv pc l (.int y :: .int x :: st) hs_n h 0 0 = _
  unfold hi_idiv
  dsimp only
  rw [decide_eq_false hy]
  rfl) (k h hR)
theorem hxa_irem {x y : Int32} (hI : hc_get tb pc = some (.irem, len, r1, r2)) (hy : ¬ y = 0) (k : hxa d ret tb (pc + 1) l (.int (x - x / y * y) :: st) A P) : hxa d ret tb pc l (.int y :: .int x :: st) A P := fun h hR => hx_step 0 (fun g _ => by
  unfold hc_step1
  simp only [hI]
  show hi_irem pc l (.int y :: .int x :: st) hs_n h 0 0 = _
  unfold hi_irem
  dsimp only
  rw [decide_eq_false hy]
  rfl) (k h hR)
theorem hxa_dupI {x : Int32} (hI : hc_get tb pc = some (.dup, len, r1, r2))  (k : hxa d ret tb (pc + 1) l (.int x :: .int x :: st) A P) : hxa d ret tb pc l (.int x :: st) A P := fun h hR => hx_step 0 (fun g _ => by
  unfold hc_step1
  simp only [hI]
  rfl) (k h hR)
theorem hxa_dupR {x : Nat} (hI : hc_get tb pc = some (.dup, len, r1, r2))  (k : hxa d ret tb (pc + 1) l (.ref x :: .ref x :: st) A P) : hxa d ret tb pc l (.ref x :: st) A P := fun h hR => hx_step 0 (fun g _ => by
  unfold hc_step1
  simp only [hI]
  rfl) (k h hR)
theorem hxa_popI {x : Int32} (hI : hc_get tb pc = some (.pop, len, r1, r2))  (k : hxa d ret tb (pc + 1) l st A P) : hxa d ret tb pc l (.int x :: st) A P := fun h hR => hx_step 0 (fun g _ => by
  unfold hc_step1
  simp only [hI]
  rfl) (k h hR)
theorem hxa_popR {x : Nat} (hI : hc_get tb pc = some (.pop, len, r1, r2))  (k : hxa d ret tb (pc + 1) l st A P) : hxa d ret tb pc l (.ref x :: st) A P := fun h hR => hx_step 0 (fun g _ => by
  unfold hc_step1
  simp only [hI]
  rfl) (k h hR)
theorem hxa_dup2IR {x : Int32} {y : Nat} (hI : hc_get tb pc = some (.dup2, len, r1, r2))  (k : hxa d ret tb (pc + 1) l (.int x :: .ref y :: .int x :: .ref y :: st) A P) : hxa d ret tb pc l (.int x :: .ref y :: st) A P := fun h hR => hx_step 0 (fun g _ => by
  unfold hc_step1
  simp only [hI]
  rfl) (k h hR)
theorem hxa_lconst {z : Fin 2} {v : Int64} (hI : hc_get tb pc = some (.lconst z, len, r1, r2)) (hv : Int64.ofNat r1 = v) (k : hxa d ret tb (pc + 1) l (.long v :: st) A P) : hxa d ret tb pc l st A P := fun h hR => hx_step 0 (fun g _ => by
  unfold hc_step1
  simp only [hI]
  subst hv
  rfl) (k h hR)
theorem hxa_ldc {z : Nat} {v : Int32} (hI : hc_get tb pc = some (.ldc z, len, r1, 0)) (hv : Int32.ofNat r1 = v) (k : hxa d ret tb (pc + 2) l (.int v :: st) A P) : hxa d ret tb pc l st A P := fun h hR => hx_step 0 (fun g _ => by
  unfold hc_step1
  simp only [hI]
  subst hv
  rfl) (k h hR)
theorem hxa_ldc_w {z : Nat} {v : Int32} (hI : hc_get tb pc = some (.ldc_w z, len, r1, r2)) (hv : Int32.ofNat r1 = v) (k : hxa d ret tb (pc + 3) l (.int v :: st) A P) : hxa d ret tb pc l st A P := fun h hR => hx_step 0 (fun g _ => by
  unfold hc_step1
  simp only [hI]
  subst hv
  rfl) (k h hR)
theorem hxa_ldc2_w {z : Nat} {v : Int64} (hI : hc_get tb pc = some (.ldc2_w z, len, r1, r2)) (hv : Int64.ofNat r1 = v) (k : hxa d ret tb (pc + 3) l (.long v :: st) A P) : hxa d ret tb pc l st A P := fun h hR => hx_step 0 (fun g _ => by
  unfold hc_step1
  simp only [hI]
  subst hv
  rfl) (k h hR)
theorem hxa_lload_n {z : Fin 4} {x : Int64} (hI : hc_get tb pc = some (.lload_n z, len, r1, r2)) (hl : hc_nth l r1 = some (.long x)) (k : hxa d ret tb (pc + 1) l (.long x :: st) A P) : hxa d ret tb pc l st A P := fun h hR => hx_step 0 (fun g _ => by
  unfold hc_step1
  simp only [hI]
  show hi_lload_n r1 pc l st hs_n h 0 0 = _
  unfold hi_lload_n
  rw [hl]
  rfl) (k h hR)
theorem hxa_lload {z : Nat} {x : Int64} (hI : hc_get tb pc = some (.lload z, len, r1, r2)) (hl : hc_nth l r1 = some (.long x)) (k : hxa d ret tb (pc + 2) l (.long x :: st) A P) : hxa d ret tb pc l st A P := fun h hR => hx_step 0 (fun g _ => by
  unfold hc_step1
  simp only [hI]
  show hi_lload r1 pc l st hs_n h 0 0 = _
  unfold hi_lload
  rw [hl]
  rfl) (k h hR)
theorem hxa_lstore_n {z : Fin 4} {x : Int64} {l' : List Value} (hI : hc_get tb pc = some (.lstore_n z, len, r1, r2)) (hl : hc_s2 l r1 (.long x) = some l') (k : hxa d ret tb (pc + 1) l' st A P) : hxa d ret tb pc l (.long x :: st) A P := fun h hR => hx_step 0 (fun g _ => by
  unfold hc_step1
  simp only [hI]
  show hi_lstore_n r1 pc l (.long x :: st) hs_n h 0 0 = _
  unfold hi_lstore_n
  dsimp only
  rw [hl]
  rfl) (k h hR)
theorem hxa_lstore {z : Nat} {x : Int64} {l' : List Value} (hI : hc_get tb pc = some (.lstore z, len, r1, r2)) (hl : hc_s2 l r1 (.long x) = some l') (k : hxa d ret tb (pc + 2) l' st A P) : hxa d ret tb pc l (.long x :: st) A P := fun h hR => hx_step 0 (fun g _ => by
  unfold hc_step1
  simp only [hI]
  show hi_lstore r1 pc l (.long x :: st) hs_n h 0 0 = _
  unfold hi_lstore
  dsimp only
  rw [hl]
  rfl) (k h hR)
theorem hxa_astore_n {z : Fin 4} {x : Nat} {l' : List Value} (hI : hc_get tb pc = some (.astore_n z, len, r1, r2)) (hl : hc_s1 l r1 (.ref x) = some l') (k : hxa d ret tb (pc + 1) l' st A P) : hxa d ret tb pc l (.ref x :: st) A P := fun h hR => hx_step 0 (fun g _ => by
  unfold hc_step1
  simp only [hI]
  show hi_astore_n r1 pc l (.ref x :: st) hs_n h 0 0 = _
  unfold hi_astore_n
  dsimp only
  rw [hl]
  rfl) (k h hR)
theorem hxa_astore {z : Nat} {x : Nat} {l' : List Value} (hI : hc_get tb pc = some (.astore z, len, r1, r2)) (hl : hc_s1 l r1 (.ref x) = some l') (k : hxa d ret tb (pc + 2) l' st A P) : hxa d ret tb pc l (.ref x :: st) A P := fun h hR => hx_step 0 (fun g _ => by
  unfold hc_step1
  simp only [hI]
  show hi_astore r1 pc l (.ref x :: st) hs_n h 0 0 = _
  unfold hi_astore
  dsimp only
  rw [hl]
  rfl) (k h hR)
theorem hxa_lald {i m : Nat} {j : Int32} (hI : hc_get tb pc = some (.laload, len, r1, r2)) (hs : hc_get hs_sh i = some (1, 2, [m])) (h0 : ¬ j < 0) (h1 : j.toNatClampNeg < m) (k : hxa d ret tb (pc + 1) l (.long (A.2.2.1 i j.toNatClampNeg) :: st) A P) : hxa d ret tb pc l (.int j :: .ref (i + 1) :: st) A P := fun h hR => hx_step 0 (fun g _ => by
  unfold hc_step1
  simp only [hI]
  show hi_laload pc l (.int j :: .ref (i + 1) :: st) hs_n h 0 0 = _
  unfold hi_laload
  exact hs_ald ((hR i _ hs).trans (congrArg some (hs_cell1 A i 2 m))) (hs_el h0 (hs_al_at h1))) (k h hR)
theorem hc_arr_ne {t t' : Nat} {a : List Value} (h : Nat.beq t' t = false) : hc_arr t (some (.inl (t', a))) = none := by
  unfold hc_arr
  dsimp only
  rw [h]
theorem hxa_bald {i m : Nat} {j : Int32} (hI : hc_get tb pc = some (.baload, len, r1, r2)) (hs : hc_get hs_sh i = some (0, 0, [m])) (h0 : ¬ j < 0) (h1 : j.toNatClampNeg < m) (k : hxa d ret tb (pc + 1) l (.int (A.2.1 i j.toNatClampNeg) :: st) A P) : hxa d ret tb pc l (.int j :: .ref (i + 1) :: st) A P := fun h hR => hx_step 0 (fun g _ => by
  unfold hc_step1
  simp only [hI]
  show hi_baload pc l (.int j :: .ref (i + 1) :: st) hs_n h 0 0 = _
  unfold hi_baload
  rw [hs_ald ((hR i _ hs).trans (congrArg some (hs_cell0 A i 0 m))) (hs_el h0 (hs_ar_at h1))]
  rfl) (k h hR)
theorem hxa_zald {i m : Nat} {j : Int32} (hI : hc_get tb pc = some (.baload, len, r1, r2)) (hs : hc_get hs_sh i = some (0, 3, [m])) (h0 : ¬ j < 0) (h1 : j.toNatClampNeg < m) (k : hxa d ret tb (pc + 1) l (.int (A.2.1 i j.toNatClampNeg) :: st) A P) : hxa d ret tb pc l (.int j :: .ref (i + 1) :: st) A P := fun h hR => hx_step 0 (fun g _ => by
  unfold hc_step1
  simp only [hI]
  show hi_baload pc l (.int j :: .ref (i + 1) :: st) hs_n h 0 0 = _
  unfold hi_baload
  have hg : hc_get h i = some (.inl (3, hs_ar A i m)) := (hR i _ hs).trans (congrArg some (hs_cell0 A i 3 m))
  have hn : hc_ald 0 pc l (.int j :: .ref (i + 1) :: st) hs_n h 0 0 = none := by
    unfold hc_ald
    dsimp only
    rw [hg, hc_arr_ne rfl]
  rw [hn]
  exact hs_ald hg (hs_el h0 (hs_ar_at h1))) (k h hR)
theorem hxa_bast {i m : Nat} {j x : Int32} (hI : hc_get tb pc = some (.bastore, len, r1, r2)) (hs : hc_get hs_sh i = some (0, 0, [m])) (h0 : ¬ j < 0) (h1 : j.toNatClampNeg < m) (k : hxa d ret tb (pc + 1) l st (A.1, hs_up A.2.1 i j.toNatClampNeg x.toInt8.toInt32, A.2.2) P) : hxa d ret tb pc l (.int x :: .int j :: .ref (i + 1) :: st) A P := fun h hR => by
  obtain ⟨h', hp, hR'⟩ := hs_setI (x := x.toInt8.toInt32) hR hs h1
  refine hx_step 0 (fun g _ => ?_) (k h' hR')
  unfold hc_step1
  simp only [hI]
  show hi_bastore pc l (.int x :: .int j :: .ref (i + 1) :: st) hs_n h 0 0 = _
  unfold hi_bastore
  dsimp only
  have hg : hc_get h i = some (.inl (0, hs_ar A i m)) := (hR i _ hs).trans (congrArg some (hs_cell0 A i 0 m))
  rw [hg, hc_arrS]
  exact hs_ast hg (hs_el h0 (hs_ar_at h1)) hp
theorem hxa_aald {i m t : Nat} {rs : List Nat} {j : Int32} (hI : hc_get tb pc = some (.aaload, len, r1, r2)) (ht : t = 4 ∨ t = 5) (hs : hc_get hs_sh i = some (2, t, rs)) (h0 : ¬ j < 0) (h1 : rs[j.toNatClampNeg]? = some m) (k : hxa d ret tb (pc + 1) l (.ref m :: st) A P) : hxa d ret tb pc l (.int j :: .ref (i + 1) :: st) A P := fun h hR => hx_step 0 (fun g _ => by
  unfold hc_step1
  simp only [hI]
  show hi_aaload pc l (.int j :: .ref (i + 1) :: st) hs_n h 0 0 = _
  unfold hi_aaload
  have hg : hc_get h i = some (.inl (t, rs.map (fun r => .ref r))) := (hR i _ hs).trans (congrArg some (hs_cell2 A i t rs))
  have he : hc_el (rs.map (fun r => Value.ref r)) j = some (.ref m) := hs_el h0 (by rw [hc_nth_eq, List.getElem?_map, h1]; rfl)
  rcases ht with rfl | rfl
  · rw [hs_ald hg he]
    rfl
  · have hn : hc_ald 4 pc l (.int j :: .ref (i + 1) :: st) hs_n h 0 0 = none := by
      unfold hc_ald
      dsimp only
      rw [hg, hc_arr_ne rfl]
    rw [hn]
    exact hs_ald hg he) (k h hR)
theorem hxa_areturn {a : Nat} {t : FieldType} (hI : hc_get tb pc = some (.areturn, len, r1, r2)) (hv : ret = some (.array t)) (hP : P (some (.ref a)) A) : hxa d ret tb pc l [.ref a] A P := fun h hR => hx_ret (fun g => by
  subst hv
  unfold hc_step1
  simp only [hI]
  rfl) ⟨A, hR, hP⟩
theorem hxa_lreturn {x : Int64} (hI : hc_get tb pc = some (.lreturn, len, r1, r2)) (hv : ret = some .long) (hP : P (some (.long x)) A) : hxa d ret tb pc l [.long x] A P := fun h hR => hx_ret (fun g => by
  subst hv
  unfold hc_step1
  simp only [hI]
  rfl) ⟨A, hR, hP⟩
end HXD
