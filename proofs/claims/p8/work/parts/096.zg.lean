/-! THE LAW by worlds: from here it comes to its end, with 1 on the pile -/
noncomputable def hlx (LS : Nat × (Nat → Option Int32)) (d pc : Nat) (l st : List Value) (A : hs_A) : Prop := ∀ h, hs_Rep h A → ∃ (F n : Nat) (l' : List Value) (h' : hc_H), ∀ g, F ≤ g → hc_steps LS hm_pg (hx_call g d) (some .boolean) hm_law n (pc, l, st, hs_n, h, 410, 24060) = some (1479, l', [.int 1], hs_n, h', 410, 24060)
section HLW
variable {LS : Nat × (Nat → Option Int32)} {d pc len r1 r2 : Nat} {l st : List Value} {A : hs_A}
theorem hlx_step {h h' : hc_H} {pc' : Nat} {l1 st1 : List Value} (F1 : Nat) (hs : ∀ g, F1 ≤ g → hc_step1 LS hm_pg (hx_call g d) (some .boolean) hm_law (pc, l, st, hs_n, h, 410, 24060) = some (.inl (pc', l1, st1, hs_n, h', 410, 24060))) (k : ∃ (F n : Nat) (l' : List Value) (h2 : hc_H), ∀ g, F ≤ g → hc_steps LS hm_pg (hx_call g d) (some .boolean) hm_law n (pc', l1, st1, hs_n, h', 410, 24060) = some (1479, l', [.int 1], hs_n, h2, 410, 24060)) : ∃ (F n : Nat) (l' : List Value) (h2 : hc_H), ∀ g, F ≤ g → hc_steps LS hm_pg (hx_call g d) (some .boolean) hm_law n (pc, l, st, hs_n, h, 410, 24060) = some (1479, l', [.int 1], hs_n, h2, 410, 24060) := by
  obtain ⟨F, n, l', h2, q⟩ := k
  refine ⟨F + F1, n + 1, l', h2, fun g hg => ?_⟩
  show (match hc_step1 LS hm_pg (hx_call g d) (some .boolean) hm_law (pc, l, st, hs_n, h, 410, 24060) with
    | some (.inl S') => hc_steps LS hm_pg (hx_call g d) (some .boolean) hm_law n S'
    | _ => none) = _
  rw [hs g (by omega)]
  exact q g (by omega)
theorem hlx_end {l : List Value} : hlx LS d 1479 l [.int 1] A := fun h _ => ⟨0, 0, l, h, fun _ _ => rfl⟩
theorem hlx_iconst {z : Int} {v : Int32} (hI : hc_get hm_law pc = some (.iconst z, len, r1, r2)) (hv : Int32.ofNat r1 = v) (k : hlx LS d (pc + 1) l (.int v :: st) A) : hlx LS d pc l st A := fun h hR => hlx_step 0 (fun g _ => by
  unfold hc_step1
  simp only [hI]
  subst hv
  rfl) (k h hR)
theorem hlx_bipush {z : Int} {v : Int32} (hI : hc_get hm_law pc = some (.bipush z, len, r1, r2)) (hv : Int32.ofNat r1 = v) (k : hlx LS d (pc + 2) l (.int v :: st) A) : hlx LS d pc l st A := fun h hR => hlx_step 0 (fun g _ => by
  unfold hc_step1
  simp only [hI]
  subst hv
  rfl) (k h hR)
theorem hlx_iload_n {z : Fin 4} {x : Int32} (hI : hc_get hm_law pc = some (.iload_n z, len, r1, r2)) (hl : hc_nth l r1 = some (.int x)) (k : hlx LS d (pc + 1) l (.int x :: st) A) : hlx LS d pc l st A := fun h hR => hlx_step 0 (fun g _ => by
  unfold hc_step1
  simp only [hI]
  show hi_iload_n r1 pc l st hs_n h 410 24060 = _
  unfold hi_iload_n
  rw [hl]
  rfl) (k h hR)
theorem hlx_aload_n {z : Fin 4} {x : Nat} (hI : hc_get hm_law pc = some (.aload_n z, len, r1, r2)) (hl : hc_nth l r1 = some (.ref x)) (k : hlx LS d (pc + 1) l (.ref x :: st) A) : hlx LS d pc l st A := fun h hR => hlx_step 0 (fun g _ => by
  unfold hc_step1
  simp only [hI]
  show hi_aload_n r1 pc l st hs_n h 410 24060 = _
  unfold hi_aload_n
  rw [hl]
  rfl) (k h hR)
theorem hlx_iadd {x y : Int32} (hI : hc_get hm_law pc = some (.iadd, len, r1, r2))  (k : hlx LS d (pc + 1) l (.int (x + y) :: st) A) : hlx LS d pc l (.int y :: .int x :: st) A := fun h hR => hlx_step 0 (fun g _ => by
  unfold hc_step1
  simp only [hI]
  rfl) (k h hR)
theorem hlx_isub {x y : Int32} (hI : hc_get hm_law pc = some (.isub, len, r1, r2))  (k : hlx LS d (pc + 1) l (.int (x - y) :: st) A) : hlx LS d pc l (.int y :: .int x :: st) A := fun h hR => hlx_step 0 (fun g _ => by
  unfold hc_step1
  simp only [hI]
  rfl) (k h hR)
theorem hlx_iand {x y : Int32} (hI : hc_get hm_law pc = some (.iand, len, r1, r2))  (k : hlx LS d (pc + 1) l (.int (x &&& y) :: st) A) : hlx LS d pc l (.int y :: .int x :: st) A := fun h hR => hlx_step 0 (fun g _ => by
  unfold hc_step1
  simp only [hI]
  rfl) (k h hR)
theorem hlx_goto {off : Int} (hI : hc_get hm_law pc = some (.goto off, len, r1, r2))  (k : hlx LS d r1 l st A) : hlx LS d pc l st A := fun h hR => hlx_step 0 (fun g _ => by
  unfold hc_step1
  simp only [hI]
  rfl) (k h hR)
theorem hlx_popI {x : Int32} (hI : hc_get hm_law pc = some (.pop, len, r1, r2))  (k : hlx LS d (pc + 1) l st A) : hlx LS d pc l (.int x :: st) A := fun h hR => hlx_step 0 (fun g _ => by
  unfold hc_step1
  simp only [hI]
  rfl) (k h hR)
theorem hlx_sld {j x : Int32} (hI : hc_get hm_law pc = some (.iaload, len, r1, r2)) (h0 : 0 ≤ j.toInt) (h1 : j.toInt < LS.1) (hx : LS.2 j.toNatClampNeg = some x) (k : hlx LS d (pc + 1) l (.int x :: st) A) : hlx LS d pc l (.int j :: .ref 0 :: st) A := fun h hR => hlx_step 0 (fun g _ => by
  unfold hc_step1
  simp only [hI]
  show (match decide (j < 0) || Nat.ble LS.1 j.toNatClampNeg with
    | true => none
    | false => match LS.2 j.toNatClampNeg with
      | some x => hc_nx (pc + 1) l (.int x :: st) hs_n h 410 24060
      | none => hc_nx (pc + 1) l (.float (UInt32.ofNat j.toNatClampNeg) :: st) hs_n h 410 24060) = _
  have c := hn_cn h0
  have b : Nat.ble LS.1 j.toNatClampNeg = false := by
    cases q : Nat.ble LS.1 j.toNatClampNeg with
    | false => rfl
    | true => have := Nat.le_of_ble_eq_true q; omega
  rw [decide_eq_false (hn_ix0 rfl h0), b, hx]
  rfl) (k h hR)
theorem hlx_slen (hI : hc_get hm_law pc = some (.arraylength, len, r1, r2)) (h0 : ¬ LS.1 = 0) (k : hlx LS d (pc + 1) l (.int (Int32.ofNat LS.1) :: st) A) : hlx LS d pc l (.ref 0 :: st) A := fun h hR => hlx_step 0 (fun g _ => by
  unfold hc_step1
  simp only [hI]
  show hi_arraylength LS pc l (.ref 0 :: st) hs_n h 410 24060 = _
  unfold hi_arraylength
  have b : Nat.beq LS.1 0 = false := by
    cases q : Nat.beq LS.1 0 with
    | false => rfl
    | true => exact absurd (Nat.eq_of_beq_eq_true q) h0
  rw [b]
  rfl) (k h hR)
theorem hlx_iinc {z : Nat} {w : Int} {x : Int32} {l' : List Value} (hI : hc_get hm_law pc = some (.iinc z w, len, r1, r2)) (hx : hc_nth l r1 = some (.int x)) (hl : hc_s1 l r1 (.int (x + Int32.ofNat r2)) = some l') (k : hlx LS d (pc + 3) l' st A) : hlx LS d pc l st A := fun h hR => hlx_step 0 (fun g _ => by
  unfold hc_step1
  simp only [hI]
  show hi_iinc r1 r2 pc l st hs_n h 410 24060 = _
  unfold hi_iinc
  rw [hx]
  dsimp only
  rw [hl]
  rfl) (k h hR)
theorem hlx_icmp {op : Jvm.ClassFile.Cond} {off : Int} {x y : Int32} (hI : hc_get hm_law pc = some (.if_icmp op off, len, r1, r2)) (kt : hc_cmp op x y = true → hlx LS d r1 l st A) (kf : hc_cmp op x y = false → hlx LS d (pc + 3) l st A) : hlx LS d pc l (.int y :: .int x :: st) A := fun h hR => by
  cases hb : hc_cmp op x y with
  | true =>
    refine hlx_step 0 (fun g _ => ?_) (kt hb h hR)
    unfold hc_step1
    simp only [hI]
    show hi_if_icmp op r1 pc l (.int y :: .int x :: st) hs_n h 410 24060 = _
    unfold hi_if_icmp
    dsimp only
    rw [hb]
    rfl
  | false =>
    refine hlx_step 0 (fun g _ => ?_) (kf hb h hR)
    unfold hc_step1
    simp only [hI]
    show hi_if_icmp op r1 pc l (.int y :: .int x :: st) hs_n h 410 24060 = _
    unfold hi_if_icmp
    dsimp only
    rw [hb]
    rfl
theorem hlx_if {op : Jvm.ClassFile.Cond} {off : Int} {x : Int32} (hI : hc_get hm_law pc = some (.ifCond op off, len, r1, r2)) (kt : hc_cmp op x 0 = true → hlx LS d r1 l st A) (kf : hc_cmp op x 0 = false → hlx LS d (pc + 3) l st A) : hlx LS d pc l (.int x :: st) A := fun h hR => by
  cases hb : hc_cmp op x 0 with
  | true =>
    refine hlx_step 0 (fun g _ => ?_) (kt hb h hR)
    unfold hc_step1
    simp only [hI]
    show hi_ifCond LS op r1 pc l (.int x :: st) hs_n h 410 24060 = _
    unfold hi_ifCond
    dsimp only
    rw [hb]
    rfl
  | false =>
    refine hlx_step 0 (fun g _ => ?_) (kf hb h hR)
    unfold hc_step1
    simp only [hI]
    show hi_ifCond LS op r1 pc l (.int x :: st) hs_n h 410 24060 = _
    unfold hi_ifCond
    dsimp only
    rw [hb]
    rfl
theorem hlx_tabOut {dflt lo hi : Int} {offs : Array Int} {x : Int32} (hI : hc_get hm_law pc = some (.tableswitch dflt lo hi offs, len, r1, r2)) (hx : x.toInt < lo ∨ hi < x.toInt) {tgt : Nat} (ht : (pc : Int) + dflt = (tgt : Int)) (k : hlx LS d tgt l st A) : hlx LS d pc l (.int x :: st) A := fun h hR => hlx_step 0 (fun g _ => by
  unfold hc_step1
  simp only [hI]
  show hi_tableswitch LS dflt lo hi offs pc l (.int x :: st) hs_n h 410 24060 = _
  unfold hi_tableswitch
  dsimp only
  have h1 : (decide (x.toInt < lo) || decide (hi < x.toInt)) = true := by simp [hx]
  rw [h1]
  dsimp only
  rw [ht, decide_eq_true (by omega : (0 : Int) ≤ (tgt : Int))]
  rfl) (k h hR)
theorem hlx_tabIn {dflt lo hi off : Int} {offs : Array Int} {x : Int32} (hI : hc_get hm_law pc = some (.tableswitch dflt lo hi offs, len, r1, r2)) (h1 : ¬ x.toInt < lo) (h2 : ¬ hi < x.toInt) (ho : offs.toList[(x.toInt - lo).toNat]? = some off) {tgt : Nat} (ht : (pc : Int) + off = (tgt : Int)) (k : hlx LS d tgt l st A) : hlx LS d pc l (.int x :: st) A := fun h hR => hlx_step 0 (fun g _ => by
  unfold hc_step1
  simp only [hI]
  show hi_tableswitch LS dflt lo hi offs pc l (.int x :: st) hs_n h 410 24060 = _
  unfold hi_tableswitch
  dsimp only
  have h3 : (decide (x.toInt < lo) || decide (hi < x.toInt)) = false := by simp [h1, h2]
  rw [h3]
  dsimp only
  rw [hc_nth_eq, ho]
  dsimp only
  rw [ht, decide_eq_true (by omega : (0 : Int) ≤ (tgt : Int))]
  rfl) (k h hR)
theorem hlx_call {z i ci : Nat} {ks : List Nat} {e : hc_M} {as rest : List Value} {P1 : Option Value → hs_A → Prop} (hI : hc_get hm_law pc = some (.invokevirtual z, len, r1, 0)) (he : hc_get hm_pg r1 = some e) (hpop : hc_pop e.2.2.2.2.2.1 st [] = some (as, .ref (i + 1) :: rest)) (hs : hc_get hs_sh i = some (3, ci, ks)) (hoc : e.2.2.2.2.1 = ci) (hcat : Nat.ble (hc_cat rest) 8 = true) (hC : hxC d r1 e (.ref (i + 1) :: as) A P1) (k : ∀ (r : Option Value) (A' : hs_A), P1 r A' → hlx LS d (pc + 3) l (hc_app r rest) A') : hlx LS d pc l st A := fun h hR => by
  obtain ⟨F, r, h', hcall, A', hR', hP1⟩ := hC h hR
  refine hlx_step F (fun g hg => ?_) (k r A' hP1 h' hR')
  unfold hc_step1
  simp only [hI]
  show hc_inv0 hm_pg (hx_call g d) r1 pc l st hs_n h 410 24060 = _
  unfold hc_inv0
  rw [he]
  dsimp only
  rw [hpop]
  dsimp only
  rw [hR i _ hs, hs_cell3, hoc, hc_objS]
  dsimp only
  rw [hcat]
  dsimp only
  rw [hcall g hg]
  rfl
end HLW
