/-! WHAT WOULD BE: sets of houses as bits, and how many there are -/
theorem hpx_copy {z i0 i1 m : Nat} {w : Int32} {fg : Nat × Nat} {d : Nat} {ret : Option FieldType} {tb : hc_K} {pc len r1 : Nat} {l st : List Value} {A : hs_A} {P : Option Value → hs_A → Prop} (hI : hc_get tb pc = some (.invokestatic z, len, r1, 8)) (hs0 : hc_get hs_sh i0 = some (0, 1, [m])) (hs1 : hc_get hs_sh i1 = some (0, 1, [m])) (h0 : ¬ w < 0) (h1 : w.toNatClampNeg = m) (hcat : Nat.ble (hc_cat st) 8 = true) (k : ∀ A' : hs_A, A'.1 = A.1 → A'.2.1 = hs_cpy A.2.1 i0 i1 → A'.2.2 = A.2.2 → hpa fg d ret tb (pc + 3) l st A' P) : hpa fg d ret tb pc l (.int w :: .int 0 :: .ref (i1 + 1) :: .int 0 :: .ref (i0 + 1) :: st) A P := hpa_copy hI hs0 hs1 h0 h1 hcat (k _ rfl rfl rfl)
def huBn (b : Nat → Bool) : Nat → Nat
  | 0 => 0
  | k + 1 => huBn b k + (if b k then 2 ^ k else 0)
theorem huBn_lt {b : Nat → Bool} : ∀ k, huBn b k < 2 ^ k
  | 0 => by
    show 0 < 2 ^ 0
    decide
  | k + 1 => by
    have q := huBn_lt (b := b) k
    show huBn b k + (if b k then 2 ^ k else 0) < 2 ^ (k + 1)
    have e : 2 ^ (k + 1) = 2 ^ k * 2 := Nat.pow_succ 2 k
    split <;> omega
theorem huBn_y {b : Nat → Bool} {k : Nat} (h : b k = true) : huBn b (k + 1) = huBn b k + 2 ^ k := by
  show huBn b k + (if b k then 2 ^ k else 0) = _
  rw [if_pos h]
theorem huBn_n {b : Nat → Bool} {k : Nat} (h : b k = false) : huBn b (k + 1) = huBn b k := by
  show huBn b k + (if b k then 2 ^ k else 0) = _
  rw [if_neg (by rw [h]; decide)]
  rfl
theorem huCt_y {b : Nat → Bool} {k : Nat} (h : b k = true) : huCt b (k + 1) = huCt b k + 1 := by
  show huCt b k + (if b k then 1 else 0) = _
  rw [if_pos h]
theorem huCt_n {b : Nat → Bool} {k : Nat} (h : b k = false) : huCt b (k + 1) = huCt b k := by
  show huCt b k + (if b k then 1 else 0) = _
  rw [if_neg (by rw [h]; decide)]
  rfl
theorem huCt_le {b : Nat → Bool} : ∀ k, huCt b k ≤ k
  | 0 => Nat.le_refl 0
  | k + 1 => by
    have q := huCt_le (b := b) k
    show huCt b k + (if b k then 1 else 0) ≤ _
    split <;> omega
theorem huBn_10 {b : Nat → Bool} {k : Nat} (h : k ≤ 10) : huBn b k < 1024 := by
  have q := huBn_lt (b := b) k
  have p : 2 ^ k ≤ 2 ^ 10 := Nat.pow_le_pow_right (by omega) h
  omega
set_option maxRecDepth 1000000 in
theorem huBn_od : ∀ k, k < 10 → ∀ m, m < 2 ^ k → Int32.ofNat m ||| (Int32.ofNat 1 <<< (Int32.ofNat k &&& 31)) = Int32.ofNat (m + 2 ^ k) := by decide +kernel
theorem huBn_or {b : Nat → Bool} {k : Nat} (hk : k < 10) (h : b k = true) : Int32.ofNat (huBn b k) ||| (Int32.ofNat 1 <<< (Int32.ofNat k &&& 31)) = Int32.ofNat (huBn b (k + 1)) := by
  rw [huBn_y h]
  exact huBn_od k hk _ (huBn_lt k)
set_option maxRecDepth 1000000 in
theorem huB_od : ∀ k, k < 10 → ∀ m, m < 2 ^ k → huB 10 (Int32.ofNat (m + 2 ^ k)) = huB 10 (Int32.ofNat m) + Int32.ofNat 1 := by decide +kernel
theorem huB_bn {b : Nat → Bool} : ∀ k, k ≤ 10 → huB 10 (Int32.ofNat (huBn b k)) = Int32.ofNat (huCt b k)
  | 0, _ => by
    show huB 10 (Int32.ofNat 0) = Int32.ofNat 0
    decide
  | k + 1, hk => by
    have q := huB_bn (b := b) k (by omega)
    cases h : b k with
    | true =>
      rw [huBn_y h, huCt_y h, huB_od k (by omega) _ (huBn_lt k), q, Int32.ofNat_add]
    | false => rw [huBn_n h, huCt_n h, q]
theorem huBn_in {b : Nat → Bool} {k : Nat} (h : k ≤ 10) : 0 ≤ (Int32.ofNat (huBn b k)).toInt ∧ (Int32.ofNat (huBn b k)).toInt < 1024 := by
  have q := huBn_10 (b := b) h
  have e := hn_c (n := huBn b k) (z := Int32.ofNat (huBn b k)) rfl (by omega)
  omega
def huWm (ro : Nat → Int32) (h : Nat) : Bool := !decide ((ro (30 + h)).toInt = 0)
def huMn (ro : Nat → Int32) (h : Nat) : Bool := decide (0 < (ro (60 + h)).toInt)
def huCn (ro : Nat → Int32) (h : Nat) : Bool := decide ((ro (40 + h)).toInt = (ro h).toInt)
theorem huWm_y {ro : Nat → Int32} {h : Nat} (q : ¬ (ro (30 + h)).toInt = 0) : huWm ro h = true := by
  unfold huWm
  rw [decide_eq_false q]
  rfl
theorem huWm_n {ro : Nat → Int32} {h : Nat} (q : (ro (30 + h)).toInt = 0) : huWm ro h = false := by
  unfold huWm
  rw [decide_eq_true q]
  rfl
theorem hs_need {a w : Int32} (s : a &&& w = a) : (w &&& (a ^^^ Int32.ofNat 4294967295)).toInt = 0 ↔ a.toInt = w.toInt := by
  constructor
  · intro h
    refine congrArg Int32.toInt (hub_ext (fun p hp => ?_))
    have q := hub_z (p := p) h
    rw [hub_and, hub_not hp] at q
    have t : (hub a p && hub w p) = hub a p := by rw [← hub_and, s]
    revert q t
    cases hub a p <;> cases hub w p <;> decide
  · intro h
    have e : a = w := Int32.toInt_inj.mp h
    subst e
    have z : a &&& (a ^^^ Int32.ofNat 4294967295) = Int32.ofNat 0 := hub_ext (fun p hp => by
      rw [hub_and, hub_not hp, hub_0]
      cases hub a p <;> rfl)
    rw [z, hk_0]
theorem huCn_y {ro : Nat → Int32} {h : Nat} (s : ro (40 + h) &&& ro h = ro (40 + h)) (q : (ro h &&& (ro (40 + h) ^^^ Int32.ofNat 4294967295)).toInt = 0) : huCn ro h = true := decide_eq_true ((hs_need s).mp q)
theorem huCn_n {ro : Nat → Int32} {h : Nat} (s : ro (40 + h) &&& ro h = ro (40 + h)) (q : ¬ (ro h &&& (ro (40 + h) ^^^ Int32.ofNat 4294967295)).toInt = 0) : huCn ro h = false := decide_eq_false (fun e => q ((hs_need s).mpr e))
theorem hdK.seed {T : Nat} {D : hg_D} {A : hs_A} (hC : hdK T D A) (hD3 : 0 ≤ D.2.2.1 ∧ D.2.2.1 ≤ 10000) : A.1 T 7 = Int32.ofInt D.2.2.1 := by
  obtain ⟨kw, V, ns, zz, k1, k2, kM, k3⟩ := hC
  exact Int32.toInt_inj.mp (kM.2.2.1.2.2.trans (hs_ofInt hD3.1 hD3.2).symm)
theorem hrK.seed {sd : Nat} {D : hg_D} {A : hs_A} (hK : hrK sd D A) (hD3 : 0 ≤ D.2.2.1 ∧ D.2.2.1 ≤ 10000) : A.2.1 382 sd = Int32.ofInt D.2.2.1 := by
  obtain ⟨V, ns, bb, zz, k1, kM, k2⟩ := hK.2.2.2.2
  exact Int32.toInt_inj.mp (kM.2.1.2.2.trans (hs_ofInt hD3.1 hD3.2).symm)
theorem huDy_f {D : hg_D} {n : Nat} {s s' : Int32} {ro : Nat → Int32} : huDy D n ro false s = huDy D n ro false s' := by
  funext h
  unfold huDy
  rw [Bool.false_and, Bool.false_and]
theorem huGr_f {D : hg_D} {n h : Nat} {s s' : Int32} {ro : Nat → Int32} : huGr D n ro false s h = huGr D n ro false s' h := by
  unfold huGr
  rw [huDy_f (s' := s')]
theorem huR_f {D : hg_D} {n : Nat} {s s' : Int32} {ro : Nat → Int32} : huR D n false s ro = huR D n false s' ro := by
  funext k
  unfold huR
  rw [huDy_f (s' := s'), huGr_f (s' := s')]
theorem huY_f {D : hg_D} {n : Nat} {s s' : Int32} {ro : Nat → Int32} : ∀ m, huY D n false s m ro = huY D n false s' m ro
  | 0 => rfl
  | m + 1 => by
    show huR D n false s (huY D n false s m ro) = huR D n false s' (huY D n false s' m ro)
    rw [huY_f m]
    exact huR_f
theorem hCp.d {L n : Nat} {ro : Nat → Int32} {A A' : hs_A} (c : hCp L 26 A A') (h : hdL 26 ro n A) : hdL L ro n A' := h.mv c.1 (fun j a b x _ => c.2.1 j a b x) (fun _ _ => rfl)
/-- how many of m hours a house hears nothing -/
def huQt (D : hg_D) (n : Nat) (ro : Nat → Int32) (h m : Nat) : Nat := huCt (fun k => !huWm (huY D n false (Int32.ofNat 0) (k + 1) ro) h) m
/-- what a house hears in m hours, together -/
def huLs (D : hg_D) (n : Nat) (ro : Nat → Int32) (h : Nat) : Nat → Int32
  | 0 => Int32.ofNat 0
  | k + 1 => huLs D n ro h k + huB 10 (huY D n false (Int32.ofNat 0) (k + 1) ro (30 + h))
/-- the first of the greatest of 0 .. k -/
def huMi (f : Nat → Int32) : Nat → Nat
  | 0 => 0
  | k + 1 => if (f (huMi f k)).toInt < (f (k + 1)).toInt then k + 1 else huMi f k
theorem huMi_le {f : Nat → Int32} : ∀ k, huMi f k ≤ k
  | 0 => Nat.le_refl 0
  | k + 1 => by
    have q := huMi_le (f := f) k
    show (if (f (huMi f k)).toInt < (f (k + 1)).toInt then k + 1 else huMi f k) ≤ k + 1
    split <;> omega
theorem huMi_y {f : Nat → Int32} {k : Nat} (h : (f (huMi f k)).toInt < (f (k + 1)).toInt) : huMi f (k + 1) = k + 1 := if_pos h
theorem huMi_n {f : Nat → Int32} {k : Nat} (h : ¬ (f (huMi f k)).toInt < (f (k + 1)).toInt) : huMi f (k + 1) = huMi f k := if_neg h
theorem hW31_26 {g d f : Nat} {A : hs_A} {ro : Nat → Int32} {n : Nat} (hL : hdL 26 ro n A) {P : Option Value → hs_A → Prop} (hP : ∀ (r : Option Value) (A' : hs_A), (A = A' ∧ ∃ z : Int32, r = some (.int z) ∧ z = Int32.ofNat (huBn (huWm ro) n)) → P r A') : hpa (f, g) d (some (.int)) hm_t31 0 [.ref 27, .retAddr 0, .retAddr 0] [] A P := by
  have k0 := hk_0
  have k1 := hk_1
  have hn10 := hL.1
  have L4 : ∀ (f : Nat) (x4_2 : Int32) (x4_1 : Int32) (k : Nat) (bk : k ≤ n) (ek : x4_2 = Int32.ofNat k) (x4e1 : x4_1 = Int32.ofNat (huBn (huWm ro) k)), hpa (f, g) d (some (.int)) hm_t31 4 [.ref 27, .int x4_1, .int x4_2] [] A P := by
    intro f
    induction f with
    | zero => intros; exact hpa.zero
    | succ f ih4 =>
      intro x4_2 x4_1 k bk ek x4e1
      subst ek
      have ck := hn_c (n := k) (z := Int32.ofNat k) rfl (by omega)
      subst x4e1
      refine hpa_iload_nS (by rfl) rfl ?_
      refine hpa_aload_n (by rfl) rfl ?_
      refine hpj_getK (by rfl) (by rfl) (by rfl) rfl ?_
      refine hpj_cge (by rfl) ck hL.2.1 (fun q1 => ?_) (fun q1 => ?_)
      ·
        refine hpa_iload_n (by rfl) rfl ?_
        exact hpa_ireturn (by rfl) rfl (hP _ _ ⟨rfl, _, rfl, by rw [show k = n by omega]⟩)
      ·
        refine hpa_aload_n (by rfl) rfl ?_
        refine hpa_get (v := .ref 32) (by rfl) (by rfl) (by rfl) rfl ?_
        refine hpa_iload_n (by rfl) rfl ?_
        refine hpx_iald (by rfl) (by rfl) (fun h0v2 h1v2 v2 ev2 => ?_)
        rw [show ((Int32.ofNat k)).toNatClampNeg = k from by have := hn_cn (j := (Int32.ofNat k)) (by omega); omega] at ev2
        have lv2 := ev2.symm.trans ((hL.2.2.2.2 (k) (by omega)).2.2.1)
        clear ev2
        subst lv2
        refine hpj_zeq (by rfl) rfl (fun q3 => ?_) (fun q3 => ?_)
        ·
          refine hpj_iinc (by rfl) rfl ck hk_1 (by omega) (by omega) (fun _ => rfl) (fun z4 ez4 => ?_)
          refine hpa_goto (by rfl) ?_
          exact ih4 z4 (Int32.ofNat (huBn (huWm ro) k)) (k + 1) (by omega) (huI (by omega) (by omega)) (by rw [huBn_n (huWm_n q3)])
        ·
          refine hpa_iload_n (by rfl) rfl ?_
          refine hpa_iconst (by rfl) rfl ?_
          refine hpa_iload_n (by rfl) rfl ?_
          refine hpa_ishl (by rfl) ?_
          refine hpa_ior (by rfl) ?_
          refine hpa_s1 (by rfl) (Or.inl ⟨_, rfl, rfl⟩) rfl ?_
          refine hpj_iinc (by rfl) rfl ck hk_1 (by omega) (by omega) (fun _ => rfl) (fun z5 ez5 => ?_)
          refine hpa_goto (by rfl) ?_
          exact ih4 z5 ((Int32.ofNat (huBn (huWm ro) k)) ||| ((Int32.ofNat 1) <<< ((Int32.ofNat k) &&& 31))) (k + 1) (by omega) (huI (by omega) (by omega)) (huBn_or (by omega) (huWm_y q3))
  refine hpa_iconst (by rfl) rfl ?_
  refine hpa_s1 (by rfl) (Or.inl ⟨_, rfl, rfl⟩) rfl ?_
  refine hpa_iconst (by rfl) rfl ?_
  refine hpa_s1 (by rfl) (Or.inl ⟨_, rfl, rfl⟩) rfl ?_
  exact L4 _ (Int32.ofNat 0) (Int32.ofNat 0) 0 (by omega) rfl rfl
theorem hP31_26 {g d : Nat} {A : hs_A} {ro : Nat → Int32} {n : Nat} (hL : hdL 26 ro n A) : hpC g d 31 hm_m31 [.ref 27] A (fun r A' => A = A' ∧ ∃ z : Int32, r = some (.int z) ∧ z = Int32.ofNat (huBn (huWm ro) n)) := hpC.all (fun f d => hW31_26 hL (fun r A' h => h))
theorem hW29_26 {g d f : Nat} {A : hs_A} {ro : Nat → Int32} {n : Nat} (hL : hdL 26 ro n A) {P : Option Value → hs_A → Prop} (hP : ∀ (r : Option Value) (A' : hs_A), (A = A' ∧ ∃ z : Int32, r = some (.int z) ∧ z = Int32.ofNat (huBn (huMn ro) n)) → P r A') : hpa (f, g) d (some (.int)) hm_t29 0 [.ref 27, .retAddr 0, .retAddr 0] [] A P := by
  have k0 := hk_0
  have k1 := hk_1
  have hn10 := hL.1
  have L4 : ∀ (f : Nat) (x4_2 : Int32) (x4_1 : Int32) (k : Nat) (bk : k ≤ n) (ek : x4_2 = Int32.ofNat k) (x4e1 : x4_1 = Int32.ofNat (huBn (huMn ro) k)), hpa (f, g) d (some (.int)) hm_t29 4 [.ref 27, .int x4_1, .int x4_2] [] A P := by
    intro f
    induction f with
    | zero => intros; exact hpa.zero
    | succ f ih4 =>
      intro x4_2 x4_1 k bk ek x4e1
      subst ek
      have ck := hn_c (n := k) (z := Int32.ofNat k) rfl (by omega)
      subst x4e1
      refine hpa_iload_nS (by rfl) rfl ?_
      refine hpa_aload_n (by rfl) rfl ?_
      refine hpj_getK (by rfl) (by rfl) (by rfl) rfl ?_
      refine hpj_cge (by rfl) ck hL.2.1 (fun q1 => ?_) (fun q1 => ?_)
      ·
        refine hpa_iload_n (by rfl) rfl ?_
        exact hpa_ireturn (by rfl) rfl (hP _ _ ⟨rfl, _, rfl, by rw [show k = n by omega]⟩)
      ·
        refine hpa_aload_n (by rfl) rfl ?_
        refine hpa_get (v := .ref 33) (by rfl) (by rfl) (by rfl) rfl ?_
        refine hpa_iload_n (by rfl) rfl ?_
        refine hpx_iald (by rfl) (by rfl) (fun h0v2 h1v2 v2 ev2 => ?_)
        rw [show ((Int32.ofNat k)).toNatClampNeg = k from by have := hn_cn (j := (Int32.ofNat k)) (by omega); omega] at ev2
        have lv2 := ev2.symm.trans ((hL.2.2.2.2 (k) (by omega)).2.2.2)
        clear ev2
        subst lv2
        refine hpj_zle (by rfl) rfl (fun q3 => ?_) (fun q3 => ?_)
        ·
          refine hpj_iinc (by rfl) rfl ck hk_1 (by omega) (by omega) (fun _ => rfl) (fun z4 ez4 => ?_)
          refine hpa_goto (by rfl) ?_
          exact ih4 z4 (Int32.ofNat (huBn (huMn ro) k)) (k + 1) (by omega) (huI (by omega) (by omega)) (by rw [huBn_n (decide_eq_false (by omega))])
        ·
          refine hpa_iload_n (by rfl) rfl ?_
          refine hpa_iconst (by rfl) rfl ?_
          refine hpa_iload_n (by rfl) rfl ?_
          refine hpa_ishl (by rfl) ?_
          refine hpa_ior (by rfl) ?_
          refine hpa_s1 (by rfl) (Or.inl ⟨_, rfl, rfl⟩) rfl ?_
          refine hpj_iinc (by rfl) rfl ck hk_1 (by omega) (by omega) (fun _ => rfl) (fun z5 ez5 => ?_)
          refine hpa_goto (by rfl) ?_
          exact ih4 z5 ((Int32.ofNat (huBn (huMn ro) k)) ||| ((Int32.ofNat 1) <<< ((Int32.ofNat k) &&& 31))) (k + 1) (by omega) (huI (by omega) (by omega)) (huBn_or (by omega) (decide_eq_true (by omega)))
  refine hpa_iconst (by rfl) rfl ?_
  refine hpa_s1 (by rfl) (Or.inl ⟨_, rfl, rfl⟩) rfl ?_
  refine hpa_iconst (by rfl) rfl ?_
  refine hpa_s1 (by rfl) (Or.inl ⟨_, rfl, rfl⟩) rfl ?_
  exact L4 _ (Int32.ofNat 0) (Int32.ofNat 0) 0 (by omega) rfl rfl
theorem hP29_26 {g d : Nat} {A : hs_A} {ro : Nat → Int32} {n : Nat} (hL : hdL 26 ro n A) : hpC g d 29 hm_m29 [.ref 27] A (fun r A' => A = A' ∧ ∃ z : Int32, r = some (.int z) ∧ z = Int32.ofNat (huBn (huMn ro) n)) := hpC.all (fun f d => hW29_26 hL (fun r A' h => h))
theorem hW30_26 {g d f : Nat} {A : hs_A} {ro : Nat → Int32} {n : Nat} (hL : hdL 26 ro n A) (hO : huO ro n) {P : Option Value → hs_A → Prop} (hP : ∀ (r : Option Value) (A' : hs_A), (A = A' ∧ ∃ z : Int32, r = some (.int z) ∧ z = Int32.ofNat (huBn (huCn ro) n)) → P r A') : hpa (f, g) d (some (.int)) hm_t30 0 [.ref 27, .retAddr 0, .retAddr 0] [] A P := by
  have k0 := hk_0
  have k1 := hk_1
  have hn10 := hL.1
  have L4 : ∀ (f : Nat) (x4_2 : Int32) (x4_1 : Int32) (k : Nat) (bk : k ≤ n) (ek : x4_2 = Int32.ofNat k) (x4e1 : x4_1 = Int32.ofNat (huBn (huCn ro) k)), hpa (f, g) d (some (.int)) hm_t30 4 [.ref 27, .int x4_1, .int x4_2] [] A P := by
    intro f
    induction f with
    | zero => intros; exact hpa.zero
    | succ f ih4 =>
      intro x4_2 x4_1 k bk ek x4e1
      subst ek
      have ck := hn_c (n := k) (z := Int32.ofNat k) rfl (by omega)
      subst x4e1
      refine hpa_iload_nS (by rfl) rfl ?_
      refine hpa_aload_n (by rfl) rfl ?_
      refine hpj_getK (by rfl) (by rfl) (by rfl) rfl ?_
      refine hpj_cge (by rfl) ck hL.2.1 (fun q1 => ?_) (fun q1 => ?_)
      ·
        refine hpa_iload_n (by rfl) rfl ?_
        exact hpa_ireturn (by rfl) rfl (hP _ _ ⟨rfl, _, rfl, by rw [show k = n by omega]⟩)
      ·
        refine hpa_aload_n (by rfl) rfl ?_
        refine hpa_iload_n (by rfl) rfl ?_
        refine hpa_call0 (by rfl) (by rfl) (by rfl) (by rfl) (by rfl) (by rfl) (hP21_26 (h := k) (Int32.ofNat k) hL (by omega) rfl) ?_
        rintro _ _ ⟨rfl, z3, rfl, Z_A2⟩
        subst Z_A2
        refine hpj_zne (by rfl) rfl (fun q4 => ?_) (fun q4 => ?_)
        ·
          refine hpj_iinc (by rfl) rfl ck hk_1 (by omega) (by omega) (fun _ => rfl) (fun z5 ez5 => ?_)
          refine hpa_goto (by rfl) ?_
          exact ih4 z5 (Int32.ofNat (huBn (huCn ro) k)) (k + 1) (by omega) (huI (by omega) (by omega)) (by rw [huBn_n (huCn_n (hO.1 k (by omega)).2.2.2.2 q4)])
        ·
          refine hpa_iload_n (by rfl) rfl ?_
          refine hpa_iconst (by rfl) rfl ?_
          refine hpa_iload_n (by rfl) rfl ?_
          refine hpa_ishl (by rfl) ?_
          refine hpa_ior (by rfl) ?_
          refine hpa_s1 (by rfl) (Or.inl ⟨_, rfl, rfl⟩) rfl ?_
          refine hpj_iinc (by rfl) rfl ck hk_1 (by omega) (by omega) (fun _ => rfl) (fun z6 ez6 => ?_)
          refine hpa_goto (by rfl) ?_
          exact ih4 z6 ((Int32.ofNat (huBn (huCn ro) k)) ||| ((Int32.ofNat 1) <<< ((Int32.ofNat k) &&& 31))) (k + 1) (by omega) (huI (by omega) (by omega)) (huBn_or (by omega) (huCn_y (hO.1 k (by omega)).2.2.2.2 q4))
  refine hpa_iconst (by rfl) rfl ?_
  refine hpa_s1 (by rfl) (Or.inl ⟨_, rfl, rfl⟩) rfl ?_
  refine hpa_iconst (by rfl) rfl ?_
  refine hpa_s1 (by rfl) (Or.inl ⟨_, rfl, rfl⟩) rfl ?_
  exact L4 _ (Int32.ofNat 0) (Int32.ofNat 0) 0 (by omega) rfl rfl
theorem hP30_26 {g d : Nat} {A : hs_A} {ro : Nat → Int32} {n : Nat} (hL : hdL 26 ro n A) (hO : huO ro n) : hpC g d 30 hm_m30 [.ref 27] A (fun r A' => A = A' ∧ ∃ z : Int32, r = some (.int z) ∧ z = Int32.ofNat (huBn (huCn ro) n)) := hpC.all (fun f d => hW30_26 hL hO (fun r A' h => h))
theorem hW31_33 {g d f : Nat} {A : hs_A} {ro : Nat → Int32} {n : Nat} (hL : hdL 33 ro n A) {P : Option Value → hs_A → Prop} (hP : ∀ (r : Option Value) (A' : hs_A), (A = A' ∧ ∃ z : Int32, r = some (.int z) ∧ z = Int32.ofNat (huBn (huWm ro) n)) → P r A') : hpa (f, g) d (some (.int)) hm_t31 0 [.ref 34, .retAddr 0, .retAddr 0] [] A P := by
  have k0 := hk_0
  have k1 := hk_1
  have hn10 := hL.1
  have L4 : ∀ (f : Nat) (x4_2 : Int32) (x4_1 : Int32) (k : Nat) (bk : k ≤ n) (ek : x4_2 = Int32.ofNat k) (x4e1 : x4_1 = Int32.ofNat (huBn (huWm ro) k)), hpa (f, g) d (some (.int)) hm_t31 4 [.ref 34, .int x4_1, .int x4_2] [] A P := by
    intro f
    induction f with
    | zero => intros; exact hpa.zero
    | succ f ih4 =>
      intro x4_2 x4_1 k bk ek x4e1
      subst ek
      have ck := hn_c (n := k) (z := Int32.ofNat k) rfl (by omega)
      subst x4e1
      refine hpa_iload_nS (by rfl) rfl ?_
      refine hpa_aload_n (by rfl) rfl ?_
      refine hpj_getK (by rfl) (by rfl) (by rfl) rfl ?_
      refine hpj_cge (by rfl) ck hL.2.1 (fun q1 => ?_) (fun q1 => ?_)
      ·
        refine hpa_iload_n (by rfl) rfl ?_
        exact hpa_ireturn (by rfl) rfl (hP _ _ ⟨rfl, _, rfl, by rw [show k = n by omega]⟩)
      ·
        refine hpa_aload_n (by rfl) rfl ?_
        refine hpa_get (v := .ref 39) (by rfl) (by rfl) (by rfl) rfl ?_
        refine hpa_iload_n (by rfl) rfl ?_
        refine hpx_iald (by rfl) (by rfl) (fun h0v2 h1v2 v2 ev2 => ?_)
        rw [show ((Int32.ofNat k)).toNatClampNeg = k from by have := hn_cn (j := (Int32.ofNat k)) (by omega); omega] at ev2
        have lv2 := ev2.symm.trans ((hL.2.2.2.2 (k) (by omega)).2.2.1)
        clear ev2
        subst lv2
        refine hpj_zeq (by rfl) rfl (fun q3 => ?_) (fun q3 => ?_)
        ·
          refine hpj_iinc (by rfl) rfl ck hk_1 (by omega) (by omega) (fun _ => rfl) (fun z4 ez4 => ?_)
          refine hpa_goto (by rfl) ?_
          exact ih4 z4 (Int32.ofNat (huBn (huWm ro) k)) (k + 1) (by omega) (huI (by omega) (by omega)) (by rw [huBn_n (huWm_n q3)])
        ·
          refine hpa_iload_n (by rfl) rfl ?_
          refine hpa_iconst (by rfl) rfl ?_
          refine hpa_iload_n (by rfl) rfl ?_
          refine hpa_ishl (by rfl) ?_
          refine hpa_ior (by rfl) ?_
          refine hpa_s1 (by rfl) (Or.inl ⟨_, rfl, rfl⟩) rfl ?_
          refine hpj_iinc (by rfl) rfl ck hk_1 (by omega) (by omega) (fun _ => rfl) (fun z5 ez5 => ?_)
          refine hpa_goto (by rfl) ?_
          exact ih4 z5 ((Int32.ofNat (huBn (huWm ro) k)) ||| ((Int32.ofNat 1) <<< ((Int32.ofNat k) &&& 31))) (k + 1) (by omega) (huI (by omega) (by omega)) (huBn_or (by omega) (huWm_y q3))
  refine hpa_iconst (by rfl) rfl ?_
  refine hpa_s1 (by rfl) (Or.inl ⟨_, rfl, rfl⟩) rfl ?_
  refine hpa_iconst (by rfl) rfl ?_
  refine hpa_s1 (by rfl) (Or.inl ⟨_, rfl, rfl⟩) rfl ?_
  exact L4 _ (Int32.ofNat 0) (Int32.ofNat 0) 0 (by omega) rfl rfl
theorem hP31_33 {g d : Nat} {A : hs_A} {ro : Nat → Int32} {n : Nat} (hL : hdL 33 ro n A) : hpC g d 31 hm_m31 [.ref 34] A (fun r A' => A = A' ∧ ∃ z : Int32, r = some (.int z) ∧ z = Int32.ofNat (huBn (huWm ro) n)) := hpC.all (fun f d => hW31_33 hL (fun r A' h => h))
theorem hW29_33 {g d f : Nat} {A : hs_A} {ro : Nat → Int32} {n : Nat} (hL : hdL 33 ro n A) {P : Option Value → hs_A → Prop} (hP : ∀ (r : Option Value) (A' : hs_A), (A = A' ∧ ∃ z : Int32, r = some (.int z) ∧ z = Int32.ofNat (huBn (huMn ro) n)) → P r A') : hpa (f, g) d (some (.int)) hm_t29 0 [.ref 34, .retAddr 0, .retAddr 0] [] A P := by
  have k0 := hk_0
  have k1 := hk_1
  have hn10 := hL.1
  have L4 : ∀ (f : Nat) (x4_2 : Int32) (x4_1 : Int32) (k : Nat) (bk : k ≤ n) (ek : x4_2 = Int32.ofNat k) (x4e1 : x4_1 = Int32.ofNat (huBn (huMn ro) k)), hpa (f, g) d (some (.int)) hm_t29 4 [.ref 34, .int x4_1, .int x4_2] [] A P := by
    intro f
    induction f with
    | zero => intros; exact hpa.zero
    | succ f ih4 =>
      intro x4_2 x4_1 k bk ek x4e1
      subst ek
      have ck := hn_c (n := k) (z := Int32.ofNat k) rfl (by omega)
      subst x4e1
      refine hpa_iload_nS (by rfl) rfl ?_
      refine hpa_aload_n (by rfl) rfl ?_
      refine hpj_getK (by rfl) (by rfl) (by rfl) rfl ?_
      refine hpj_cge (by rfl) ck hL.2.1 (fun q1 => ?_) (fun q1 => ?_)
      ·
        refine hpa_iload_n (by rfl) rfl ?_
        exact hpa_ireturn (by rfl) rfl (hP _ _ ⟨rfl, _, rfl, by rw [show k = n by omega]⟩)
      ·
        refine hpa_aload_n (by rfl) rfl ?_
        refine hpa_get (v := .ref 40) (by rfl) (by rfl) (by rfl) rfl ?_
        refine hpa_iload_n (by rfl) rfl ?_
        refine hpx_iald (by rfl) (by rfl) (fun h0v2 h1v2 v2 ev2 => ?_)
        rw [show ((Int32.ofNat k)).toNatClampNeg = k from by have := hn_cn (j := (Int32.ofNat k)) (by omega); omega] at ev2
        have lv2 := ev2.symm.trans ((hL.2.2.2.2 (k) (by omega)).2.2.2)
        clear ev2
        subst lv2
        refine hpj_zle (by rfl) rfl (fun q3 => ?_) (fun q3 => ?_)
        ·
          refine hpj_iinc (by rfl) rfl ck hk_1 (by omega) (by omega) (fun _ => rfl) (fun z4 ez4 => ?_)
          refine hpa_goto (by rfl) ?_
          exact ih4 z4 (Int32.ofNat (huBn (huMn ro) k)) (k + 1) (by omega) (huI (by omega) (by omega)) (by rw [huBn_n (decide_eq_false (by omega))])
        ·
          refine hpa_iload_n (by rfl) rfl ?_
          refine hpa_iconst (by rfl) rfl ?_
          refine hpa_iload_n (by rfl) rfl ?_
          refine hpa_ishl (by rfl) ?_
          refine hpa_ior (by rfl) ?_
          refine hpa_s1 (by rfl) (Or.inl ⟨_, rfl, rfl⟩) rfl ?_
          refine hpj_iinc (by rfl) rfl ck hk_1 (by omega) (by omega) (fun _ => rfl) (fun z5 ez5 => ?_)
          refine hpa_goto (by rfl) ?_
          exact ih4 z5 ((Int32.ofNat (huBn (huMn ro) k)) ||| ((Int32.ofNat 1) <<< ((Int32.ofNat k) &&& 31))) (k + 1) (by omega) (huI (by omega) (by omega)) (huBn_or (by omega) (decide_eq_true (by omega)))
  refine hpa_iconst (by rfl) rfl ?_
  refine hpa_s1 (by rfl) (Or.inl ⟨_, rfl, rfl⟩) rfl ?_
  refine hpa_iconst (by rfl) rfl ?_
  refine hpa_s1 (by rfl) (Or.inl ⟨_, rfl, rfl⟩) rfl ?_
  exact L4 _ (Int32.ofNat 0) (Int32.ofNat 0) 0 (by omega) rfl rfl
theorem hP29_33 {g d : Nat} {A : hs_A} {ro : Nat → Int32} {n : Nat} (hL : hdL 33 ro n A) : hpC g d 29 hm_m29 [.ref 34] A (fun r A' => A = A' ∧ ∃ z : Int32, r = some (.int z) ∧ z = Int32.ofNat (huBn (huMn ro) n)) := hpC.all (fun f d => hW29_33 hL (fun r A' h => h))
theorem hW30_33 {g d f : Nat} {A : hs_A} {ro : Nat → Int32} {n : Nat} (hL : hdL 33 ro n A) (hO : huO ro n) {P : Option Value → hs_A → Prop} (hP : ∀ (r : Option Value) (A' : hs_A), (A = A' ∧ ∃ z : Int32, r = some (.int z) ∧ z = Int32.ofNat (huBn (huCn ro) n)) → P r A') : hpa (f, g) d (some (.int)) hm_t30 0 [.ref 34, .retAddr 0, .retAddr 0] [] A P := by
  have k0 := hk_0
  have k1 := hk_1
  have hn10 := hL.1
  have L4 : ∀ (f : Nat) (x4_2 : Int32) (x4_1 : Int32) (k : Nat) (bk : k ≤ n) (ek : x4_2 = Int32.ofNat k) (x4e1 : x4_1 = Int32.ofNat (huBn (huCn ro) k)), hpa (f, g) d (some (.int)) hm_t30 4 [.ref 34, .int x4_1, .int x4_2] [] A P := by
    intro f
    induction f with
    | zero => intros; exact hpa.zero
    | succ f ih4 =>
      intro x4_2 x4_1 k bk ek x4e1
      subst ek
      have ck := hn_c (n := k) (z := Int32.ofNat k) rfl (by omega)
      subst x4e1
      refine hpa_iload_nS (by rfl) rfl ?_
      refine hpa_aload_n (by rfl) rfl ?_
      refine hpj_getK (by rfl) (by rfl) (by rfl) rfl ?_
      refine hpj_cge (by rfl) ck hL.2.1 (fun q1 => ?_) (fun q1 => ?_)
      ·
        refine hpa_iload_n (by rfl) rfl ?_
        exact hpa_ireturn (by rfl) rfl (hP _ _ ⟨rfl, _, rfl, by rw [show k = n by omega]⟩)
      ·
        refine hpa_aload_n (by rfl) rfl ?_
        refine hpa_iload_n (by rfl) rfl ?_
        refine hpa_call0 (by rfl) (by rfl) (by rfl) (by rfl) (by rfl) (by rfl) (hP21_33 (h := k) (Int32.ofNat k) hL (by omega) rfl) ?_
        rintro _ _ ⟨rfl, z3, rfl, Z_A2⟩
        subst Z_A2
        refine hpj_zne (by rfl) rfl (fun q4 => ?_) (fun q4 => ?_)
        ·
          refine hpj_iinc (by rfl) rfl ck hk_1 (by omega) (by omega) (fun _ => rfl) (fun z5 ez5 => ?_)
          refine hpa_goto (by rfl) ?_
          exact ih4 z5 (Int32.ofNat (huBn (huCn ro) k)) (k + 1) (by omega) (huI (by omega) (by omega)) (by rw [huBn_n (huCn_n (hO.1 k (by omega)).2.2.2.2 q4)])
        ·
          refine hpa_iload_n (by rfl) rfl ?_
          refine hpa_iconst (by rfl) rfl ?_
          refine hpa_iload_n (by rfl) rfl ?_
          refine hpa_ishl (by rfl) ?_
          refine hpa_ior (by rfl) ?_
          refine hpa_s1 (by rfl) (Or.inl ⟨_, rfl, rfl⟩) rfl ?_
          refine hpj_iinc (by rfl) rfl ck hk_1 (by omega) (by omega) (fun _ => rfl) (fun z6 ez6 => ?_)
          refine hpa_goto (by rfl) ?_
          exact ih4 z6 ((Int32.ofNat (huBn (huCn ro) k)) ||| ((Int32.ofNat 1) <<< ((Int32.ofNat k) &&& 31))) (k + 1) (by omega) (huI (by omega) (by omega)) (huBn_or (by omega) (huCn_y (hO.1 k (by omega)).2.2.2.2 q4))
  refine hpa_iconst (by rfl) rfl ?_
  refine hpa_s1 (by rfl) (Or.inl ⟨_, rfl, rfl⟩) rfl ?_
  refine hpa_iconst (by rfl) rfl ?_
  refine hpa_s1 (by rfl) (Or.inl ⟨_, rfl, rfl⟩) rfl ?_
  exact L4 _ (Int32.ofNat 0) (Int32.ofNat 0) 0 (by omega) rfl rfl
theorem hP30_33 {g d : Nat} {A : hs_A} {ro : Nat → Int32} {n : Nat} (hL : hdL 33 ro n A) (hO : huO ro n) : hpC g d 30 hm_m30 [.ref 34] A (fun r A' => A = A' ∧ ∃ z : Int32, r = some (.int z) ∧ z = Int32.ofNat (huBn (huCn ro) n)) := hpC.all (fun f d => hW30_33 hL hO (fun r A' h => h))
theorem hW17_33 {g d f : Nat} {A : hs_A}  {P : Option Value → hs_A → Prop} (hP : ∀ (r : Option Value) (A' : hs_A), (r = none ∧ ((hCp 33 26 A A'))) → P r A') : hpa (f, g) d none hm_t17 0 [.ref 34, .ref 27] [] A P := by
  have k0 := hk_0
  have k10 := hk_10
  refine hpa_aload_n (by rfl) rfl ?_
  refine hpa_aload_n (by rfl) rfl ?_
  refine hpj_getK (by rfl) (by rfl) (by rfl) rfl ?_
  refine hpj_putI (by rfl) (by rfl) (by rfl) (by rfl) (fun A1 eA1 fA1 => ?_)
  refine hpa_aload_n (by rfl) rfl ?_
  refine hpa_aload_n (by rfl) rfl ?_
  refine hpj_getK (by rfl) (by rfl) (by rfl) rfl ?_
  refine hpj_putI (by rfl) (by rfl) (by rfl) (by rfl) (fun A2 eA2 fA2 => ?_)
  refine hpa_aload_n (by rfl) rfl ?_
  refine hpa_aload_n (by rfl) rfl ?_
  refine hpj_getK (by rfl) (by rfl) (by rfl) rfl ?_
  refine hpj_putI (by rfl) (by rfl) (by rfl) (by rfl) (fun A3 eA3 fA3 => ?_)
  refine hpa_aload_n (by rfl) rfl ?_
  refine hpa_aload_n (by rfl) rfl ?_
  refine hpj_getK (by rfl) (by rfl) (by rfl) rfl ?_
  refine hpj_putI (by rfl) (by rfl) (by rfl) (by rfl) (fun A4 eA4 fA4 => ?_)
  refine hpa_aload_n (by rfl) rfl ?_
  refine hpa_aload_n (by rfl) rfl ?_
  refine hpj_getK (by rfl) (by rfl) (by rfl) rfl ?_
  refine hpj_putI (by rfl) (by rfl) (by rfl) (by rfl) (fun A5 eA5 fA5 => ?_)
  refine hpa_aload_n (by rfl) rfl ?_
  refine hpa_get (v := .ref 28) (by rfl) (by rfl) (by rfl) rfl ?_
  refine hpa_iconst (by rfl) rfl ?_
  refine hpa_aload_n (by rfl) rfl ?_
  refine hpa_get (v := .ref 35) (by rfl) (by rfl) (by rfl) rfl ?_
  refine hpa_iconst (by rfl) rfl ?_
  refine hpa_bipush (by rfl) rfl ?_
  refine hpx_copy (by rfl) (by rfl) (by rfl) (by decide) (by decide) (by rfl) (fun A6 eA6 fA6 gA6 => ?_)
  refine hpa_aload_n (by rfl) rfl ?_
  refine hpa_get (v := .ref 29) (by rfl) (by rfl) (by rfl) rfl ?_
  refine hpa_iconst (by rfl) rfl ?_
  refine hpa_aload_n (by rfl) rfl ?_
  refine hpa_get (v := .ref 36) (by rfl) (by rfl) (by rfl) rfl ?_
  refine hpa_iconst (by rfl) rfl ?_
  refine hpa_bipush (by rfl) rfl ?_
  refine hpx_copy (by rfl) (by rfl) (by rfl) (by decide) (by decide) (by rfl) (fun A7 eA7 fA7 gA7 => ?_)
  refine hpa_aload_n (by rfl) rfl ?_
  refine hpa_get (v := .ref 30) (by rfl) (by rfl) (by rfl) rfl ?_
  refine hpa_iconst (by rfl) rfl ?_
  refine hpa_aload_n (by rfl) rfl ?_
  refine hpa_get (v := .ref 37) (by rfl) (by rfl) (by rfl) rfl ?_
  refine hpa_iconst (by rfl) rfl ?_
  refine hpa_bipush (by rfl) rfl ?_
  refine hpx_copy (by rfl) (by rfl) (by rfl) (by decide) (by decide) (by rfl) (fun A8 eA8 fA8 gA8 => ?_)
  refine hpa_aload_n (by rfl) rfl ?_
  refine hpa_get (v := .ref 31) (by rfl) (by rfl) (by rfl) rfl ?_
  refine hpa_iconst (by rfl) rfl ?_
  refine hpa_aload_n (by rfl) rfl ?_
  refine hpa_get (v := .ref 38) (by rfl) (by rfl) (by rfl) rfl ?_
  refine hpa_iconst (by rfl) rfl ?_
  refine hpa_bipush (by rfl) rfl ?_
  refine hpx_copy (by rfl) (by rfl) (by rfl) (by decide) (by decide) (by rfl) (fun A9 eA9 fA9 gA9 => ?_)
  refine hpa_aload_n (by rfl) rfl ?_
  refine hpa_get (v := .ref 32) (by rfl) (by rfl) (by rfl) rfl ?_
  refine hpa_iconst (by rfl) rfl ?_
  refine hpa_aload_n (by rfl) rfl ?_
  refine hpa_get (v := .ref 39) (by rfl) (by rfl) (by rfl) rfl ?_
  refine hpa_iconst (by rfl) rfl ?_
  refine hpa_bipush (by rfl) rfl ?_
  refine hpx_copy (by rfl) (by rfl) (by rfl) (by decide) (by decide) (by rfl) (fun A10 eA10 fA10 gA10 => ?_)
  refine hpa_aload_n (by rfl) rfl ?_
  refine hpa_get (v := .ref 33) (by rfl) (by rfl) (by rfl) rfl ?_
  refine hpa_iconst (by rfl) rfl ?_
  refine hpa_aload_n (by rfl) rfl ?_
  refine hpa_get (v := .ref 40) (by rfl) (by rfl) (by rfl) rfl ?_
  refine hpa_iconst (by rfl) rfl ?_
  refine hpa_bipush (by rfl) rfl ?_
  refine hpx_copy (by rfl) (by rfl) (by rfl) (by decide) (by decide) (by rfl) (fun A11 eA11 fA11 gA11 => ?_)
  exact hpa_return (by rfl) rfl (hP _ _ ⟨rfl, hCp_mk (Or.inl (by decide)) rfl eA1 fA1 rfl eA2 fA2 rfl eA3 fA3 rfl eA4 fA4 rfl eA5 fA5 eA6 fA6 gA6 eA7 fA7 gA7 eA8 fA8 gA8 eA9 fA9 gA9 eA10 fA10 gA10 eA11 fA11 gA11⟩)
theorem hP17_33 {g d : Nat} {A : hs_A}  : hpC g d 17 hm_m17 [.ref 34, .ref 27] A (fun r A' => r = none ∧ ((hCp 33 26 A A'))) := hpC.all (fun f d => hW17_33  (fun r A' h => h))
def uM107 : Nat := 323519758526442653765592515450834468691971158576829361683946015294464
theorem hW107 {g d f : Nat} {A : hs_A} {T n m : Nat} {D : hg_D} {ro : Nat → Int32} {b : Bool} (a1 a2 a3 : Int32) (hT : hTT T) (h3 : A.2.2.2 0 3 = T + 1) (hTn : (A.1 T 4).toInt = (n : Int)) (hC : hdK T D A) (hL : hdL 26 ro n A) (hO : huO ro n) (hD : ∀ t, t < 24 → 0 ≤ D.1 t ∧ D.1 t ≤ 255) (hD2 : 0 ≤ D.2.1 ∧ D.2.1 ≤ 10000) (hb : a2.toInt = if b then 1 else 0) (ha : a1.toInt = (m : Int)) (h70m : (ro 70).toInt + (m : Int) ≤ 2000000) (hH0 : uf_H A) {P : Option Value → hs_A → Prop} (hP : ∀ (r : Option Value) (A' : hs_A), (r = none ∧ (hdL 33 (huY D n b a3 m ro) n A')) → P r A') : hpa (f, g) d none hm_t107 0 [.ref 1, .int a1, .int a2, .int a3, .retAddr 0] [] A P := by
  have k0 := hk_0
  have k1 := hk_1
  have hT9 : T ≤ 11 := by rcases hT with rfl | rfl <;> omega
  have hn10 := hL.1
  have o70 := hO.2.1
  have U0 : uf_W uM107 A A := uf_W.rfl
  have L14 : ∀ (f : Nat) (x14_4 : Int32) (A14 : hs_A) (k : Nat) (bk : k ≤ m) (ek : x14_4 = Int32.ofNat k) (L33 : hdL 33 (huY D n b a3 k ro) n A14) (U14 : uf_W uM107 A A14) (H14 : uf_H A14), hpa (f, g) d none hm_t107 14 [.ref 1, .int a1, .int a2, .int a3, .int x14_4] [] A14 P := by
    intro f
    induction f with
    | zero => intros; exact hpa.zero
    | succ f ih14 =>
      intro x14_4 A14 k bk ek L33 U14 H14
      subst ek
      have ck := hn_c (n := k) (z := Int32.ofNat k) rfl (by omega)
      refine hpa_iloadS (by rfl) rfl ?_
      refine hpa_iload_n (by rfl) rfl ?_
      refine hpj_cge (by rfl) ck rfl (fun q1 => ?_) (fun q1 => ?_)
      ·
        exact hpa_return (by rfl) rfl (hP _ _ ⟨rfl, by rw [show m = k by omega]; exact L33⟩)
      ·
        refine hpa_aload_n (by rfl) rfl ?_
        refine hpa_get (v := .ref 34) (by rfl) (by rfl) (by rfl) rfl ?_
        refine hpa_aload_n (by rfl) rfl ?_
        have h3wA14 : A14.2.2.2 0 3 = T + 1 := (U14.2.2.2 0 _ _ 3 rfl rfl (by decide +kernel)).trans h3
        refine hpj_getT (by rfl) (by rfl) (by rfl) h3wA14 ?_
        refine hpa_aload_n (by rfl) rfl ?_
        refine hpa_get (v := .ref 324) (by rfl) (by rfl) (by rfl) rfl ?_
        refine hpa_iload_n (by rfl) rfl ?_
        refine hpa_iload_n (by rfl) rfl ?_
        have hCA14 : hdK T D A14 := hC.uf hT U14 (by decide +kernel)
        have hTnA14 : (A14.1 T 4).toInt = (n : Int) := (congrArg Int32.toInt (hdT4 U14 hT (by decide +kernel))).trans hTn
        refine hpa_call0 (by rfl) (by rfl) (by rfl) (by rfl) (by rfl) (by rfl) (uf_C (X := ug_x136) (j := 136) rfl rfl (ug_L.cons (uf_rk_ok (by decide +kernel)) (ug_L.cons (by rcases hT with rfl | rfl <;> exact uf_rk_ok (by decide +kernel)) (ug_L.cons (uf_rk_ok (by decide +kernel)) (uf_int (uf_int uf_nil))))) H14 (hP26_33 (b := b) a2 a3 hT hCA14 L33 (hO.I (b := b) (s := a3) hn10 hD hD2 k (by omega)).1 hD hD2 hb hTnA14 H14)) ?_
        rintro _ A2 ⟨⟨rfl, LL_A2⟩, wA2, HA2⟩
        have UA2 := (U14).trans (wA2.le (by decide +kernel : ug_wle ug_x136.2.2.2.1 uM107 = true))
        refine hpj_iinc (by rfl) rfl ck hk_1 (by omega) (by omega) (fun _ => rfl) (fun z3 ez3 => ?_)
        refine hpa_goto (by rfl) ?_
        exact ih14 z3 A2 (k + 1) (by omega) (huI (by omega) (by omega)) LL_A2 UA2 HA2
  refine hpa_aload_n (by rfl) rfl ?_
  refine hpa_get (v := .ref 34) (by rfl) (by rfl) (by rfl) rfl ?_
  refine hpa_aload_n (by rfl) rfl ?_
  refine hpa_get (v := .ref 27) (by rfl) (by rfl) (by rfl) rfl ?_
  refine hpa_call0 (by rfl) (by rfl) (by rfl) (by rfl) (by rfl) (by rfl) (uf_C (X := ug_x135) (j := 135) rfl rfl (ug_L.cons (uf_rk_ok (by decide +kernel)) (ug_L.cons (uf_rk_ok (by decide +kernel)) uf_nil)) hH0 (hP17_33 )) ?_
  rintro _ A4 ⟨⟨rfl, CP_A4⟩, wA4, HA4⟩
  have UA4 := (U0).trans (wA4.le (by decide +kernel : ug_wle ug_x135.2.2.2.1 uM107 = true))
  refine hpa_iconst (by rfl) rfl ?_
  refine hpa_s1 (by rfl) (Or.inr ⟨_, rfl, rfl⟩) rfl ?_
  exact L14 _ (Int32.ofNat 0) A4 0 (by omega) rfl (CP_A4.d hL) UA4 HA4
theorem hP107 {g d : Nat} {A : hs_A} {T n m : Nat} {D : hg_D} {ro : Nat → Int32} {b : Bool} (a1 a2 a3 : Int32) (hT : hTT T) (h3 : A.2.2.2 0 3 = T + 1) (hTn : (A.1 T 4).toInt = (n : Int)) (hC : hdK T D A) (hL : hdL 26 ro n A) (hO : huO ro n) (hD : ∀ t, t < 24 → 0 ≤ D.1 t ∧ D.1 t ≤ 255) (hD2 : 0 ≤ D.2.1 ∧ D.2.1 ≤ 10000) (hb : a2.toInt = if b then 1 else 0) (ha : a1.toInt = (m : Int)) (h70m : (ro 70).toInt + (m : Int) ≤ 2000000) (hH0 : uf_H A) : hpC g d 107 hm_m107 [.ref 1, .int a1, .int a2, .int a3] A (fun r A' => r = none ∧ (hdL 33 (huY D n b a3 m ro) n A')) := hpC.all (fun f d => hW107 a1 a2 a3 hT h3 hTn hC hL hO hD hD2 hb ha h70m hH0 (fun r A' h => h))
def uM110 : Nat := 323519758526442653765592515450834468691971158576829361683946015294464
theorem hW110 {g d f : Nat} {A : hs_A} {T n : Nat} {D : hg_D} {ro : Nat → Int32} (a1 : Int32) (hT : hTT T) (h3 : A.2.2.2 0 3 = T + 1) (hTn : (A.1 T 4).toInt = (n : Int)) (hC : hdK T D A) (hL : hdL 26 ro n A) (hO : huO ro n) (hD : ∀ t, t < 24 → 0 ≤ D.1 t ∧ D.1 t ≤ 255) (hD2 : 0 ≤ D.2.1 ∧ D.2.1 ≤ 10000) (h70 : (ro 70).toInt ≤ 1000000) (hH0 : uf_H A) {P : Option Value → hs_A → Prop} (hP : ∀ (r : Option Value) (A' : hs_A), (∃ z : Int32, r = some (.int z) ∧ huIf (0 ≤ a1.toInt ∧ a1.toInt ≤ 72) (Int32.ofNat (huCt (huWm (huY D n false (Int32.ofNat 0) a1.toNatClampNeg ro)) n)) z) → P r A') : hpa (f, g) d (some (.int)) hm_t110 0 [.ref 1, .int a1] [] A P := by
  have k0 := hk_0
  have k4294967295 := hk_4294967295
  have k72 := hk_72
  have hT9 : T ≤ 11 := by rcases hT with rfl | rfl <;> omega
  have hn10 := hL.1
  have o70 := hO.2.1
  have U0 : uf_W uM110 A A := uf_W.rfl
  refine hpa_iload_n (by rfl) rfl ?_
  refine hpa_iconst (by rfl) rfl ?_
  refine hpa_bipush (by rfl) rfl ?_
  refine hpa_call2 (by rfl) (by decide) (by rfl) (by rfl) (by rfl) (uf_C (X := ug_x100) (j := 100) rfl rfl (uf_int (uf_int (uf_int uf_nil))) hH0 (hP78 a1 (Int32.ofNat 0) (Int32.ofNat 72))) ?_
  rintro _ _ ⟨⟨rfl, z2, rfl, (⟨fz_A1, lo_A1, hi_A1⟩ | ⟨fz_A1, no_A1⟩)⟩, -, -⟩
  ·
    have c1 := hn_cn (j := a1) (by omega)
    refine hpj_zne (by rfl) rfl (fun q3 => ?_) (fun q3 => False.elim (by omega))
    refine hpa_aload_n (by rfl) rfl ?_
    refine hpa_iload_n (by rfl) rfl ?_
    refine hpa_iconst (by rfl) rfl ?_
    refine hpa_iconst (by rfl) rfl ?_
    refine hpa_call0 (by rfl) (by rfl) (by rfl) (by rfl) (by rfl) (by rfl) (uf_C (X := ug_x139) (j := 139) rfl rfl (ug_L.cons (uf_rk_ok (by decide +kernel)) (uf_int (uf_int (uf_int uf_nil)))) hH0 (hP107 (m := a1.toNatClampNeg) (b := false) a1 (Int32.ofNat 0) (Int32.ofNat 0) hT h3 hTn hC hL hO hD hD2 hk_0 (by omega) (by omega) hH0)) ?_
    rintro _ A4 ⟨⟨rfl, DL_A4⟩, wA4, HA4⟩
    have UA4 := (U0).trans (wA4.le (by decide +kernel : ug_wle ug_x139.2.2.2.1 uM110 = true))
    refine hpa_aload_n (by rfl) rfl ?_
    refine hpa_get (v := .ref 34) (by rfl) (by rfl) (by rfl) rfl ?_
    refine hpa_call0 (by rfl) (by rfl) (by rfl) (by rfl) (by rfl) (by rfl) (uf_C (X := ug_x149) (j := 149) rfl rfl (ug_L.cons (uf_rk_ok (by decide +kernel)) uf_nil) HA4 (hP31_33 (ro := (huY D n false (Int32.ofNat 0) a1.toNatClampNeg ro)) DL_A4)) ?_
    rintro _ _ ⟨⟨rfl, z6, rfl, Z_A5⟩, -, -⟩
    subst Z_A5
    refine hpa_call2 (by rfl) (by decide) (by rfl) (by rfl) (by rfl) (uf_C (X := ug_x108) (j := 108) rfl rfl (uf_int uf_nil) HA4 (hP242 (Int32.ofNat (huBn (huWm (huY D n false (Int32.ofNat 0) a1.toNatClampNeg ro)) n)) (huBn_in hn10).1 (huBn_in hn10).2)) ?_
    rintro _ _ ⟨⟨rfl, z8, rfl, Z_A7⟩, -, -⟩
    subst Z_A7
    exact hpa_ireturn (by rfl) rfl (hP _ _ ⟨_, rfl, Or.inl ⟨⟨by omega, by omega⟩, by rw [huB_bn n hn10]⟩⟩)
  ·
    refine hpj_zne (by rfl) rfl (fun q9 => False.elim (by omega)) (fun q9 => ?_)
    refine hpa_iconst (by rfl) rfl ?_
    exact hpa_ireturn (by rfl) rfl (hP _ _ ⟨_, rfl, Or.inr ⟨fun p => by omega, rfl⟩⟩)
theorem hP110 {g d : Nat} {A : hs_A} {T n : Nat} {D : hg_D} {ro : Nat → Int32} (a1 : Int32) (hT : hTT T) (h3 : A.2.2.2 0 3 = T + 1) (hTn : (A.1 T 4).toInt = (n : Int)) (hC : hdK T D A) (hL : hdL 26 ro n A) (hO : huO ro n) (hD : ∀ t, t < 24 → 0 ≤ D.1 t ∧ D.1 t ≤ 255) (hD2 : 0 ≤ D.2.1 ∧ D.2.1 ≤ 10000) (h70 : (ro 70).toInt ≤ 1000000) (hH0 : uf_H A) : hpC g d 110 hm_m110 [.ref 1, .int a1] A (fun r A' => ∃ z : Int32, r = some (.int z) ∧ huIf (0 ≤ a1.toInt ∧ a1.toInt ≤ 72) (Int32.ofNat (huCt (huWm (huY D n false (Int32.ofNat 0) a1.toNatClampNeg ro)) n)) z) := hpC.all (fun f d => hW110 a1 hT h3 hTn hC hL hO hD hD2 h70 hH0 (fun r A' h => h))
def uM115 : Nat := 323519758526442653765592515450834468691971158576829361683946015294464
theorem hW115 {g d f : Nat} {A : hs_A} {T n : Nat} {D : hg_D} {ro : Nat → Int32} (a1 : Int32) (hT : hTT T) (h3 : A.2.2.2 0 3 = T + 1) (hTn : (A.1 T 4).toInt = (n : Int)) (hC : hdK T D A) (hL : hdL 26 ro n A) (hO : huO ro n) (hD : ∀ t, t < 24 → 0 ≤ D.1 t ∧ D.1 t ≤ 255) (hD2 : 0 ≤ D.2.1 ∧ D.2.1 ≤ 10000) (hD3 : 0 ≤ D.2.2.1 ∧ D.2.2.1 ≤ 10000) (h70 : (ro 70).toInt ≤ 1000000) (hH0 : uf_H A) {P : Option Value → hs_A → Prop} (hP : ∀ (r : Option Value) (A' : hs_A), (∃ z : Int32, r = some (.int z) ∧ huIf (0 ≤ a1.toInt ∧ a1.toInt ≤ 72) (huB 10 (Int32.ofNat (huBn (huMn (huY D n true (Int32.ofInt D.2.2.1) a1.toNatClampNeg ro)) n))) z) → P r A') : hpa (f, g) d (some (.int)) hm_t115 0 [.ref 1, .int a1] [] A P := by
  have k0 := hk_0
  have k1 := hk_1
  have k4294967295 := hk_4294967295
  have k72 := hk_72
  have hT9 : T ≤ 11 := by rcases hT with rfl | rfl <;> omega
  have hn10 := hL.1
  have o70 := hO.2.1
  have U0 : uf_W uM115 A A := uf_W.rfl
  refine hpa_iload_n (by rfl) rfl ?_
  refine hpa_iconst (by rfl) rfl ?_
  refine hpa_bipush (by rfl) rfl ?_
  refine hpa_call2 (by rfl) (by decide) (by rfl) (by rfl) (by rfl) (uf_C (X := ug_x100) (j := 100) rfl rfl (uf_int (uf_int (uf_int uf_nil))) hH0 (hP78 a1 (Int32.ofNat 0) (Int32.ofNat 72))) ?_
  rintro _ _ ⟨⟨rfl, z2, rfl, (⟨fz_A1, lo_A1, hi_A1⟩ | ⟨fz_A1, no_A1⟩)⟩, -, -⟩
  ·
    have c1 := hn_cn (j := a1) (by omega)
    refine hpj_zne (by rfl) rfl (fun q3 => ?_) (fun q3 => False.elim (by omega))
    refine hpa_aload_n (by rfl) rfl ?_
    refine hpa_iload_n (by rfl) rfl ?_
    refine hpa_iconst (by rfl) rfl ?_
    refine hpa_aload_n (by rfl) rfl ?_
    refine hpj_getT (by rfl) (by rfl) (by rfl) h3 ?_
    refine hpj_getK (by rfl) (hsT hT) (by rfl) rfl ?_
    rw [show (A.1 T 7) = (Int32.ofInt D.2.2.1) from hdK.seed hC hD3]
    refine hpa_call0 (by rfl) (by rfl) (by rfl) (by rfl) (by rfl) (by rfl) (uf_C (X := ug_x139) (j := 139) rfl rfl (ug_L.cons (uf_rk_ok (by decide +kernel)) (uf_int (uf_int (uf_int uf_nil)))) hH0 (hP107 (m := a1.toNatClampNeg) (b := true) a1 (Int32.ofNat 1) (Int32.ofInt D.2.2.1) hT h3 hTn hC hL hO hD hD2 hk_1 (by omega) (by omega) hH0)) ?_
    rintro _ A4 ⟨⟨rfl, DL_A4⟩, wA4, HA4⟩
    have UA4 := (U0).trans (wA4.le (by decide +kernel : ug_wle ug_x139.2.2.2.1 uM115 = true))
    refine hpa_aload_n (by rfl) rfl ?_
    refine hpa_get (v := .ref 34) (by rfl) (by rfl) (by rfl) rfl ?_
    refine hpa_call0 (by rfl) (by rfl) (by rfl) (by rfl) (by rfl) (by rfl) (uf_C (X := ug_x152) (j := 152) rfl rfl (ug_L.cons (uf_rk_ok (by decide +kernel)) uf_nil) HA4 (hP29_33 (ro := (huY D n true (Int32.ofInt D.2.2.1) a1.toNatClampNeg ro)) DL_A4)) ?_
    rintro _ _ ⟨⟨rfl, z6, rfl, Z_A5⟩, -, -⟩
    subst Z_A5
    refine hpa_call2 (by rfl) (by decide) (by rfl) (by rfl) (by rfl) (uf_C (X := ug_x108) (j := 108) rfl rfl (uf_int uf_nil) HA4 (hP242 (Int32.ofNat (huBn (huMn (huY D n true (Int32.ofInt D.2.2.1) a1.toNatClampNeg ro)) n)) (huBn_in hn10).1 (huBn_in hn10).2)) ?_
    rintro _ _ ⟨⟨rfl, z8, rfl, Z_A7⟩, -, -⟩
    subst Z_A7
    exact hpa_ireturn (by rfl) rfl (hP _ _ ⟨_, rfl, Or.inl ⟨⟨by omega, by omega⟩, rfl⟩⟩)
  ·
    refine hpj_zne (by rfl) rfl (fun q9 => False.elim (by omega)) (fun q9 => ?_)
    refine hpa_iconst (by rfl) rfl ?_
    exact hpa_ireturn (by rfl) rfl (hP _ _ ⟨_, rfl, Or.inr ⟨fun p => by omega, rfl⟩⟩)
theorem hP115 {g d : Nat} {A : hs_A} {T n : Nat} {D : hg_D} {ro : Nat → Int32} (a1 : Int32) (hT : hTT T) (h3 : A.2.2.2 0 3 = T + 1) (hTn : (A.1 T 4).toInt = (n : Int)) (hC : hdK T D A) (hL : hdL 26 ro n A) (hO : huO ro n) (hD : ∀ t, t < 24 → 0 ≤ D.1 t ∧ D.1 t ≤ 255) (hD2 : 0 ≤ D.2.1 ∧ D.2.1 ≤ 10000) (hD3 : 0 ≤ D.2.2.1 ∧ D.2.2.1 ≤ 10000) (h70 : (ro 70).toInt ≤ 1000000) (hH0 : uf_H A) : hpC g d 115 hm_m115 [.ref 1, .int a1] A (fun r A' => ∃ z : Int32, r = some (.int z) ∧ huIf (0 ≤ a1.toInt ∧ a1.toInt ≤ 72) (huB 10 (Int32.ofNat (huBn (huMn (huY D n true (Int32.ofInt D.2.2.1) a1.toNatClampNeg ro)) n))) z) := hpC.all (fun f d => hW115 a1 hT h3 hTn hC hL hO hD hD2 hD3 h70 hH0 (fun r A' h => h))
/-- what then answers of the row y -/
def huTh (n : Nat) (y : Nat → Int32) (h w : Int32) : Int32 := if w.toInt = 0 then y (30 + h.toNatClampNeg) else if w.toInt = 1 then huB 10 (y (40 + h.toNatClampNeg)) else Int32.ofNat (huCt (huCn y) n)
def uM113 : Nat := 323519758526442653765592515450834468691971158576829361683946015294464
theorem hW113 {g d f : Nat} {A : hs_A} {T n : Nat} {D : hg_D} {ro : Nat → Int32} (a1 a2 a3 : Int32) (hT : hTT T) (h3 : A.2.2.2 0 3 = T + 1) (hTn : (A.1 T 4).toInt = (n : Int)) (hC : hdK T D A) (hL : hdL 26 ro n A) (hO : huO ro n) (hD : ∀ t, t < 24 → 0 ≤ D.1 t ∧ D.1 t ≤ 255) (hD2 : 0 ≤ D.2.1 ∧ D.2.1 ≤ 10000) (hD3 : 0 ≤ D.2.2.1 ∧ D.2.2.1 ≤ 10000) (h70 : (ro 70).toInt ≤ 1000000) (hH0 : uf_H A) {P : Option Value → hs_A → Prop} (hP : ∀ (r : Option Value) (A' : hs_A), (∃ z : Int32, r = some (.int z) ∧ huIf (0 ≤ a2.toInt ∧ a2.toInt ≤ 72 ∧ 0 ≤ a3.toInt ∧ a3.toInt ≤ 2 ∧ (a3.toInt = 2 ∨ 0 ≤ a1.toInt ∧ a1.toInt < (n : Int))) (huTh n (huY D n true (Int32.ofInt D.2.2.1) a2.toNatClampNeg ro) a1 a3) z) → P r A') : hpa (f, g) d (some (.int)) hm_t113 0 [.ref 1, .int a1, .int a2, .int a3] [] A P := by
  have k0 := hk_0
  have k1 := hk_1
  have k2 := hk_2
  have k4294967295 := hk_4294967295
  have k72 := hk_72
  have hT9 : T ≤ 11 := by rcases hT with rfl | rfl <;> omega
  have hn10 := hL.1
  have o70 := hO.2.1
  have U0 : uf_W uM113 A A := uf_W.rfl
  refine hpa_iload_n (by rfl) rfl ?_
  refine hpa_iconst (by rfl) rfl ?_
  refine hpa_bipush (by rfl) rfl ?_
  refine hpa_call2 (by rfl) (by decide) (by rfl) (by rfl) (by rfl) (uf_C (X := ug_x100) (j := 100) rfl rfl (uf_int (uf_int (uf_int uf_nil))) hH0 (hP78 a2 (Int32.ofNat 0) (Int32.ofNat 72))) ?_
  rintro _ _ ⟨⟨rfl, z2, rfl, (⟨fz_A1, lo_A1, hi_A1⟩ | ⟨fz_A1, no_A1⟩)⟩, -, -⟩
  ·
    have c2 := hn_cn (j := a2) (by omega)
    refine hpj_zeq (by rfl) rfl (fun q3 => False.elim (by omega)) (fun q3 => ?_)
    refine hpa_iload_n (by rfl) rfl ?_
    refine hpa_iconst (by rfl) rfl ?_
    refine hpa_iconst (by rfl) rfl ?_
    refine hpa_call2 (by rfl) (by decide) (by rfl) (by rfl) (by rfl) (uf_C (X := ug_x100) (j := 100) rfl rfl (uf_int (uf_int (uf_int uf_nil))) hH0 (hP78 a3 (Int32.ofNat 0) (Int32.ofNat 2))) ?_
    rintro _ _ ⟨⟨rfl, z5, rfl, (⟨fz_A4, lo_A4, hi_A4⟩ | ⟨fz_A4, no_A4⟩)⟩, -, -⟩
    ·
      refine hpj_zne (by rfl) rfl (fun q6 => ?_) (fun q6 => False.elim (by omega))
      refine hpa_iload_n (by rfl) rfl ?_
      refine hpa_iconst (by rfl) rfl ?_
      refine hpj_ceq (by rfl) rfl hk_2 (fun q7 => ?_) (fun q7 => ?_)
      ·
        refine hpa_aload_n (by rfl) rfl ?_
        refine hpa_iload_n (by rfl) rfl ?_
        refine hpa_iconst (by rfl) rfl ?_
        refine hpa_aload_n (by rfl) rfl ?_
        refine hpj_getT (by rfl) (by rfl) (by rfl) h3 ?_
        refine hpj_getK (by rfl) (hsT hT) (by rfl) rfl ?_
        rw [show (A.1 T 7) = (Int32.ofInt D.2.2.1) from hdK.seed hC hD3]
        refine hpa_call0 (by rfl) (by rfl) (by rfl) (by rfl) (by rfl) (by rfl) (uf_C (X := ug_x139) (j := 139) rfl rfl (ug_L.cons (uf_rk_ok (by decide +kernel)) (uf_int (uf_int (uf_int uf_nil)))) hH0 (hP107 (m := a2.toNatClampNeg) (b := true) a2 (Int32.ofNat 1) (Int32.ofInt D.2.2.1) hT h3 hTn hC hL hO hD hD2 hk_1 (by omega) (by omega) hH0)) ?_
        rintro _ A8 ⟨⟨rfl, DL_A8⟩, wA8, HA8⟩
        have UA8 := (U0).trans (wA8.le (by decide +kernel : ug_wle ug_x139.2.2.2.1 uM113 = true))
        have OY := (hO.I (b := true) (s := (Int32.ofInt D.2.2.1)) hn10 hD hD2 a2.toNatClampNeg (by omega)).1
        refine hpa_iload_n (by rfl) rfl ?_
        refine hpa_iconst (by rfl) rfl ?_
        refine hpj_cne (by rfl) rfl hk_2 (fun q9 => ?_) (fun q9 => ?_)
        ·
          refine hpa_iload_n (by rfl) rfl ?_
          refine hpj_zne (by rfl) rfl (fun q10 => ?_) (fun q10 => ?_)
          ·
            refine hpa_aload_n (by rfl) rfl ?_
            refine hpa_get (v := .ref 34) (by rfl) (by rfl) (by rfl) rfl ?_
            refine hpa_get (v := .ref 37) (by rfl) (by rfl) (by rfl) rfl ?_
            refine hpa_iload_n (by rfl) rfl ?_
            refine hpx_iald (by rfl) (by rfl) (fun h0v11 h1v11 v11 ev11 => ?_)
            rw [show (a1).toNatClampNeg = a1.toNatClampNeg from by have := hn_cn (j := a1) (by omega); omega] at ev11
            have lv11 := ev11.symm.trans ((DL_A8.2.2.2.2 (a1.toNatClampNeg) (by omega)).1.2.2)
            clear ev11
            subst lv11
            have b40 := (OY.1 a1.toNatClampNeg (by omega)).2.1
            refine hpa_call2 (by rfl) (by decide) (by rfl) (by rfl) (by rfl) (uf_C (X := ug_x108) (j := 108) rfl rfl (uf_int uf_nil) HA8 (hP242 ((huY D n true (Int32.ofInt D.2.2.1) a2.toNatClampNeg ro) (40 + a1.toNatClampNeg)) (by omega) (by omega))) ?_
            rintro _ _ ⟨⟨rfl, z13, rfl, Z_A12⟩, -, -⟩
            subst Z_A12
            exact hpa_ireturn (by rfl) rfl (hP _ _ ⟨_, rfl, Or.inl ⟨⟨by omega, by omega, by omega, by omega, by omega⟩, by unfold huTh; rw [if_neg (by omega), if_pos (by omega)]⟩⟩)
          ·
            refine hpa_aload_n (by rfl) rfl ?_
            refine hpa_get (v := .ref 34) (by rfl) (by rfl) (by rfl) rfl ?_
            refine hpa_get (v := .ref 39) (by rfl) (by rfl) (by rfl) rfl ?_
            refine hpa_iload_n (by rfl) rfl ?_
            refine hpx_iald (by rfl) (by rfl) (fun h0v14 h1v14 v14 ev14 => ?_)
            rw [show (a1).toNatClampNeg = a1.toNatClampNeg from by have := hn_cn (j := a1) (by omega); omega] at ev14
            have lv14 := ev14.symm.trans ((DL_A8.2.2.2.2 (a1.toNatClampNeg) (by omega)).2.2.1)
            clear ev14
            subst lv14
            refine hpa_goto (by rfl) ?_
            exact hpa_ireturn (by rfl) rfl (hP _ _ ⟨_, rfl, Or.inl ⟨⟨by omega, by omega, by omega, by omega, by omega⟩, by unfold huTh; rw [if_pos (by omega)]⟩⟩)
        ·
          refine hpa_aload_n (by rfl) rfl ?_
          refine hpa_get (v := .ref 34) (by rfl) (by rfl) (by rfl) rfl ?_
          refine hpa_call0 (by rfl) (by rfl) (by rfl) (by rfl) (by rfl) (by rfl) (uf_C (X := ug_x153) (j := 153) rfl rfl (ug_L.cons (uf_rk_ok (by decide +kernel)) uf_nil) HA8 (hP30_33 (ro := (huY D n true (Int32.ofInt D.2.2.1) a2.toNatClampNeg ro)) DL_A8 OY)) ?_
          rintro _ _ ⟨⟨rfl, z16, rfl, Z_A15⟩, -, -⟩
          subst Z_A15
          refine hpa_call2 (by rfl) (by decide) (by rfl) (by rfl) (by rfl) (uf_C (X := ug_x108) (j := 108) rfl rfl (uf_int uf_nil) HA8 (hP242 (Int32.ofNat (huBn (huCn (huY D n true (Int32.ofInt D.2.2.1) a2.toNatClampNeg ro)) n)) (huBn_in hn10).1 (huBn_in hn10).2)) ?_
          rintro _ _ ⟨⟨rfl, z18, rfl, Z_A17⟩, -, -⟩
          subst Z_A17
          exact hpa_ireturn (by rfl) rfl (hP _ _ ⟨_, rfl, Or.inl ⟨⟨by omega, by omega, by omega, by omega, by omega⟩, by unfold huTh; rw [if_neg (by omega), if_neg (by omega), huB_bn n hn10]⟩⟩)
      ·
        refine hpa_aload_n (by rfl) rfl ?_
        refine hpa_iload_n (by rfl) rfl ?_
        refine hpa_call0 (by rfl) (by rfl) (by rfl) (by rfl) (by rfl) (by rfl) (uf_C (X := ug_x96) (j := 96) rfl rfl (ug_L.cons (uf_rk_ok (by decide +kernel)) (uf_int uf_nil)) hH0 (hP76 a1 hT h3 hTn hL)) ?_
        rintro _ _ ⟨⟨rfl, z20, rfl, (⟨fz_A19, HS_A19⟩ | ⟨fz_A19, HS_A19⟩)⟩, -, -⟩
        ·
          have c1 := hn_cn (j := a1) (by omega)
          refine hpj_zne (by rfl) rfl (fun q21 => ?_) (fun q21 => False.elim (by omega))
          refine hpa_aload_n (by rfl) rfl ?_
          refine hpa_iload_n (by rfl) rfl ?_
          refine hpa_iconst (by rfl) rfl ?_
          refine hpa_aload_n (by rfl) rfl ?_
          refine hpj_getT (by rfl) (by rfl) (by rfl) h3 ?_
          refine hpj_getK (by rfl) (hsT hT) (by rfl) rfl ?_
          rw [show (A.1 T 7) = (Int32.ofInt D.2.2.1) from hdK.seed hC hD3]
          refine hpa_call0 (by rfl) (by rfl) (by rfl) (by rfl) (by rfl) (by rfl) (uf_C (X := ug_x139) (j := 139) rfl rfl (ug_L.cons (uf_rk_ok (by decide +kernel)) (uf_int (uf_int (uf_int uf_nil)))) hH0 (hP107 (m := a2.toNatClampNeg) (b := true) a2 (Int32.ofNat 1) (Int32.ofInt D.2.2.1) hT h3 hTn hC hL hO hD hD2 hk_1 (by omega) (by omega) hH0)) ?_
          rintro _ A22 ⟨⟨rfl, DL_A22⟩, wA22, HA22⟩
          have UA22 := (U0).trans (wA22.le (by decide +kernel : ug_wle ug_x139.2.2.2.1 uM113 = true))
          have OY := (hO.I (b := true) (s := (Int32.ofInt D.2.2.1)) hn10 hD hD2 a2.toNatClampNeg (by omega)).1
          refine hpa_iload_n (by rfl) rfl ?_
          refine hpa_iconst (by rfl) rfl ?_
          refine hpj_cne (by rfl) rfl hk_2 (fun q23 => ?_) (fun q23 => ?_)
          ·
            refine hpa_iload_n (by rfl) rfl ?_
            refine hpj_zne (by rfl) rfl (fun q24 => ?_) (fun q24 => ?_)
            ·
              refine hpa_aload_n (by rfl) rfl ?_
              refine hpa_get (v := .ref 34) (by rfl) (by rfl) (by rfl) rfl ?_
              refine hpa_get (v := .ref 37) (by rfl) (by rfl) (by rfl) rfl ?_
              refine hpa_iload_n (by rfl) rfl ?_
              refine hpx_iald (by rfl) (by rfl) (fun h0v25 h1v25 v25 ev25 => ?_)
              rw [show (a1).toNatClampNeg = a1.toNatClampNeg from by have := hn_cn (j := a1) (by omega); omega] at ev25
              have lv25 := ev25.symm.trans ((DL_A22.2.2.2.2 (a1.toNatClampNeg) (by omega)).1.2.2)
              clear ev25
              subst lv25
              have b40 := (OY.1 a1.toNatClampNeg (by omega)).2.1
              refine hpa_call2 (by rfl) (by decide) (by rfl) (by rfl) (by rfl) (uf_C (X := ug_x108) (j := 108) rfl rfl (uf_int uf_nil) HA22 (hP242 ((huY D n true (Int32.ofInt D.2.2.1) a2.toNatClampNeg ro) (40 + a1.toNatClampNeg)) (by omega) (by omega))) ?_
              rintro _ _ ⟨⟨rfl, z27, rfl, Z_A26⟩, -, -⟩
              subst Z_A26
              exact hpa_ireturn (by rfl) rfl (hP _ _ ⟨_, rfl, Or.inl ⟨⟨by omega, by omega, by omega, by omega, by omega⟩, by unfold huTh; rw [if_neg (by omega), if_pos (by omega)]⟩⟩)
            ·
              refine hpa_aload_n (by rfl) rfl ?_
              refine hpa_get (v := .ref 34) (by rfl) (by rfl) (by rfl) rfl ?_
              refine hpa_get (v := .ref 39) (by rfl) (by rfl) (by rfl) rfl ?_
              refine hpa_iload_n (by rfl) rfl ?_
              refine hpx_iald (by rfl) (by rfl) (fun h0v28 h1v28 v28 ev28 => ?_)
              rw [show (a1).toNatClampNeg = a1.toNatClampNeg from by have := hn_cn (j := a1) (by omega); omega] at ev28
              have lv28 := ev28.symm.trans ((DL_A22.2.2.2.2 (a1.toNatClampNeg) (by omega)).2.2.1)
              clear ev28
              subst lv28
              refine hpa_goto (by rfl) ?_
              exact hpa_ireturn (by rfl) rfl (hP _ _ ⟨_, rfl, Or.inl ⟨⟨by omega, by omega, by omega, by omega, by omega⟩, by unfold huTh; rw [if_pos (by omega)]⟩⟩)
          ·
            refine hpa_aload_n (by rfl) rfl ?_
            refine hpa_get (v := .ref 34) (by rfl) (by rfl) (by rfl) rfl ?_
            refine hpa_call0 (by rfl) (by rfl) (by rfl) (by rfl) (by rfl) (by rfl) (uf_C (X := ug_x153) (j := 153) rfl rfl (ug_L.cons (uf_rk_ok (by decide +kernel)) uf_nil) HA22 (hP30_33 (ro := (huY D n true (Int32.ofInt D.2.2.1) a2.toNatClampNeg ro)) DL_A22 OY)) ?_
            rintro _ _ ⟨⟨rfl, z30, rfl, Z_A29⟩, -, -⟩
            subst Z_A29
            refine hpa_call2 (by rfl) (by decide) (by rfl) (by rfl) (by rfl) (uf_C (X := ug_x108) (j := 108) rfl rfl (uf_int uf_nil) HA22 (hP242 (Int32.ofNat (huBn (huCn (huY D n true (Int32.ofInt D.2.2.1) a2.toNatClampNeg ro)) n)) (huBn_in hn10).1 (huBn_in hn10).2)) ?_
            rintro _ _ ⟨⟨rfl, z32, rfl, Z_A31⟩, -, -⟩
            subst Z_A31
            exact hpa_ireturn (by rfl) rfl (hP _ _ ⟨_, rfl, Or.inl ⟨⟨by omega, by omega, by omega, by omega, by omega⟩, by unfold huTh; rw [if_neg (by omega), if_neg (by omega), huB_bn n hn10]⟩⟩)
        ·
          refine hpj_zne (by rfl) rfl (fun q33 => False.elim (by omega)) (fun q33 => ?_)
          refine hpa_iconst (by rfl) rfl ?_
          exact hpa_ireturn (by rfl) rfl (hP _ _ ⟨_, rfl, Or.inr ⟨fun p => by omega, rfl⟩⟩)
    ·
      refine hpj_zne (by rfl) rfl (fun q34 => False.elim (by omega)) (fun q34 => ?_)
      refine hpa_iconst (by rfl) rfl ?_
      exact hpa_ireturn (by rfl) rfl (hP _ _ ⟨_, rfl, Or.inr ⟨fun p => by omega, rfl⟩⟩)
  ·
    refine hpj_zeq (by rfl) rfl (fun q35 => ?_) (fun q35 => False.elim (by omega))
    refine hpa_iconst (by rfl) rfl ?_
    exact hpa_ireturn (by rfl) rfl (hP _ _ ⟨_, rfl, Or.inr ⟨fun p => by omega, rfl⟩⟩)
theorem hP113 {g d : Nat} {A : hs_A} {T n : Nat} {D : hg_D} {ro : Nat → Int32} (a1 a2 a3 : Int32) (hT : hTT T) (h3 : A.2.2.2 0 3 = T + 1) (hTn : (A.1 T 4).toInt = (n : Int)) (hC : hdK T D A) (hL : hdL 26 ro n A) (hO : huO ro n) (hD : ∀ t, t < 24 → 0 ≤ D.1 t ∧ D.1 t ≤ 255) (hD2 : 0 ≤ D.2.1 ∧ D.2.1 ≤ 10000) (hD3 : 0 ≤ D.2.2.1 ∧ D.2.2.1 ≤ 10000) (h70 : (ro 70).toInt ≤ 1000000) (hH0 : uf_H A) : hpC g d 113 hm_m113 [.ref 1, .int a1, .int a2, .int a3] A (fun r A' => ∃ z : Int32, r = some (.int z) ∧ huIf (0 ≤ a2.toInt ∧ a2.toInt ≤ 72 ∧ 0 ≤ a3.toInt ∧ a3.toInt ≤ 2 ∧ (a3.toInt = 2 ∨ 0 ≤ a1.toInt ∧ a1.toInt < (n : Int))) (huTh n (huY D n true (Int32.ofInt D.2.2.1) a2.toNatClampNeg ro) a1 a3) z) := hpC.all (fun f d => hW113 a1 a2 a3 hT h3 hTn hC hL hO hD hD2 hD3 h70 hH0 (fun r A' h => h))
theorem huQt_y {D : hg_D} {n h k : Nat} {ro : Nat → Int32} (q : ((huY D n false (Int32.ofNat 0) (k + 1) ro) (30 + h)).toInt = 0) : Int32.ofNat (huQt D n ro h k) + Int32.ofNat 1 = Int32.ofNat (huQt D n ro h (k + 1)) := by
  have e : huQt D n ro h (k + 1) = huQt D n ro h k + 1 := huCt_y (by show (!huWm (huY D n false (Int32.ofNat 0) (k + 1) ro) h) = true; rw [huWm_n q]; rfl)
  rw [e, Int32.ofNat_add]
theorem huQt_n {D : hg_D} {n h k : Nat} {ro : Nat → Int32} (q : ¬ ((huY D n false (Int32.ofNat 0) (k + 1) ro) (30 + h)).toInt = 0) : Int32.ofNat (huQt D n ro h k) = Int32.ofNat (huQt D n ro h (k + 1)) := by
  have e : huQt D n ro h (k + 1) = huQt D n ro h k := huCt_n (by show (!huWm (huY D n false (Int32.ofNat 0) (k + 1) ro) h) = false; rw [huWm_y q]; rfl)
  rw [e]
def uM114 : Nat := 323519758526442653765592515450834468691971158576829361683946015294464
theorem hW114 {g d f : Nat} {A : hs_A} {T n : Nat} {D : hg_D} {ro : Nat → Int32} (a1 a2 : Int32) (hT : hTT T) (h3 : A.2.2.2 0 3 = T + 1) (hTn : (A.1 T 4).toInt = (n : Int)) (hC : hdK T D A) (hL : hdL 26 ro n A) (hO : huO ro n) (hD : ∀ t, t < 24 → 0 ≤ D.1 t ∧ D.1 t ≤ 255) (hD2 : 0 ≤ D.2.1 ∧ D.2.1 ≤ 10000) (h70 : (ro 70).toInt ≤ 1000000) (hH0 : uf_H A) {P : Option Value → hs_A → Prop} (hP : ∀ (r : Option Value) (A' : hs_A), (∃ z : Int32, r = some (.int z) ∧ huIf (0 ≤ a1.toInt ∧ a1.toInt < (n : Int) ∧ 1 ≤ a2.toInt ∧ a2.toInt ≤ 72) (Int32.ofNat (huQt D n ro a1.toNatClampNeg a2.toNatClampNeg)) z) → P r A') : hpa (f, g) d (some (.int)) hm_t114 0 [.ref 1, .int a1, .int a2, .retAddr 0, .retAddr 0] [] A P := by
  have k0 := hk_0
  have k1 := hk_1
  have k4294967295 := hk_4294967295
  have k72 := hk_72
  have hT9 : T ≤ 11 := by rcases hT with rfl | rfl <;> omega
  have hn10 := hL.1
  have o70 := hO.2.1
  have U0 : uf_W uM114 A A := uf_W.rfl
  have L36 : ∀ (f : Nat) (x36_4 : Int32) (x36_3 : Int32) (A36 : hs_A) (k : Nat) (bk : k ≤ 72) (ek : x36_4 = Int32.ofNat k) (x36e3 : x36_3 = Int32.ofNat (huQt D n ro a1.toNatClampNeg k)) (L33 : hdL 33 (huY D n false (Int32.ofNat 0) k ro) n A36) (hb1 : 0 ≤ a1.toInt ∧ a1.toInt < (n : Int)) (hb2 : 1 ≤ a2.toInt ∧ a2.toInt ≤ 72) (kk : (k : Int) ≤ a2.toInt) (U36 : uf_W uM114 A A36) (H36 : uf_H A36), hpa (f, g) d (some (.int)) hm_t114 36 [.ref 1, .int a1, .int a2, .int x36_3, .int x36_4] [] A36 P := by
    intro f
    induction f with
    | zero => intros; exact hpa.zero
    | succ f ih36 =>
      intro x36_4 x36_3 A36 k bk ek x36e3 L33 hb1 hb2 kk U36 H36
      subst ek
      have ck := hn_c (n := k) (z := Int32.ofNat k) rfl (by omega)
      subst x36e3
      have c1 := hn_cn (j := a1) hb1.1
      have c2 := hn_cn (j := a2) (by omega)
      refine hpa_iloadS (by rfl) rfl ?_
      refine hpa_iload_n (by rfl) rfl ?_
      refine hpj_cge (by rfl) ck rfl (fun q1 => ?_) (fun q1 => ?_)
      ·
        refine hpa_iload_n (by rfl) rfl ?_
        exact hpa_ireturn (by rfl) rfl (hP _ _ ⟨_, rfl, Or.inl ⟨⟨by omega, by omega, by omega, by omega⟩, by rw [show k = a2.toNatClampNeg by omega]⟩⟩)
      ·
        refine hpa_aload_n (by rfl) rfl ?_
        refine hpa_get (v := .ref 34) (by rfl) (by rfl) (by rfl) rfl ?_
        refine hpa_aload_n (by rfl) rfl ?_
        have h3wA36 : A36.2.2.2 0 3 = T + 1 := (U36.2.2.2 0 _ _ 3 rfl rfl (by decide +kernel)).trans h3
        refine hpj_getT (by rfl) (by rfl) (by rfl) h3wA36 ?_
        refine hpa_aload_n (by rfl) rfl ?_
        refine hpa_get (v := .ref 324) (by rfl) (by rfl) (by rfl) rfl ?_
        refine hpa_iconst (by rfl) rfl ?_
        refine hpa_iconst (by rfl) rfl ?_
        have hCA36 : hdK T D A36 := hC.uf hT U36 (by decide +kernel)
        have hTnA36 : (A36.1 T 4).toInt = (n : Int) := (congrArg Int32.toInt (hdT4 U36 hT (by decide +kernel))).trans hTn
        refine hpa_call0 (by rfl) (by rfl) (by rfl) (by rfl) (by rfl) (by rfl) (uf_C (X := ug_x136) (j := 136) rfl rfl (ug_L.cons (uf_rk_ok (by decide +kernel)) (ug_L.cons (by rcases hT with rfl | rfl <;> exact uf_rk_ok (by decide +kernel)) (ug_L.cons (uf_rk_ok (by decide +kernel)) (uf_int (uf_int uf_nil))))) H36 (hP26_33 (b := false) (Int32.ofNat 0) (Int32.ofNat 0) hT hCA36 L33 (hO.I (b := false) (s := (Int32.ofNat 0)) hn10 hD hD2 k (by omega)).1 hD hD2 hk_0 hTnA36 H36)) ?_
        rintro _ A2 ⟨⟨rfl, LL_A2⟩, wA2, HA2⟩
        have UA2 := (U36).trans (wA2.le (by decide +kernel : ug_wle ug_x136.2.2.2.1 uM114 = true))
        have DLA2 : hdL 33 (huY D n false (Int32.ofNat 0) (k + 1) ro) n A2 := LL_A2
        refine hpa_aload_n (by rfl) rfl ?_
        refine hpa_get (v := .ref 34) (by rfl) (by rfl) (by rfl) rfl ?_
        refine hpa_get (v := .ref 39) (by rfl) (by rfl) (by rfl) rfl ?_
        refine hpa_iload_n (by rfl) rfl ?_
        refine hpx_iald (by rfl) (by rfl) (fun h0v3 h1v3 v3 ev3 => ?_)
        rw [show (a1).toNatClampNeg = a1.toNatClampNeg from by have := hn_cn (j := a1) (by omega); omega] at ev3
        have lv3 := ev3.symm.trans ((DLA2.2.2.2.2 (a1.toNatClampNeg) (by omega)).2.2.1)
        clear ev3
        subst lv3
        refine hpj_zne (by rfl) rfl (fun q4 => ?_) (fun q4 => ?_)
        ·
          refine hpj_iinc (by rfl) rfl ck hk_1 (by omega) (by omega) (fun _ => rfl) (fun z5 ez5 => ?_)
          refine hpa_goto (by rfl) ?_
          exact ih36 z5 (Int32.ofNat (huQt D n ro a1.toNatClampNeg k)) A2 (k + 1) (by omega) (huI (by omega) (by omega)) (huQt_n q4) DLA2 (by omega) (by omega) (by omega) UA2 HA2
        ·
          refine hpa_iinc (by rfl) rfl rfl ?_
          refine hpj_iinc (by rfl) rfl ck hk_1 (by omega) (by omega) (fun _ => rfl) (fun z6 ez6 => ?_)
          refine hpa_goto (by rfl) ?_
          exact ih36 z6 ((Int32.ofNat (huQt D n ro a1.toNatClampNeg k)) + Int32.ofNat 1) A2 (k + 1) (by omega) (huI (by omega) (by omega)) (huQt_y q4) DLA2 (by omega) (by omega) (by omega) UA2 HA2
  refine hpa_aload_n (by rfl) rfl ?_
  refine hpa_iload_n (by rfl) rfl ?_
  refine hpa_call0 (by rfl) (by rfl) (by rfl) (by rfl) (by rfl) (by rfl) (uf_C (X := ug_x96) (j := 96) rfl rfl (ug_L.cons (uf_rk_ok (by decide +kernel)) (uf_int uf_nil)) hH0 (hP76 a1 hT h3 hTn hL)) ?_
  rintro _ _ ⟨⟨rfl, z8, rfl, (⟨fz_A7, HS_A7⟩ | ⟨fz_A7, HS_A7⟩)⟩, -, -⟩
  ·
    have c1 := hn_cn (j := a1) (by omega)
    refine hpj_zeq (by rfl) rfl (fun q9 => False.elim (by omega)) (fun q9 => ?_)
    refine hpa_iload_n (by rfl) rfl ?_
    refine hpa_iconst (by rfl) rfl ?_
    refine hpa_bipush (by rfl) rfl ?_
    refine hpa_call2 (by rfl) (by decide) (by rfl) (by rfl) (by rfl) (uf_C (X := ug_x100) (j := 100) rfl rfl (uf_int (uf_int (uf_int uf_nil))) hH0 (hP78 a2 (Int32.ofNat 1) (Int32.ofNat 72))) ?_
    rintro _ _ ⟨⟨rfl, z11, rfl, (⟨fz_A10, lo_A10, hi_A10⟩ | ⟨fz_A10, no_A10⟩)⟩, -, -⟩
    ·
      have c2 := hn_cn (j := a2) (by omega)
      refine hpj_zne (by rfl) rfl (fun q12 => ?_) (fun q12 => False.elim (by omega))
      refine hpa_iconst (by rfl) rfl ?_
      refine hpa_s1 (by rfl) (Or.inl ⟨_, rfl, rfl⟩) rfl ?_
      refine hpa_aload_n (by rfl) rfl ?_
      refine hpa_get (v := .ref 34) (by rfl) (by rfl) (by rfl) rfl ?_
      refine hpa_aload_n (by rfl) rfl ?_
      refine hpa_get (v := .ref 27) (by rfl) (by rfl) (by rfl) rfl ?_
      refine hpa_call0 (by rfl) (by rfl) (by rfl) (by rfl) (by rfl) (by rfl) (uf_C (X := ug_x135) (j := 135) rfl rfl (ug_L.cons (uf_rk_ok (by decide +kernel)) (ug_L.cons (uf_rk_ok (by decide +kernel)) uf_nil)) hH0 (hP17_33 )) ?_
      rintro _ A13 ⟨⟨rfl, CP_A13⟩, wA13, HA13⟩
      have UA13 := (U0).trans (wA13.le (by decide +kernel : ug_wle ug_x135.2.2.2.1 uM114 = true))
      refine hpa_iconst (by rfl) rfl ?_
      refine hpa_s1 (by rfl) (Or.inr ⟨_, rfl, rfl⟩) rfl ?_
      exact L36 _ (Int32.ofNat 0) (Int32.ofNat 0) A13 0 (by omega) rfl rfl (CP_A13.d hL) (by omega) (by omega) (by omega) UA13 HA13
    ·
      refine hpj_zne (by rfl) rfl (fun q14 => False.elim (by omega)) (fun q14 => ?_)
      refine hpa_iconst (by rfl) rfl ?_
      exact hpa_ireturn (by rfl) rfl (hP _ _ ⟨_, rfl, Or.inr ⟨fun p => by omega, rfl⟩⟩)
  ·
    refine hpj_zeq (by rfl) rfl (fun q15 => ?_) (fun q15 => False.elim (by omega))
    refine hpa_iconst (by rfl) rfl ?_
    exact hpa_ireturn (by rfl) rfl (hP _ _ ⟨_, rfl, Or.inr ⟨fun p => by omega, rfl⟩⟩)
theorem hP114 {g d : Nat} {A : hs_A} {T n : Nat} {D : hg_D} {ro : Nat → Int32} (a1 a2 : Int32) (hT : hTT T) (h3 : A.2.2.2 0 3 = T + 1) (hTn : (A.1 T 4).toInt = (n : Int)) (hC : hdK T D A) (hL : hdL 26 ro n A) (hO : huO ro n) (hD : ∀ t, t < 24 → 0 ≤ D.1 t ∧ D.1 t ≤ 255) (hD2 : 0 ≤ D.2.1 ∧ D.2.1 ≤ 10000) (h70 : (ro 70).toInt ≤ 1000000) (hH0 : uf_H A) : hpC g d 114 hm_m114 [.ref 1, .int a1, .int a2] A (fun r A' => ∃ z : Int32, r = some (.int z) ∧ huIf (0 ≤ a1.toInt ∧ a1.toInt < (n : Int) ∧ 1 ≤ a2.toInt ∧ a2.toInt ≤ 72) (Int32.ofNat (huQt D n ro a1.toNatClampNeg a2.toNatClampNeg)) z) := hpC.all (fun f d => hW114 a1 a2 hT h3 hTn hC hL hO hD hD2 h70 hH0 (fun r A' h => h))
def huYr (D : hg_D) (n : Nat) (ro : Nat → Int32) (h m i : Nat) : Bool := huCn (huY D n true ((Int32.ofInt D.2.2.1) + Int32.ofNat i) m ro) h
def uM121 : Nat := 323519758526442653765592515450834468691971158576829361683946015294464
theorem hW121 {g d f : Nat} {A : hs_A} {T n : Nat} {D : hg_D} {ro : Nat → Int32} (a1 a2 a3 : Int32) (hT : hTT T) (h3 : A.2.2.2 0 3 = T + 1) (hTn : (A.1 T 4).toInt = (n : Int)) (hC : hdK T D A) (hL : hdL 26 ro n A) (hO : huO ro n) (hD : ∀ t, t < 24 → 0 ≤ D.1 t ∧ D.1 t ≤ 255) (hD2 : 0 ≤ D.2.1 ∧ D.2.1 ≤ 10000) (hD3 : 0 ≤ D.2.2.1 ∧ D.2.2.1 ≤ 10000) (h70 : (ro 70).toInt ≤ 1000000) (hH0 : uf_H A) {P : Option Value → hs_A → Prop} (hP : ∀ (r : Option Value) (A' : hs_A), (∃ z : Int32, r = some (.int z) ∧ huIf ((0 ≤ a1.toInt ∧ a1.toInt < (n : Int)) ∧ (0 ≤ a2.toInt ∧ a2.toInt ≤ 72) ∧ 1 ≤ a3.toInt ∧ a3.toInt ≤ 20) (Int32.ofNat (huCt (huYr D n ro a1.toNatClampNeg a2.toNatClampNeg) a3.toNatClampNeg)) z) → P r A') : hpa (f, g) d (some (.int)) hm_t121 0 [.ref 1, .int a1, .int a2, .int a3, .retAddr 0, .retAddr 0] [] A P := by
  have k0 := hk_0
  have k1 := hk_1
  have k20 := hk_20
  have k4294967295 := hk_4294967295
  have k72 := hk_72
  have hT9 : T ≤ 11 := by rcases hT with rfl | rfl <;> omega
  have hn10 := hL.1
  have o70 := hO.2.1
  have U0 : uf_W uM121 A A := uf_W.rfl
  have L36 : ∀ (f : Nat) (x36_5 : Int32) (x36_4 : Int32) (A36 : hs_A) (i : Nat) (bi : i ≤ 20) (ei : x36_5 = Int32.ofNat i) (x36e4 : x36_4 = Int32.ofNat (huCt (huYr D n ro a1.toNatClampNeg a2.toNatClampNeg) i)) (hb1 : 0 ≤ a1.toInt ∧ a1.toInt < (n : Int)) (hb2 : 0 ≤ a2.toInt ∧ a2.toInt ≤ 72) (hb3 : 1 ≤ a3.toInt ∧ a3.toInt ≤ 20) (ii : (i : Int) ≤ a3.toInt) (U36 : uf_W uM121 A A36) (H36 : uf_H A36), hpa (f, g) d (some (.int)) hm_t121 36 [.ref 1, .int a1, .int a2, .int a3, .int x36_4, .int x36_5] [] A36 P := by
    intro f
    induction f with
    | zero => intros; exact hpa.zero
    | succ f ih36 =>
      intro x36_5 x36_4 A36 i bi ei x36e4 hb1 hb2 hb3 ii U36 H36
      subst ei
      have ci := hn_c (n := i) (z := Int32.ofNat i) rfl (by omega)
      subst x36e4
      have c1 := hn_cn (j := a1) hb1.1
      have c2 := hn_cn (j := a2) hb2.1
      have c3 := hn_cn (j := a3) (by omega)
      refine hpa_iloadS (by rfl) rfl ?_
      refine hpa_iload_n (by rfl) rfl ?_
      refine hpj_cge (by rfl) ci rfl (fun q1 => ?_) (fun q1 => ?_)
      ·
        refine hpa_iload (by rfl) rfl ?_
        exact hpa_ireturn (by rfl) rfl (hP _ _ ⟨_, rfl, Or.inl ⟨⟨⟨by omega, by omega⟩, ⟨by omega, by omega⟩, by omega, by omega⟩, by rw [show i = a3.toNatClampNeg by omega]⟩⟩)
      ·
        refine hpa_aload_n (by rfl) rfl ?_
        refine hpa_iload_n (by rfl) rfl ?_
        refine hpa_iconst (by rfl) rfl ?_
        refine hpa_aload_n (by rfl) rfl ?_
        have h3wA36 : A36.2.2.2 0 3 = T + 1 := (U36.2.2.2 0 _ _ 3 rfl rfl (by decide +kernel)).trans h3
        refine hpj_getT (by rfl) (by rfl) (by rfl) h3wA36 ?_
        refine hpj_getK (by rfl) (hsT hT) (by rfl) rfl ?_
        have hCA36 : hdK T D A36 := hC.uf hT U36 (by decide +kernel)
        rw [show (A36.1 T 7) = (Int32.ofInt D.2.2.1) from hdK.seed hCA36 hD3]
        refine hpa_iload (by rfl) rfl ?_
        refine hpa_iadd (by rfl) ?_
        have hTnA36 : (A36.1 T 4).toInt = (n : Int) := (congrArg Int32.toInt (hdT4 U36 hT (by decide +kernel))).trans hTn
        have hL26A36 : hdL 26 ro n A36 := hL.uf hLL_26 U36 (by decide +kernel)
        refine hpa_call0 (by rfl) (by rfl) (by rfl) (by rfl) (by rfl) (by rfl) (uf_C (X := ug_x139) (j := 139) rfl rfl (ug_L.cons (uf_rk_ok (by decide +kernel)) (uf_int (uf_int (uf_int uf_nil)))) H36 (hP107 (m := a2.toNatClampNeg) (b := true) a2 (Int32.ofNat 1) ((Int32.ofInt D.2.2.1) + (Int32.ofNat i)) hT h3wA36 hTnA36 hCA36 hL26A36 hO hD hD2 hk_1 (by omega) (by omega) H36)) ?_
        rintro _ A2 ⟨⟨rfl, DL_A2⟩, wA2, HA2⟩
        have UA2 := (U36).trans (wA2.le (by decide +kernel : ug_wle ug_x139.2.2.2.1 uM121 = true))
        have OY := (hO.I (b := true) (s := (Int32.ofInt D.2.2.1) + Int32.ofNat i) hn10 hD hD2 a2.toNatClampNeg (by omega)).1
        refine hpa_aload_n (by rfl) rfl ?_
        refine hpa_get (v := .ref 34) (by rfl) (by rfl) (by rfl) rfl ?_
        refine hpa_iload_n (by rfl) rfl ?_
        refine hpa_call0 (by rfl) (by rfl) (by rfl) (by rfl) (by rfl) (by rfl) (uf_C (X := ug_x140) (j := 140) rfl rfl (ug_L.cons (uf_rk_ok (by decide +kernel)) (uf_int uf_nil)) HA2 (hP21_33 (ro := (huY D n true ((Int32.ofInt D.2.2.1) + Int32.ofNat i) a2.toNatClampNeg ro)) (h := a1.toNatClampNeg) a1 DL_A2 (by omega) (huI (by omega) (by omega)))) ?_
        rintro _ _ ⟨⟨rfl, z4, rfl, Z_A3⟩, -, -⟩
        subst Z_A3
        refine hpj_zne (by rfl) rfl (fun q5 => ?_) (fun q5 => ?_)
        ·
          refine hpj_iinc (by rfl) rfl ci hk_1 (by omega) (by omega) (fun _ => rfl) (fun z6 ez6 => ?_)
          refine hpa_goto (by rfl) ?_
          exact ih36 z6 (Int32.ofNat (huCt (huYr D n ro a1.toNatClampNeg a2.toNatClampNeg) i)) A2 (i + 1) (by omega) (huI (by omega) (by omega)) (by rw [huCt_n (show huYr D n ro a1.toNatClampNeg a2.toNatClampNeg i = false from huCn_n (OY.1 a1.toNatClampNeg (by omega)).2.2.2.2 q5)]) (by omega) (by omega) (by omega) (by omega) UA2 HA2
        ·
          refine hpa_iinc (by rfl) rfl rfl ?_
          refine hpj_iinc (by rfl) rfl ci hk_1 (by omega) (by omega) (fun _ => rfl) (fun z7 ez7 => ?_)
          refine hpa_goto (by rfl) ?_
          exact ih36 z7 ((Int32.ofNat (huCt (huYr D n ro a1.toNatClampNeg a2.toNatClampNeg) i)) + Int32.ofNat 1) A2 (i + 1) (by omega) (huI (by omega) (by omega)) (by rw [huCt_y (show huYr D n ro a1.toNatClampNeg a2.toNatClampNeg i = true from huCn_y (OY.1 a1.toNatClampNeg (by omega)).2.2.2.2 q5), Int32.ofNat_add]) (by omega) (by omega) (by omega) (by omega) UA2 HA2
  refine hpa_aload_n (by rfl) rfl ?_
  refine hpa_iload_n (by rfl) rfl ?_
  refine hpa_call0 (by rfl) (by rfl) (by rfl) (by rfl) (by rfl) (by rfl) (uf_C (X := ug_x96) (j := 96) rfl rfl (ug_L.cons (uf_rk_ok (by decide +kernel)) (uf_int uf_nil)) hH0 (hP76 a1 hT h3 hTn hL)) ?_
  rintro _ _ ⟨⟨rfl, z9, rfl, (⟨fz_A8, HS_A8⟩ | ⟨fz_A8, HS_A8⟩)⟩, -, -⟩
  ·
    refine hpj_zeq (by rfl) rfl (fun q10 => False.elim (by omega)) (fun q10 => ?_)
    refine hpa_iload_n (by rfl) rfl ?_
    refine hpa_iconst (by rfl) rfl ?_
    refine hpa_bipush (by rfl) rfl ?_
    refine hpa_call2 (by rfl) (by decide) (by rfl) (by rfl) (by rfl) (uf_C (X := ug_x100) (j := 100) rfl rfl (uf_int (uf_int (uf_int uf_nil))) hH0 (hP78 a2 (Int32.ofNat 0) (Int32.ofNat 72))) ?_
    rintro _ _ ⟨⟨rfl, z12, rfl, (⟨fz_A11, lo_A11, hi_A11⟩ | ⟨fz_A11, no_A11⟩)⟩, -, -⟩
    ·
      refine hpj_zeq (by rfl) rfl (fun q13 => False.elim (by omega)) (fun q13 => ?_)
      refine hpa_iload_n (by rfl) rfl ?_
      refine hpa_iconst (by rfl) rfl ?_
      refine hpa_bipush (by rfl) rfl ?_
      refine hpa_call2 (by rfl) (by decide) (by rfl) (by rfl) (by rfl) (uf_C (X := ug_x100) (j := 100) rfl rfl (uf_int (uf_int (uf_int uf_nil))) hH0 (hP78 a3 (Int32.ofNat 1) (Int32.ofNat 20))) ?_
      rintro _ _ ⟨⟨rfl, z15, rfl, (⟨fz_A14, lo_A14, hi_A14⟩ | ⟨fz_A14, no_A14⟩)⟩, -, -⟩
      ·
        refine hpj_zne (by rfl) rfl (fun q16 => ?_) (fun q16 => False.elim (by omega))
        refine hpa_iconst (by rfl) rfl ?_
        refine hpa_s1 (by rfl) (Or.inr ⟨_, rfl, rfl⟩) rfl ?_
        refine hpa_iconst (by rfl) rfl ?_
        refine hpa_s1 (by rfl) (Or.inr ⟨_, rfl, rfl⟩) rfl ?_
        exact L36 _ (Int32.ofNat 0) (Int32.ofNat 0) A 0 (by omega) rfl rfl (by omega) (by omega) (by omega) (by omega) U0 hH0
      ·
        refine hpj_zne (by rfl) rfl (fun q17 => False.elim (by omega)) (fun q17 => ?_)
        refine hpa_iconst (by rfl) rfl ?_
        exact hpa_ireturn (by rfl) rfl (hP _ _ ⟨_, rfl, Or.inr ⟨fun p => by omega, rfl⟩⟩)
    ·
      refine hpj_zeq (by rfl) rfl (fun q18 => ?_) (fun q18 => False.elim (by omega))
      refine hpa_iconst (by rfl) rfl ?_
      exact hpa_ireturn (by rfl) rfl (hP _ _ ⟨_, rfl, Or.inr ⟨fun p => by omega, rfl⟩⟩)
  ·
    refine hpj_zeq (by rfl) rfl (fun q19 => ?_) (fun q19 => False.elim (by omega))
    refine hpa_iconst (by rfl) rfl ?_
    exact hpa_ireturn (by rfl) rfl (hP _ _ ⟨_, rfl, Or.inr ⟨fun p => by omega, rfl⟩⟩)
theorem hP121 {g d : Nat} {A : hs_A} {T n : Nat} {D : hg_D} {ro : Nat → Int32} (a1 a2 a3 : Int32) (hT : hTT T) (h3 : A.2.2.2 0 3 = T + 1) (hTn : (A.1 T 4).toInt = (n : Int)) (hC : hdK T D A) (hL : hdL 26 ro n A) (hO : huO ro n) (hD : ∀ t, t < 24 → 0 ≤ D.1 t ∧ D.1 t ≤ 255) (hD2 : 0 ≤ D.2.1 ∧ D.2.1 ≤ 10000) (hD3 : 0 ≤ D.2.2.1 ∧ D.2.2.1 ≤ 10000) (h70 : (ro 70).toInt ≤ 1000000) (hH0 : uf_H A) : hpC g d 121 hm_m121 [.ref 1, .int a1, .int a2, .int a3] A (fun r A' => ∃ z : Int32, r = some (.int z) ∧ huIf ((0 ≤ a1.toInt ∧ a1.toInt < (n : Int)) ∧ (0 ≤ a2.toInt ∧ a2.toInt ≤ 72) ∧ 1 ≤ a3.toInt ∧ a3.toInt ≤ 20) (Int32.ofNat (huCt (huYr D n ro a1.toNatClampNeg a2.toNatClampNeg) a3.toNatClampNeg)) z) := hpC.all (fun f d => hW121 a1 a2 a3 hT h3 hTn hC hL hO hD hD2 hD3 h70 hH0 (fun r A' h => h))
theorem hW196 {g d f : Nat} {A : hs_A} (a1 : Int32) {P : Option Value → hs_A → Prop} (hP : ∀ (r : Option Value) (A' : hs_A), (A = A' ∧ ∃ z : Int32, r = some (.int z) ∧ ((z.toInt = 1 ∧ 0 ≤ a1.toInt ∧ a1.toInt ≤ 72) ∨ (z.toInt = 0 ∧ (a1.toInt < 0 ∨ 72 < a1.toInt)))) → P r A') : hpa (f, g) d (some (.boolean)) hm_t196 0 [.int a1] [] A P := by
  have k0 := hk_0
  have k72 := hk_72
  refine hpa_iload_n (by rfl) rfl ?_
  refine hpa_iconst (by rfl) rfl ?_
  refine hpa_bipush (by rfl) rfl ?_
  refine hpa_call2 (by rfl) (by decide) (by rfl) (by rfl) (by rfl) (hP164 a1 (Int32.ofNat 0) (Int32.ofNat 72)) ?_
  rintro _ _ ⟨rfl, z2, rfl, (⟨fz_A1, lo_A1, hi_A1⟩ | ⟨fz_A1, no_A1⟩)⟩
  ·
    exact hpa_ireturn (by rfl) (hn_fitB (by omega) (by omega)) (hP _ _ ⟨rfl, _, rfl, Or.inl ⟨fz_A1, by have := hk_0; omega, by have := hk_72; omega⟩⟩)
  ·
    exact hpa_ireturn (by rfl) (hn_fitB (by omega) (by omega)) (hP _ _ ⟨rfl, _, rfl, Or.inr ⟨fz_A1, by have := hk_0; have := hk_72; omega⟩⟩)
theorem hP196 {g d : Nat} {A : hs_A} (a1 : Int32) : hpC g d 196 hm_m196 [.int a1] A (fun r A' => A = A' ∧ ∃ z : Int32, r = some (.int z) ∧ ((z.toInt = 1 ∧ 0 ≤ a1.toInt ∧ a1.toInt ≤ 72) ∨ (z.toInt = 0 ∧ (a1.toInt < 0 ∨ 72 < a1.toInt)))) := hpC.all (fun f d => hW196 a1 (fun r A' h => h))
theorem hW197 {g d f : Nat} {A : hs_A} (a1 : Int32) {P : Option Value → hs_A → Prop} (hP : ∀ (r : Option Value) (A' : hs_A), (A = A' ∧ ∃ z : Int32, r = some (.int z) ∧ ((z.toInt = 1 ∧ 1 ≤ a1.toInt ∧ a1.toInt ≤ 72) ∨ (z.toInt = 0 ∧ (a1.toInt < 1 ∨ 72 < a1.toInt)))) → P r A') : hpa (f, g) d (some (.boolean)) hm_t197 0 [.int a1] [] A P := by
  have k1 := hk_1
  have k72 := hk_72
  refine hpa_iload_n (by rfl) rfl ?_
  refine hpa_iconst (by rfl) rfl ?_
  refine hpa_bipush (by rfl) rfl ?_
  refine hpa_call2 (by rfl) (by decide) (by rfl) (by rfl) (by rfl) (hP164 a1 (Int32.ofNat 1) (Int32.ofNat 72)) ?_
  rintro _ _ ⟨rfl, z2, rfl, (⟨fz_A1, lo_A1, hi_A1⟩ | ⟨fz_A1, no_A1⟩)⟩
  ·
    exact hpa_ireturn (by rfl) (hn_fitB (by omega) (by omega)) (hP _ _ ⟨rfl, _, rfl, Or.inl ⟨fz_A1, by have := hk_1; omega, by have := hk_72; omega⟩⟩)
  ·
    exact hpa_ireturn (by rfl) (hn_fitB (by omega) (by omega)) (hP _ _ ⟨rfl, _, rfl, Or.inr ⟨fz_A1, by have := hk_1; have := hk_72; omega⟩⟩)
theorem hP197 {g d : Nat} {A : hs_A} (a1 : Int32) : hpC g d 197 hm_m197 [.int a1] A (fun r A' => A = A' ∧ ∃ z : Int32, r = some (.int z) ∧ ((z.toInt = 1 ∧ 1 ≤ a1.toInt ∧ a1.toInt ≤ 72) ∨ (z.toInt = 0 ∧ (a1.toInt < 1 ∨ 72 < a1.toInt)))) := hpC.all (fun f d => hW197 a1 (fun r A' h => h))
theorem hW186 {g d f : Nat} {A : hs_A} {ro : Nat → Int32} {h : Nat} (a1 : Int32) (hg : ∀ k, k < 73 → A.2.1 396 k = ro k) (hh : h ≤ 9) (ha : a1 = Int32.ofNat h) {P : Option Value → hs_A → Prop} (hP : ∀ (r : Option Value) (A' : hs_A), (A = A' ∧ ∃ z : Int32, r = some (.int z) ∧ ((z.toInt = 1 ∧ huCn ro h = true) ∨ (z.toInt = 0 ∧ huCn ro h = false))) → P r A') : hpa (f, g) d (some (.boolean)) hm_t186 0 [.ref 368, .int a1] [] A P := by
  have k0 := hk_0
  have k1 := hk_1
  have k40 := hk_40
  have ch := hn_c (n := h) (z := Int32.ofNat h) rfl (by omega)
  have cah : a1.toInt = (h : Int) := by rw [ha]; exact ch
  refine hpa_aload_n (by rfl) rfl ?_
  refine hpa_get (v := .ref 397) (by rfl) (by rfl) (by rfl) rfl ?_
  refine hpa_bipush (by rfl) rfl ?_
  refine hpa_iload_n (by rfl) rfl ?_
  refine hpj_iadd (by rfl) hk_40 rfl (by omega) (by omega) (fun z1 ez1 => ?_)
  refine hpx_iald (by rfl) (by rfl) (fun h0v2 h1v2 v2 ev2 => ?_)
  rw [show (z1).toNatClampNeg = 40 + h from by have := hn_cn (j := z1) (by omega); omega] at ev2
  have lv2 := ev2.symm.trans (show _ = ro (40 + h) from hg (40 + h) (by omega))
  clear ev2
  subst lv2
  refine hpa_aload_n (by rfl) rfl ?_
  refine hpa_get (v := .ref 397) (by rfl) (by rfl) (by rfl) rfl ?_
  refine hpa_iload_n (by rfl) rfl ?_
  refine hpx_iald (by rfl) (by rfl) (fun h0v3 h1v3 v3 ev3 => ?_)
  rw [show (a1).toNatClampNeg = h from by have := hn_cn (j := a1) (by omega); omega] at ev3
  have lv3 := ev3.symm.trans (show _ = ro h from hg h (by omega))
  clear ev3
  subst lv3
  refine hpj_cne (by rfl) rfl rfl (fun q4 => ?_) (fun q4 => ?_)
  ·
    refine hpa_iconst (by rfl) rfl ?_
    exact hpa_ireturn (by rfl) (by rfl) (hP _ _ ⟨rfl, _, rfl, Or.inr ⟨hk_0, decide_eq_false (by omega)⟩⟩)
  ·
    refine hpa_iconst (by rfl) rfl ?_
    refine hpa_goto (by rfl) ?_
    exact hpa_ireturn (by rfl) (by rfl) (hP _ _ ⟨rfl, _, rfl, Or.inl ⟨hk_1, decide_eq_true (by omega)⟩⟩)
theorem hP186 {g d : Nat} {A : hs_A} {ro : Nat → Int32} {h : Nat} (a1 : Int32) (hg : ∀ k, k < 73 → A.2.1 396 k = ro k) (hh : h ≤ 9) (ha : a1 = Int32.ofNat h) : hpC g d 186 hm_m186 [.ref 368, .int a1] A (fun r A' => A = A' ∧ ∃ z : Int32, r = some (.int z) ∧ ((z.toInt = 1 ∧ huCn ro h = true) ∨ (z.toInt = 0 ∧ huCn ro h = false))) := hpC.all (fun f d => hW186 a1 hg hh ha (fun r A' h => h))
theorem hW187 {g d f : Nat} {A : hs_A} {sd n : Nat} {D : hg_D} {ro : Nat → Int32} (hK : hrK sd D A) (hHn : A.2.1 376 sd = Int32.ofNat n) (h10 : n ≤ 10) (hg : ∀ k, k < 73 → A.2.1 396 k = ro k) {P : Option Value → hs_A → Prop} (hP : ∀ (r : Option Value) (A' : hs_A), (A = A' ∧ ∃ z : Int32, r = some (.int z) ∧ z = Int32.ofNat (huCt (huCn ro) n)) → P r A') : hpa (f, g) d (some (.int)) hm_t187 0 [.ref 368, .retAddr 0, .retAddr 0] [] A P := by
  have k0 := hk_0
  have k1 := hk_1
  have k18 := hK.1
  have ksd := hK.2.1
  have cn := hn_c (n := n) (z := Int32.ofNat n) rfl (by omega)
  have L4 : ∀ (f : Nat) (x4_2 : Int32) (x4_1 : Int32) (k : Nat) (bk : k ≤ n) (ek : x4_2 = Int32.ofNat k) (x4e1 : x4_1 = Int32.ofNat (huCt (huCn ro) k)), hpa (f, g) d (some (.int)) hm_t187 4 [.ref 368, .int x4_1, .int x4_2] [] A P := by
    intro f
    induction f with
    | zero => intros; exact hpa.zero
    | succ f ih4 =>
      intro x4_2 x4_1 k bk ek x4e1
      subst ek
      have ck := hn_c (n := k) (z := Int32.ofNat k) rfl (by omega)
      subst x4e1
      refine hpa_iload_nS (by rfl) rfl ?_
      refine hpa_aload_n (by rfl) rfl ?_
      refine hpa_get (v := .ref 377) (by rfl) (by rfl) (by rfl) rfl ?_
      refine hpa_aload_n (by rfl) rfl ?_
      refine hpj_getK (by rfl) (by rfl) (by rfl) rfl ?_
      refine hpx_iald (by rfl) (by rfl) (fun h0v1 h1v1 v1 ev1 => ?_)
      rw [show ((A.1 367 18)).toNatClampNeg = sd from by have := hn_cn (j := (A.1 367 18)) (by omega); omega, hHn] at ev1
      subst ev1
      refine hpj_cge (by rfl) ck cn (fun q2 => ?_) (fun q2 => ?_)
      ·
        refine hpa_iload_n (by rfl) rfl ?_
        exact hpa_ireturn (by rfl) rfl (hP _ _ ⟨rfl, _, rfl, by rw [show k = n by omega]⟩)
      ·
        refine hpa_aload_n (by rfl) rfl ?_
        refine hpa_iload_n (by rfl) rfl ?_
        refine hpa_call0 (by rfl) (by rfl) (by rfl) (by rfl) (by rfl) (by rfl) (hP186 (h := k) (Int32.ofNat k) hg (by omega) rfl) ?_
        rintro _ _ ⟨rfl, z4, rfl, (⟨fz_A3, HE_A3⟩ | ⟨fz_A3, HE_A3⟩)⟩
        ·
          refine hpj_zeq (by rfl) rfl (fun q5 => False.elim (by omega)) (fun q5 => ?_)
          refine hpa_iinc (by rfl) rfl rfl ?_
          refine hpj_iinc (by rfl) rfl ck hk_1 (by omega) (by omega) (fun _ => rfl) (fun z6 ez6 => ?_)
          refine hpa_goto (by rfl) ?_
          exact ih4 z6 ((Int32.ofNat (huCt (huCn ro) k)) + Int32.ofNat 1) (k + 1) (by omega) (huI (by omega) (by omega)) (by rw [huCt_y HE_A3, Int32.ofNat_add])
        ·
          refine hpj_zeq (by rfl) rfl (fun q7 => ?_) (fun q7 => False.elim (by omega))
          refine hpj_iinc (by rfl) rfl ck hk_1 (by omega) (by omega) (fun _ => rfl) (fun z8 ez8 => ?_)
          refine hpa_goto (by rfl) ?_
          exact ih4 z8 (Int32.ofNat (huCt (huCn ro) k)) (k + 1) (by omega) (huI (by omega) (by omega)) (by rw [huCt_n HE_A3])
  refine hpa_iconst (by rfl) rfl ?_
  refine hpa_s1 (by rfl) (Or.inl ⟨_, rfl, rfl⟩) rfl ?_
  refine hpa_iconst (by rfl) rfl ?_
  refine hpa_s1 (by rfl) (Or.inl ⟨_, rfl, rfl⟩) rfl ?_
  exact L4 _ (Int32.ofNat 0) (Int32.ofNat 0) 0 (by omega) rfl rfl
theorem hP187 {g d : Nat} {A : hs_A} {sd n : Nat} {D : hg_D} {ro : Nat → Int32} (hK : hrK sd D A) (hHn : A.2.1 376 sd = Int32.ofNat n) (h10 : n ≤ 10) (hg : ∀ k, k < 73 → A.2.1 396 k = ro k) : hpC g d 187 hm_m187 [.ref 368] A (fun r A' => A = A' ∧ ∃ z : Int32, r = some (.int z) ∧ z = Int32.ofNat (huCt (huCn ro) n)) := hpC.all (fun f d => hW187 hK hHn h10 hg (fun r A' h => h))
theorem hW225 {g d f : Nat} {A : hs_A} {sd n : Nat} {D : hg_D} {ro : Nat → Int32} (hK : hrK sd D A) (hHn : A.2.1 376 sd = Int32.ofNat n) (h10 : n ≤ 10) (hg : ∀ k, k < 73 → A.2.1 396 k = ro k) {P : Option Value → hs_A → Prop} (hP : ∀ (r : Option Value) (A' : hs_A), (A = A' ∧ ∃ z : Int32, r = some (.int z) ∧ z = Int32.ofNat (huBn (huMn ro) n)) → P r A') : hpa (f, g) d (some (.int)) hm_t225 0 [.ref 368, .retAddr 0, .retAddr 0] [] A P := by
  have k0 := hk_0
  have k1 := hk_1
  have k60 := hk_60
  have k18 := hK.1
  have ksd := hK.2.1
  have cn := hn_c (n := n) (z := Int32.ofNat n) rfl (by omega)
  have L4 : ∀ (f : Nat) (x4_2 : Int32) (x4_1 : Int32) (k : Nat) (bk : k ≤ n) (ek : x4_2 = Int32.ofNat k) (x4e1 : x4_1 = Int32.ofNat (huBn (huMn ro) k)), hpa (f, g) d (some (.int)) hm_t225 4 [.ref 368, .int x4_1, .int x4_2] [] A P := by
    intro f
    induction f with
    | zero => intros; exact hpa.zero
    | succ f ih4 =>
      intro x4_2 x4_1 k bk ek x4e1
      subst ek
      have ck := hn_c (n := k) (z := Int32.ofNat k) rfl (by omega)
      subst x4e1
      refine hpa_iload_nS (by rfl) rfl ?_
      refine hpa_aload_n (by rfl) rfl ?_
      refine hpa_get (v := .ref 377) (by rfl) (by rfl) (by rfl) rfl ?_
      refine hpa_aload_n (by rfl) rfl ?_
      refine hpj_getK (by rfl) (by rfl) (by rfl) rfl ?_
      refine hpx_iald (by rfl) (by rfl) (fun h0v1 h1v1 v1 ev1 => ?_)
      rw [show ((A.1 367 18)).toNatClampNeg = sd from by have := hn_cn (j := (A.1 367 18)) (by omega); omega, hHn] at ev1
      subst ev1
      refine hpj_cge (by rfl) ck cn (fun q2 => ?_) (fun q2 => ?_)
      ·
        refine hpa_iload_n (by rfl) rfl ?_
        exact hpa_ireturn (by rfl) rfl (hP _ _ ⟨rfl, _, rfl, by rw [show k = n by omega]⟩)
      ·
        refine hpa_aload_n (by rfl) rfl ?_
        refine hpa_get (v := .ref 397) (by rfl) (by rfl) (by rfl) rfl ?_
        refine hpa_bipush (by rfl) rfl ?_
        refine hpa_iload_n (by rfl) rfl ?_
        refine hpj_iadd (by rfl) hk_60 ck (by omega) (by omega) (fun z3 ez3 => ?_)
        refine hpx_iald (by rfl) (by rfl) (fun h0v4 h1v4 v4 ev4 => ?_)
        rw [show (z3).toNatClampNeg = 60 + k from by have := hn_cn (j := z3) (by omega); omega] at ev4
        have lv4 := ev4.symm.trans (show _ = ro (60 + k) from hg (60 + k) (by omega))
        clear ev4
        subst lv4
        refine hpj_zle (by rfl) rfl (fun q5 => ?_) (fun q5 => ?_)
        ·
          refine hpj_iinc (by rfl) rfl ck hk_1 (by omega) (by omega) (fun _ => rfl) (fun z6 ez6 => ?_)
          refine hpa_goto (by rfl) ?_
          exact ih4 z6 (Int32.ofNat (huBn (huMn ro) k)) (k + 1) (by omega) (huI (by omega) (by omega)) (by rw [huBn_n (decide_eq_false (by omega))])
        ·
          refine hpa_iload_n (by rfl) rfl ?_
          refine hpa_iconst (by rfl) rfl ?_
          refine hpa_iload_n (by rfl) rfl ?_
          refine hpa_ishl (by rfl) ?_
          refine hpa_ior (by rfl) ?_
          refine hpa_s1 (by rfl) (Or.inl ⟨_, rfl, rfl⟩) rfl ?_
          refine hpj_iinc (by rfl) rfl ck hk_1 (by omega) (by omega) (fun _ => rfl) (fun z7 ez7 => ?_)
          refine hpa_goto (by rfl) ?_
          exact ih4 z7 ((Int32.ofNat (huBn (huMn ro) k)) ||| ((Int32.ofNat 1) <<< ((Int32.ofNat k) &&& 31))) (k + 1) (by omega) (huI (by omega) (by omega)) (huBn_or (by omega) (decide_eq_true (by omega)))
  refine hpa_iconst (by rfl) rfl ?_
  refine hpa_s1 (by rfl) (Or.inl ⟨_, rfl, rfl⟩) rfl ?_
  refine hpa_iconst (by rfl) rfl ?_
  refine hpa_s1 (by rfl) (Or.inl ⟨_, rfl, rfl⟩) rfl ?_
  exact L4 _ (Int32.ofNat 0) (Int32.ofNat 0) 0 (by omega) rfl rfl
theorem hP225 {g d : Nat} {A : hs_A} {sd n : Nat} {D : hg_D} {ro : Nat → Int32} (hK : hrK sd D A) (hHn : A.2.1 376 sd = Int32.ofNat n) (h10 : n ≤ 10) (hg : ∀ k, k < 73 → A.2.1 396 k = ro k) : hpC g d 225 hm_m225 [.ref 368] A (fun r A' => A = A' ∧ ∃ z : Int32, r = some (.int z) ∧ z = Int32.ofNat (huBn (huMn ro) n)) := hpC.all (fun f d => hW225 hK hHn h10 hg (fun r A' h => h))
def uM220 : Nat := 12433080910244666053884556203670521002511403769933692940798248088790781645364885691826176
theorem hW220 {g d f : Nat} {A : hs_A} {sd n : Nat} {D : hg_D} {ro : Nat → Int32} (a1 : Int32) (hK : hrK sd D A) (hHn : A.2.1 376 sd = Int32.ofNat n) (h10 : n ≤ 10) (hg5 : ∀ k, k < 73 → A.2.1 395 k = ro k) (hO : huO ro n) (hD : ∀ t, t < 24 → 0 ≤ D.1 t ∧ D.1 t ≤ 255) (hD2 : 0 ≤ D.2.1 ∧ D.2.1 ≤ 10000) (hD3 : 0 ≤ D.2.2.1 ∧ D.2.2.1 ≤ 10000) (h70 : (ro 70).toInt ≤ 1000000) (hH0 : uf_H A) {P : Option Value → hs_A → Prop} (hP : ∀ (r : Option Value) (A' : hs_A), (∃ z : Int32, r = some (.int z) ∧ huIf (0 ≤ a1.toInt ∧ a1.toInt ≤ 72) (Int32.ofNat (huCt (huWm (huY D n false (Int32.ofNat 0) a1.toNatClampNeg ro)) n)) z) → P r A') : hpa (f, g) d (some (.int)) hm_t220 0 [.ref 368, .int a1, .retAddr 0, .retAddr 0] [] A P := by
  have k0 := hk_0
  have k1 := hk_1
  have k30 := hk_30
  have k4294967295 := hk_4294967295
  have k18 := hK.1
  have ksd := hK.2.1
  have cn := hn_c (n := n) (z := Int32.ofNat n) rfl (by omega)
  have o70 := hO.2.1
  have U0 : uf_W uM220 A A := uf_W.rfl
  have L22 : ∀ (f : Nat) (x22_3 : Int32) (x22_2 : Int32) (A22 : hs_A) (k : Nat) (bk : k ≤ n) (ek : x22_3 = Int32.ofNat k) (x22e2 : x22_2 = Int32.ofNat (huCt (huWm (huY D n false (Int32.ofNat 0) a1.toNatClampNeg ro)) k)) (RY : ∀ j, j < 73 → A22.2.1 396 j = (huY D n false (Int32.ofNat 0) a1.toNatClampNeg ro) j) (hb1 : 0 ≤ a1.toInt ∧ a1.toInt ≤ 72) (U22 : uf_W uM220 A A22) (H22 : uf_H A22), hpa (f, g) d (some (.int)) hm_t220 22 [.ref 368, .int a1, .int x22_2, .int x22_3] [] A22 P := by
    intro f
    induction f with
    | zero => intros; exact hpa.zero
    | succ f ih22 =>
      intro x22_3 x22_2 A22 k bk ek x22e2 RY hb1 U22 H22
      subst ek
      have ck := hn_c (n := k) (z := Int32.ofNat k) rfl (by omega)
      subst x22e2
      refine hpa_iload_nS (by rfl) rfl ?_
      refine hpa_aload_n (by rfl) rfl ?_
      refine hpa_get (v := .ref 377) (by rfl) (by rfl) (by rfl) rfl ?_
      refine hpa_aload_n (by rfl) rfl ?_
      refine hpj_getK (by rfl) (by rfl) (by rfl) rfl ?_
      have k18A22 : (A22.1 367 18).toInt = (sd : Int) := (congrArg Int32.toInt (U22.1 367 _ _ 18 rfl rfl (by decide +kernel))).trans hK.1
      refine hpx_iald (by rfl) (by rfl) (fun h0v1 h1v1 v1 ev1 => ?_)
      have hHnA22 : A22.2.1 376 sd = Int32.ofNat n := (U22.2.1 376 _ _ sd rfl (by have := hK.2.1; omega) (by decide +kernel)).trans hHn
      rw [show ((A22.1 367 18)).toNatClampNeg = sd from by have := hn_cn (j := (A22.1 367 18)) (by omega); omega, hHnA22] at ev1
      subst ev1
      refine hpj_cge (by rfl) ck cn (fun q2 => ?_) (fun q2 => ?_)
      ·
        refine hpa_iload_n (by rfl) rfl ?_
        exact hpa_ireturn (by rfl) rfl (hP _ _ ⟨_, rfl, Or.inl ⟨⟨by omega, by omega⟩, by rw [show k = n by omega]⟩⟩)
      ·
        refine hpa_aload_n (by rfl) rfl ?_
        refine hpa_get (v := .ref 397) (by rfl) (by rfl) (by rfl) rfl ?_
        refine hpa_bipush (by rfl) rfl ?_
        refine hpa_iload_n (by rfl) rfl ?_
        refine hpj_iadd (by rfl) hk_30 ck (by omega) (by omega) (fun z3 ez3 => ?_)
        refine hpx_iald (by rfl) (by rfl) (fun h0v4 h1v4 v4 ev4 => ?_)
        rw [show (z3).toNatClampNeg = 30 + k from by have := hn_cn (j := z3) (by omega); omega] at ev4
        have lv4 := ev4.symm.trans (show _ = (huY D n false (Int32.ofNat 0) a1.toNatClampNeg ro) (30 + k) from RY (30 + k) (by omega))
        clear ev4
        subst lv4
        refine hpj_zeq (by rfl) rfl (fun q5 => ?_) (fun q5 => ?_)
        ·
          refine hpj_iinc (by rfl) rfl ck hk_1 (by omega) (by omega) (fun _ => rfl) (fun z6 ez6 => ?_)
          refine hpa_goto (by rfl) ?_
          exact ih22 z6 (Int32.ofNat (huCt (huWm (huY D n false (Int32.ofNat 0) a1.toNatClampNeg ro)) k)) A22 (k + 1) (by omega) (huI (by omega) (by omega)) (by rw [huCt_n (huWm_n q5)]) RY (by omega) U22 H22
        ·
          refine hpa_iinc (by rfl) rfl rfl ?_
          refine hpj_iinc (by rfl) rfl ck hk_1 (by omega) (by omega) (fun _ => rfl) (fun z7 ez7 => ?_)
          refine hpa_goto (by rfl) ?_
          exact ih22 z7 ((Int32.ofNat (huCt (huWm (huY D n false (Int32.ofNat 0) a1.toNatClampNeg ro)) k)) + Int32.ofNat 1) A22 (k + 1) (by omega) (huI (by omega) (by omega)) (by rw [huCt_y (huWm_y q5), Int32.ofNat_add]) RY (by omega) U22 H22
  refine hpa_iload_n (by rfl) rfl ?_
  refine hpa_call2 (by rfl) (by decide) (by rfl) (by rfl) (by rfl) (uf_C (X := ug_x101) (j := 101) rfl rfl (uf_int uf_nil) hH0 (hP196 a1)) ?_
  rintro _ _ ⟨⟨rfl, z9, rfl, (⟨fz_A8, HS_A8⟩ | ⟨fz_A8, HS_A8⟩)⟩, -, -⟩
  ·
    have c1 := hn_cn (j := a1) (by omega)
    refine hpj_zne (by rfl) rfl (fun q10 => ?_) (fun q10 => False.elim (by omega))
    refine hpa_aload_n (by rfl) rfl ?_
    refine hpa_call0 (by rfl) (by rfl) (by rfl) (by rfl) (by rfl) (by rfl) (uf_C (X := ug_x158) (j := 158) rfl rfl (ug_L.cons (uf_rk_ok (by decide +kernel)) uf_nil) hH0 (hP172 hK hH0)) ?_
    rintro _ A11 ⟨⟨rfl, RW_A11, LS_A11, SL_A11⟩, wA11, HA11⟩
    have UA11 := (U0).trans (wA11.le (by decide +kernel : ug_wle ug_x158.2.2.2.1 uM220 = true))
    refine hpa_aload_n (by rfl) rfl ?_
    refine hpa_iload_n (by rfl) rfl ?_
    have hKA11 : hrK sd D A11 := hK.uf UA11 (by decide +kernel)
    have hHnA11 : A11.2.1 376 sd = Int32.ofNat n := (UA11.2.1 376 _ _ sd rfl (by have := hK.2.1; omega) (by decide +kernel)).trans hHn
    refine hpa_call0 (by rfl) (by rfl) (by rfl) (by rfl) (by rfl) (by rfl) (uf_C (X := ug_x159) (j := 159) rfl rfl (ug_L.cons (uf_rk_ok (by decide +kernel)) (uf_int uf_nil)) HA11 (hP185 (b := false) (m := a1.toNatClampNeg) a1 hKA11 hHnA11 h10 (fun k hk => (RW_A11 k hk).trans (hg5 k hk)) hO hD hD2 (LS_A11.trans (hrK.seed hK hD3)) (by rw [SL_A11]; exact hk_1) (by omega) (by omega) HA11)) ?_
    rintro _ A12 ⟨⟨rfl, RW_A12⟩, wA12, HA12⟩
    have UA12 := (UA11).trans (wA12.le (by decide +kernel : ug_wle ug_x159.2.2.2.1 uM220 = true))
    have RYA12 : ∀ j, j < 73 → A12.2.1 396 j = (huY D n false (Int32.ofNat 0) a1.toNatClampNeg ro) j := fun j hj => (RW_A12 j hj).trans (congrFun (huY_f a1.toNatClampNeg) j)
    refine hpa_iconst (by rfl) rfl ?_
    refine hpa_s1 (by rfl) (Or.inl ⟨_, rfl, rfl⟩) rfl ?_
    refine hpa_iconst (by rfl) rfl ?_
    refine hpa_s1 (by rfl) (Or.inl ⟨_, rfl, rfl⟩) rfl ?_
    exact L22 _ (Int32.ofNat 0) (Int32.ofNat 0) A12 0 (by omega) rfl rfl RYA12 (by omega) UA12 HA12
  ·
    refine hpj_zne (by rfl) rfl (fun q13 => False.elim (by omega)) (fun q13 => ?_)
    refine hpa_iconst (by rfl) rfl ?_
    exact hpa_ireturn (by rfl) rfl (hP _ _ ⟨_, rfl, Or.inr ⟨fun p => by omega, rfl⟩⟩)
theorem hP220 {g d : Nat} {A : hs_A} {sd n : Nat} {D : hg_D} {ro : Nat → Int32} (a1 : Int32) (hK : hrK sd D A) (hHn : A.2.1 376 sd = Int32.ofNat n) (h10 : n ≤ 10) (hg5 : ∀ k, k < 73 → A.2.1 395 k = ro k) (hO : huO ro n) (hD : ∀ t, t < 24 → 0 ≤ D.1 t ∧ D.1 t ≤ 255) (hD2 : 0 ≤ D.2.1 ∧ D.2.1 ≤ 10000) (hD3 : 0 ≤ D.2.2.1 ∧ D.2.2.1 ≤ 10000) (h70 : (ro 70).toInt ≤ 1000000) (hH0 : uf_H A) : hpC g d 220 hm_m220 [.ref 368, .int a1] A (fun r A' => ∃ z : Int32, r = some (.int z) ∧ huIf (0 ≤ a1.toInt ∧ a1.toInt ≤ 72) (Int32.ofNat (huCt (huWm (huY D n false (Int32.ofNat 0) a1.toNatClampNeg ro)) n)) z) := hpC.all (fun f d => hW220 a1 hK hHn h10 hg5 hO hD hD2 hD3 h70 hH0 (fun r A' h => h))
def uM226 : Nat := 12433080910244666053884556203670521002511403769933692940798248088790781645364885691826176
theorem hW226 {g d f : Nat} {A : hs_A} {sd n : Nat} {D : hg_D} {ro : Nat → Int32} (a1 : Int32) (hK : hrK sd D A) (hHn : A.2.1 376 sd = Int32.ofNat n) (h10 : n ≤ 10) (hg5 : ∀ k, k < 73 → A.2.1 395 k = ro k) (hO : huO ro n) (hD : ∀ t, t < 24 → 0 ≤ D.1 t ∧ D.1 t ≤ 255) (hD2 : 0 ≤ D.2.1 ∧ D.2.1 ≤ 10000) (hD3 : 0 ≤ D.2.2.1 ∧ D.2.2.1 ≤ 10000) (h70 : (ro 70).toInt ≤ 1000000) (hH0 : uf_H A) {P : Option Value → hs_A → Prop} (hP : ∀ (r : Option Value) (A' : hs_A), (∃ z : Int32, r = some (.int z) ∧ huIf (0 ≤ a1.toInt ∧ a1.toInt ≤ 72) (huB 10 (Int32.ofNat (huBn (huMn (huY D n true (Int32.ofInt D.2.2.1) a1.toNatClampNeg ro)) n))) z) → P r A') : hpa (f, g) d (some (.int)) hm_t226 0 [.ref 368, .int a1] [] A P := by
  have k4294967295 := hk_4294967295
  have k18 := hK.1
  have ksd := hK.2.1
  have cn := hn_c (n := n) (z := Int32.ofNat n) rfl (by omega)
  have o70 := hO.2.1
  have U0 : uf_W uM226 A A := uf_W.rfl
  refine hpa_iload_n (by rfl) rfl ?_
  refine hpa_call2 (by rfl) (by decide) (by rfl) (by rfl) (by rfl) (uf_C (X := ug_x101) (j := 101) rfl rfl (uf_int uf_nil) hH0 (hP196 a1)) ?_
  rintro _ _ ⟨⟨rfl, z2, rfl, (⟨fz_A1, HS_A1⟩ | ⟨fz_A1, HS_A1⟩)⟩, -, -⟩
  ·
    have c1 := hn_cn (j := a1) (by omega)
    refine hpj_zne (by rfl) rfl (fun q3 => ?_) (fun q3 => False.elim (by omega))
    refine hpa_aload_n (by rfl) rfl ?_
    refine hpa_call0 (by rfl) (by rfl) (by rfl) (by rfl) (by rfl) (by rfl) (uf_C (X := ug_x113) (j := 113) rfl rfl (ug_L.cons (uf_rk_ok (by decide +kernel)) uf_nil) hH0 (hP171 hK hH0)) ?_
    rintro _ A4 ⟨⟨rfl, RW_A4, LS_A4, SL_A4⟩, wA4, HA4⟩
    have UA4 := (U0).trans (wA4.le (by decide +kernel : ug_wle ug_x113.2.2.2.1 uM226 = true))
    refine hpa_aload_n (by rfl) rfl ?_
    refine hpa_iload_n (by rfl) rfl ?_
    have hKA4 : hrK sd D A4 := hK.uf UA4 (by decide +kernel)
    have hHnA4 : A4.2.1 376 sd = Int32.ofNat n := (UA4.2.1 376 _ _ sd rfl (by have := hK.2.1; omega) (by decide +kernel)).trans hHn
    refine hpa_call0 (by rfl) (by rfl) (by rfl) (by rfl) (by rfl) (by rfl) (uf_C (X := ug_x159) (j := 159) rfl rfl (ug_L.cons (uf_rk_ok (by decide +kernel)) (uf_int uf_nil)) HA4 (hP185 (b := true) (m := a1.toNatClampNeg) a1 hKA4 hHnA4 h10 (fun k hk => (RW_A4 k hk).trans (hg5 k hk)) hO hD hD2 (LS_A4.trans (hrK.seed hK hD3)) (by rw [SL_A4]; exact hk_0) (by omega) (by omega) HA4)) ?_
    rintro _ A5 ⟨⟨rfl, RW_A5⟩, wA5, HA5⟩
    have UA5 := (UA4).trans (wA5.le (by decide +kernel : ug_wle ug_x159.2.2.2.1 uM226 = true))
    refine hpa_aload_n (by rfl) rfl ?_
    have hKA5 : hrK sd D A5 := hK.uf UA5 (by decide +kernel)
    have hHnA5 : A5.2.1 376 sd = Int32.ofNat n := (UA5.2.1 376 _ _ sd rfl (by have := hK.2.1; omega) (by decide +kernel)).trans hHn
    refine hpa_call0 (by rfl) (by rfl) (by rfl) (by rfl) (by rfl) (by rfl) (uf_C (X := ug_x115) (j := 115) rfl rfl (ug_L.cons (uf_rk_ok (by decide +kernel)) uf_nil) HA5 (hP225 (ro := (huY D n true (Int32.ofInt D.2.2.1) a1.toNatClampNeg ro)) hKA5 hHnA5 h10 RW_A5)) ?_
    rintro _ _ ⟨⟨rfl, z7, rfl, Z_A6⟩, -, -⟩
    subst Z_A6
    refine hpa_call2 (by rfl) (by decide) (by rfl) (by rfl) (by rfl) (uf_C (X := ug_x126) (j := 126) rfl rfl (uf_int uf_nil) HA5 (hP166 (Int32.ofNat (huBn (huMn (huY D n true (Int32.ofInt D.2.2.1) a1.toNatClampNeg ro)) n)))) ?_
    rintro _ _ ⟨⟨rfl, z9, rfl, Z_A8⟩, -, -⟩
    subst Z_A8
    exact hpa_ireturn (by rfl) rfl (hP _ _ ⟨_, rfl, Or.inl ⟨⟨by omega, by omega⟩, rfl⟩⟩)
  ·
    refine hpj_zne (by rfl) rfl (fun q10 => False.elim (by omega)) (fun q10 => ?_)
    refine hpa_iconst (by rfl) rfl ?_
    exact hpa_ireturn (by rfl) rfl (hP _ _ ⟨_, rfl, Or.inr ⟨fun p => by omega, rfl⟩⟩)
theorem hP226 {g d : Nat} {A : hs_A} {sd n : Nat} {D : hg_D} {ro : Nat → Int32} (a1 : Int32) (hK : hrK sd D A) (hHn : A.2.1 376 sd = Int32.ofNat n) (h10 : n ≤ 10) (hg5 : ∀ k, k < 73 → A.2.1 395 k = ro k) (hO : huO ro n) (hD : ∀ t, t < 24 → 0 ≤ D.1 t ∧ D.1 t ≤ 255) (hD2 : 0 ≤ D.2.1 ∧ D.2.1 ≤ 10000) (hD3 : 0 ≤ D.2.2.1 ∧ D.2.2.1 ≤ 10000) (h70 : (ro 70).toInt ≤ 1000000) (hH0 : uf_H A) : hpC g d 226 hm_m226 [.ref 368, .int a1] A (fun r A' => ∃ z : Int32, r = some (.int z) ∧ huIf (0 ≤ a1.toInt ∧ a1.toInt ≤ 72) (huB 10 (Int32.ofNat (huBn (huMn (huY D n true (Int32.ofInt D.2.2.1) a1.toNatClampNeg ro)) n))) z) := hpC.all (fun f d => hW226 a1 hK hHn h10 hg5 hO hD hD2 hD3 h70 hH0 (fun r A' h => h))
def uM223 : Nat := 12433080910244666053884556203670521002511403769933692940798248088790781645364885691826176
theorem hW223 {g d f : Nat} {A : hs_A} {sd n : Nat} {D : hg_D} {ro : Nat → Int32} (a1 a2 a3 : Int32) (hK : hrK sd D A) (hHn : A.2.1 376 sd = Int32.ofNat n) (h10 : n ≤ 10) (hg5 : ∀ k, k < 73 → A.2.1 395 k = ro k) (hO : huO ro n) (hD : ∀ t, t < 24 → 0 ≤ D.1 t ∧ D.1 t ≤ 255) (hD2 : 0 ≤ D.2.1 ∧ D.2.1 ≤ 10000) (hD3 : 0 ≤ D.2.2.1 ∧ D.2.2.1 ≤ 10000) (h70 : (ro 70).toInt ≤ 1000000) (hH0 : uf_H A) {P : Option Value → hs_A → Prop} (hP : ∀ (r : Option Value) (A' : hs_A), (∃ z : Int32, r = some (.int z) ∧ huIf (0 ≤ a2.toInt ∧ a2.toInt ≤ 72 ∧ 0 ≤ a3.toInt ∧ a3.toInt ≤ 2 ∧ (a3.toInt = 2 ∨ 0 ≤ a1.toInt ∧ a1.toInt < (n : Int))) (huTh n (huY D n true (Int32.ofInt D.2.2.1) a2.toNatClampNeg ro) a1 a3) z) → P r A') : hpa (f, g) d (some (.int)) hm_t223 0 [.ref 368, .int a1, .int a2, .int a3] [] A P := by
  have k0 := hk_0
  have k1 := hk_1
  have k2 := hk_2
  have k30 := hk_30
  have k40 := hk_40
  have k4294967295 := hk_4294967295
  have k18 := hK.1
  have ksd := hK.2.1
  have cn := hn_c (n := n) (z := Int32.ofNat n) rfl (by omega)
  have o70 := hO.2.1
  have U0 : uf_W uM223 A A := uf_W.rfl
  refine hpa_iload_n (by rfl) rfl ?_
  refine hpa_call2 (by rfl) (by decide) (by rfl) (by rfl) (by rfl) (uf_C (X := ug_x101) (j := 101) rfl rfl (uf_int uf_nil) hH0 (hP196 a2)) ?_
  rintro _ _ ⟨⟨rfl, z2, rfl, (⟨fz_A1, HS_A1⟩ | ⟨fz_A1, HS_A1⟩)⟩, -, -⟩
  ·
    have c2 := hn_cn (j := a2) (by omega)
    refine hpj_zeq (by rfl) rfl (fun q3 => False.elim (by omega)) (fun q3 => ?_)
    refine hpa_iload_n (by rfl) rfl ?_
    refine hpa_iconst (by rfl) rfl ?_
    refine hpa_iconst (by rfl) rfl ?_
    refine hpa_call2 (by rfl) (by decide) (by rfl) (by rfl) (by rfl) (uf_C (X := ug_x104) (j := 104) rfl rfl (uf_int (uf_int (uf_int uf_nil))) hH0 (hP164 a3 (Int32.ofNat 0) (Int32.ofNat 2))) ?_
    rintro _ _ ⟨⟨rfl, z5, rfl, (⟨fz_A4, lo_A4, hi_A4⟩ | ⟨fz_A4, no_A4⟩)⟩, -, -⟩
    ·
      refine hpj_zeq (by rfl) rfl (fun q6 => False.elim (by omega)) (fun q6 => ?_)
      refine hpa_iload_n (by rfl) rfl ?_
      refine hpa_iconst (by rfl) rfl ?_
      refine hpj_cge (by rfl) rfl hk_2 (fun q7 => ?_) (fun q7 => ?_)
      ·
        refine hpa_aload_n (by rfl) rfl ?_
        refine hpa_call0 (by rfl) (by rfl) (by rfl) (by rfl) (by rfl) (by rfl) (uf_C (X := ug_x113) (j := 113) rfl rfl (ug_L.cons (uf_rk_ok (by decide +kernel)) uf_nil) hH0 (hP171 hK hH0)) ?_
        rintro _ A8 ⟨⟨rfl, RW_A8, LS_A8, SL_A8⟩, wA8, HA8⟩
        have UA8 := (U0).trans (wA8.le (by decide +kernel : ug_wle ug_x113.2.2.2.1 uM223 = true))
        refine hpa_aload_n (by rfl) rfl ?_
        refine hpa_iload_n (by rfl) rfl ?_
        have hKA8 : hrK sd D A8 := hK.uf UA8 (by decide +kernel)
        have hHnA8 : A8.2.1 376 sd = Int32.ofNat n := (UA8.2.1 376 _ _ sd rfl (by have := hK.2.1; omega) (by decide +kernel)).trans hHn
        refine hpa_call0 (by rfl) (by rfl) (by rfl) (by rfl) (by rfl) (by rfl) (uf_C (X := ug_x159) (j := 159) rfl rfl (ug_L.cons (uf_rk_ok (by decide +kernel)) (uf_int uf_nil)) HA8 (hP185 (b := true) (m := a2.toNatClampNeg) a2 hKA8 hHnA8 h10 (fun k hk => (RW_A8 k hk).trans (hg5 k hk)) hO hD hD2 (LS_A8.trans (hrK.seed hK hD3)) (by rw [SL_A8]; exact hk_0) (by omega) (by omega) HA8)) ?_
        rintro _ A9 ⟨⟨rfl, RW_A9⟩, wA9, HA9⟩
        have UA9 := (UA8).trans (wA9.le (by decide +kernel : ug_wle ug_x159.2.2.2.1 uM223 = true))
        refine hpa_iload_n (by rfl) rfl ?_
        refine hpj_zne (by rfl) rfl (fun q10 => ?_) (fun q10 => ?_)
        ·
          refine hpa_iload_n (by rfl) rfl ?_
          refine hpa_iconst (by rfl) rfl ?_
          refine hpj_cne (by rfl) rfl hk_1 (fun q11 => ?_) (fun q11 => ?_)
          ·
            refine hpa_aload_n (by rfl) rfl ?_
            have hKA9 : hrK sd D A9 := hK.uf UA9 (by decide +kernel)
            have hHnA9 : A9.2.1 376 sd = Int32.ofNat n := (UA9.2.1 376 _ _ sd rfl (by have := hK.2.1; omega) (by decide +kernel)).trans hHn
            refine hpa_call0 (by rfl) (by rfl) (by rfl) (by rfl) (by rfl) (by rfl) (uf_C (X := ug_x160) (j := 160) rfl rfl (ug_L.cons (uf_rk_ok (by decide +kernel)) uf_nil) HA9 (hP187 (ro := (huY D n true (Int32.ofInt D.2.2.1) a2.toNatClampNeg ro)) hKA9 hHnA9 h10 RW_A9)) ?_
            rintro _ _ ⟨⟨rfl, z13, rfl, Z_A12⟩, -, -⟩
            subst Z_A12
            exact hpa_ireturn (by rfl) rfl (hP _ _ ⟨_, rfl, Or.inl ⟨⟨by omega, by omega, by omega, by omega, by omega⟩, by unfold huTh; rw [if_neg (by omega), if_neg (by omega)]⟩⟩)
          ·
            refine hpa_aload_n (by rfl) rfl ?_
            refine hpa_get (v := .ref 397) (by rfl) (by rfl) (by rfl) rfl ?_
            refine hpa_bipush (by rfl) rfl ?_
            refine hpa_iload_n (by rfl) rfl ?_
            refine hpj_iadd (by rfl) hk_40 rfl (by omega) (by omega) (fun z14 ez14 => ?_)
            refine hpx_iald (by rfl) (by rfl) (fun h0v15 h1v15 v15 ev15 => ?_)
            rw [show (z14).toNatClampNeg = 40 + a1.toNatClampNeg from by have := hn_cn (j := z14) (by omega); omega] at ev15
            have lv15 := ev15.symm.trans (show _ = (huY D n true (Int32.ofInt D.2.2.1) a2.toNatClampNeg ro) (40 + a1.toNatClampNeg) from RW_A9 (40 + a1.toNatClampNeg) (by omega))
            clear ev15
            subst lv15
            refine hpa_call2 (by rfl) (by decide) (by rfl) (by rfl) (by rfl) (uf_C (X := ug_x126) (j := 126) rfl rfl (uf_int uf_nil) HA9 (hP166 ((huY D n true (Int32.ofInt D.2.2.1) a2.toNatClampNeg ro) (40 + a1.toNatClampNeg)))) ?_
            rintro _ _ ⟨⟨rfl, z17, rfl, Z_A16⟩, -, -⟩
            subst Z_A16
            refine hpa_goto (by rfl) ?_
            exact hpa_ireturn (by rfl) rfl (hP _ _ ⟨_, rfl, Or.inl ⟨⟨by omega, by omega, by omega, by omega, by omega⟩, by unfold huTh; rw [if_neg (by omega), if_pos (by omega)]⟩⟩)
        ·
          refine hpa_aload_n (by rfl) rfl ?_
          refine hpa_get (v := .ref 397) (by rfl) (by rfl) (by rfl) rfl ?_
          refine hpa_bipush (by rfl) rfl ?_
          refine hpa_iload_n (by rfl) rfl ?_
          refine hpj_iadd (by rfl) hk_30 rfl (by omega) (by omega) (fun z18 ez18 => ?_)
          refine hpx_iald (by rfl) (by rfl) (fun h0v19 h1v19 v19 ev19 => ?_)
          rw [show (z18).toNatClampNeg = 30 + a1.toNatClampNeg from by have := hn_cn (j := z18) (by omega); omega] at ev19
          have lv19 := ev19.symm.trans (show _ = (huY D n true (Int32.ofInt D.2.2.1) a2.toNatClampNeg ro) (30 + a1.toNatClampNeg) from RW_A9 (30 + a1.toNatClampNeg) (by omega))
          clear ev19
          subst lv19
          refine hpa_goto (by rfl) ?_
          exact hpa_ireturn (by rfl) rfl (hP _ _ ⟨_, rfl, Or.inl ⟨⟨by omega, by omega, by omega, by omega, by omega⟩, by unfold huTh; rw [if_pos (by omega)]⟩⟩)
      ·
        refine hpa_aload_n (by rfl) rfl ?_
        refine hpa_iload_n (by rfl) rfl ?_
        refine hpa_call0 (by rfl) (by rfl) (by rfl) (by rfl) (by rfl) (by rfl) (uf_C (X := ug_x97) (j := 97) rfl rfl (ug_L.cons (uf_rk_ok (by decide +kernel)) (uf_int uf_nil)) hH0 (hP167 a1 hK hHn h10 hg5)) ?_
        rintro _ _ ⟨⟨rfl, z21, rfl, (⟨fz_A20, HS_A20⟩ | ⟨fz_A20, HS_A20⟩)⟩, -, -⟩
        ·
          have c1 := hn_cn (j := a1) (by omega)
          refine hpj_zne (by rfl) rfl (fun q22 => ?_) (fun q22 => False.elim (by omega))
          refine hpa_aload_n (by rfl) rfl ?_
          refine hpa_call0 (by rfl) (by rfl) (by rfl) (by rfl) (by rfl) (by rfl) (uf_C (X := ug_x113) (j := 113) rfl rfl (ug_L.cons (uf_rk_ok (by decide +kernel)) uf_nil) hH0 (hP171 hK hH0)) ?_
          rintro _ A23 ⟨⟨rfl, RW_A23, LS_A23, SL_A23⟩, wA23, HA23⟩
          have UA23 := (U0).trans (wA23.le (by decide +kernel : ug_wle ug_x113.2.2.2.1 uM223 = true))
          refine hpa_aload_n (by rfl) rfl ?_
          refine hpa_iload_n (by rfl) rfl ?_
          have hKA23 : hrK sd D A23 := hK.uf UA23 (by decide +kernel)
          have hHnA23 : A23.2.1 376 sd = Int32.ofNat n := (UA23.2.1 376 _ _ sd rfl (by have := hK.2.1; omega) (by decide +kernel)).trans hHn
          refine hpa_call0 (by rfl) (by rfl) (by rfl) (by rfl) (by rfl) (by rfl) (uf_C (X := ug_x159) (j := 159) rfl rfl (ug_L.cons (uf_rk_ok (by decide +kernel)) (uf_int uf_nil)) HA23 (hP185 (b := true) (m := a2.toNatClampNeg) a2 hKA23 hHnA23 h10 (fun k hk => (RW_A23 k hk).trans (hg5 k hk)) hO hD hD2 (LS_A23.trans (hrK.seed hK hD3)) (by rw [SL_A23]; exact hk_0) (by omega) (by omega) HA23)) ?_
          rintro _ A24 ⟨⟨rfl, RW_A24⟩, wA24, HA24⟩
          have UA24 := (UA23).trans (wA24.le (by decide +kernel : ug_wle ug_x159.2.2.2.1 uM223 = true))
          refine hpa_iload_n (by rfl) rfl ?_
          refine hpj_zne (by rfl) rfl (fun q25 => ?_) (fun q25 => ?_)
          ·
            refine hpa_iload_n (by rfl) rfl ?_
            refine hpa_iconst (by rfl) rfl ?_
            refine hpj_cne (by rfl) rfl hk_1 (fun q26 => ?_) (fun q26 => ?_)
            ·
              refine hpa_aload_n (by rfl) rfl ?_
              have hKA24 : hrK sd D A24 := hK.uf UA24 (by decide +kernel)
              have hHnA24 : A24.2.1 376 sd = Int32.ofNat n := (UA24.2.1 376 _ _ sd rfl (by have := hK.2.1; omega) (by decide +kernel)).trans hHn
              refine hpa_call0 (by rfl) (by rfl) (by rfl) (by rfl) (by rfl) (by rfl) (uf_C (X := ug_x160) (j := 160) rfl rfl (ug_L.cons (uf_rk_ok (by decide +kernel)) uf_nil) HA24 (hP187 (ro := (huY D n true (Int32.ofInt D.2.2.1) a2.toNatClampNeg ro)) hKA24 hHnA24 h10 RW_A24)) ?_
              rintro _ _ ⟨⟨rfl, z28, rfl, Z_A27⟩, -, -⟩
              subst Z_A27
              exact hpa_ireturn (by rfl) rfl (hP _ _ ⟨_, rfl, Or.inl ⟨⟨by omega, by omega, by omega, by omega, by omega⟩, by unfold huTh; rw [if_neg (by omega), if_neg (by omega)]⟩⟩)
            ·
              refine hpa_aload_n (by rfl) rfl ?_
              refine hpa_get (v := .ref 397) (by rfl) (by rfl) (by rfl) rfl ?_
              refine hpa_bipush (by rfl) rfl ?_
              refine hpa_iload_n (by rfl) rfl ?_
              refine hpj_iadd (by rfl) hk_40 rfl (by omega) (by omega) (fun z29 ez29 => ?_)
              refine hpx_iald (by rfl) (by rfl) (fun h0v30 h1v30 v30 ev30 => ?_)
              rw [show (z29).toNatClampNeg = 40 + a1.toNatClampNeg from by have := hn_cn (j := z29) (by omega); omega] at ev30
              have lv30 := ev30.symm.trans (show _ = (huY D n true (Int32.ofInt D.2.2.1) a2.toNatClampNeg ro) (40 + a1.toNatClampNeg) from RW_A24 (40 + a1.toNatClampNeg) (by omega))
              clear ev30
              subst lv30
              refine hpa_call2 (by rfl) (by decide) (by rfl) (by rfl) (by rfl) (uf_C (X := ug_x126) (j := 126) rfl rfl (uf_int uf_nil) HA24 (hP166 ((huY D n true (Int32.ofInt D.2.2.1) a2.toNatClampNeg ro) (40 + a1.toNatClampNeg)))) ?_
              rintro _ _ ⟨⟨rfl, z32, rfl, Z_A31⟩, -, -⟩
              subst Z_A31
              refine hpa_goto (by rfl) ?_
              exact hpa_ireturn (by rfl) rfl (hP _ _ ⟨_, rfl, Or.inl ⟨⟨by omega, by omega, by omega, by omega, by omega⟩, by unfold huTh; rw [if_neg (by omega), if_pos (by omega)]⟩⟩)
          ·
            refine hpa_aload_n (by rfl) rfl ?_
            refine hpa_get (v := .ref 397) (by rfl) (by rfl) (by rfl) rfl ?_
            refine hpa_bipush (by rfl) rfl ?_
            refine hpa_iload_n (by rfl) rfl ?_
            refine hpj_iadd (by rfl) hk_30 rfl (by omega) (by omega) (fun z33 ez33 => ?_)
            refine hpx_iald (by rfl) (by rfl) (fun h0v34 h1v34 v34 ev34 => ?_)
            rw [show (z33).toNatClampNeg = 30 + a1.toNatClampNeg from by have := hn_cn (j := z33) (by omega); omega] at ev34
            have lv34 := ev34.symm.trans (show _ = (huY D n true (Int32.ofInt D.2.2.1) a2.toNatClampNeg ro) (30 + a1.toNatClampNeg) from RW_A24 (30 + a1.toNatClampNeg) (by omega))
            clear ev34
            subst lv34
            refine hpa_goto (by rfl) ?_
            exact hpa_ireturn (by rfl) rfl (hP _ _ ⟨_, rfl, Or.inl ⟨⟨by omega, by omega, by omega, by omega, by omega⟩, by unfold huTh; rw [if_pos (by omega)]⟩⟩)
        ·
          refine hpj_zne (by rfl) rfl (fun q35 => False.elim (by omega)) (fun q35 => ?_)
          refine hpa_iconst (by rfl) rfl ?_
          exact hpa_ireturn (by rfl) rfl (hP _ _ ⟨_, rfl, Or.inr ⟨fun p => by omega, rfl⟩⟩)
    ·
      refine hpj_zeq (by rfl) rfl (fun q36 => ?_) (fun q36 => False.elim (by omega))
      refine hpa_iconst (by rfl) rfl ?_
      exact hpa_ireturn (by rfl) rfl (hP _ _ ⟨_, rfl, Or.inr ⟨fun p => by omega, rfl⟩⟩)
  ·
    refine hpj_zeq (by rfl) rfl (fun q37 => ?_) (fun q37 => False.elim (by omega))
    refine hpa_iconst (by rfl) rfl ?_
    exact hpa_ireturn (by rfl) rfl (hP _ _ ⟨_, rfl, Or.inr ⟨fun p => by omega, rfl⟩⟩)
theorem hP223 {g d : Nat} {A : hs_A} {sd n : Nat} {D : hg_D} {ro : Nat → Int32} (a1 a2 a3 : Int32) (hK : hrK sd D A) (hHn : A.2.1 376 sd = Int32.ofNat n) (h10 : n ≤ 10) (hg5 : ∀ k, k < 73 → A.2.1 395 k = ro k) (hO : huO ro n) (hD : ∀ t, t < 24 → 0 ≤ D.1 t ∧ D.1 t ≤ 255) (hD2 : 0 ≤ D.2.1 ∧ D.2.1 ≤ 10000) (hD3 : 0 ≤ D.2.2.1 ∧ D.2.2.1 ≤ 10000) (h70 : (ro 70).toInt ≤ 1000000) (hH0 : uf_H A) : hpC g d 223 hm_m223 [.ref 368, .int a1, .int a2, .int a3] A (fun r A' => ∃ z : Int32, r = some (.int z) ∧ huIf (0 ≤ a2.toInt ∧ a2.toInt ≤ 72 ∧ 0 ≤ a3.toInt ∧ a3.toInt ≤ 2 ∧ (a3.toInt = 2 ∨ 0 ≤ a1.toInt ∧ a1.toInt < (n : Int))) (huTh n (huY D n true (Int32.ofInt D.2.2.1) a2.toNatClampNeg ro) a1 a3) z) := hpC.all (fun f d => hW223 a1 a2 a3 hK hHn h10 hg5 hO hD hD2 hD3 h70 hH0 (fun r A' h => h))
def uM224 : Nat := 12433080910244666053884556203670521002511403769933692940798248088790781645364885691826176
theorem hW224 {g d f : Nat} {A : hs_A} {sd n : Nat} {D : hg_D} {ro : Nat → Int32} (a1 a2 : Int32) (hK : hrK sd D A) (hHn : A.2.1 376 sd = Int32.ofNat n) (h10 : n ≤ 10) (hg5 : ∀ k, k < 73 → A.2.1 395 k = ro k) (hO : huO ro n) (hD : ∀ t, t < 24 → 0 ≤ D.1 t ∧ D.1 t ≤ 255) (hD2 : 0 ≤ D.2.1 ∧ D.2.1 ≤ 10000) (hD3 : 0 ≤ D.2.2.1 ∧ D.2.2.1 ≤ 10000) (h70 : (ro 70).toInt ≤ 1000000) (hH0 : uf_H A) {P : Option Value → hs_A → Prop} (hP : ∀ (r : Option Value) (A' : hs_A), (∃ z : Int32, r = some (.int z) ∧ huIf (0 ≤ a1.toInt ∧ a1.toInt < (n : Int) ∧ 1 ≤ a2.toInt ∧ a2.toInt ≤ 72) (Int32.ofNat (huQt D n ro a1.toNatClampNeg a2.toNatClampNeg)) z) → P r A') : hpa (f, g) d (some (.int)) hm_t224 0 [.ref 368, .int a1, .int a2, .retAddr 0, .retAddr 0] [] A P := by
  have k0 := hk_0
  have k1 := hk_1
  have k30 := hk_30
  have k4294967295 := hk_4294967295
  have k18 := hK.1
  have ksd := hK.2.1
  have cn := hn_c (n := n) (z := Int32.ofNat n) rfl (by omega)
  have o70 := hO.2.1
  have U0 : uf_W uM224 A A := uf_W.rfl
  have L26 : ∀ (f : Nat) (x26_4 : Int32) (x26_3 : Int32) (A26 : hs_A) (k : Nat) (bk : k ≤ 72) (ek : x26_4 = Int32.ofNat k) (x26e3 : x26_3 = Int32.ofNat (huQt D n ro a1.toNatClampNeg k)) (RY : ∀ j, j < 73 → A26.2.1 396 j = (huY D n false (Int32.ofInt D.2.2.1) k ro) j) (LS : A26.1 367 47 = (Int32.ofInt D.2.2.1)) (SL : (A26.1 367 48).toInt = 1) (hb1 : 0 ≤ a1.toInt ∧ a1.toInt < (n : Int)) (hb2 : 1 ≤ a2.toInt ∧ a2.toInt ≤ 72) (kk : (k : Int) ≤ a2.toInt) (U26 : uf_W uM224 A A26) (H26 : uf_H A26), hpa (f, g) d (some (.int)) hm_t224 26 [.ref 368, .int a1, .int a2, .int x26_3, .int x26_4] [] A26 P := by
    intro f
    induction f with
    | zero => intros; exact hpa.zero
    | succ f ih26 =>
      intro x26_4 x26_3 A26 k bk ek x26e3 RY LS SL hb1 hb2 kk U26 H26
      subst ek
      have ck := hn_c (n := k) (z := Int32.ofNat k) rfl (by omega)
      subst x26e3
      have c1 := hn_cn (j := a1) hb1.1
      have c2 := hn_cn (j := a2) (by omega)
      refine hpa_iloadS (by rfl) rfl ?_
      refine hpa_iload_n (by rfl) rfl ?_
      refine hpj_cge (by rfl) ck rfl (fun q1 => ?_) (fun q1 => ?_)
      ·
        refine hpa_iload_n (by rfl) rfl ?_
        exact hpa_ireturn (by rfl) rfl (hP _ _ ⟨_, rfl, Or.inl ⟨⟨by omega, by omega, by omega, by omega⟩, by rw [show k = a2.toNatClampNeg by omega]⟩⟩)
      ·
        refine hpa_aload_n (by rfl) rfl ?_
        have hKA26 : hrK sd D A26 := hK.uf U26 (by decide +kernel)
        have hHnA26 : A26.2.1 376 sd = Int32.ofNat n := (U26.2.1 376 _ _ sd rfl (by have := hK.2.1; omega) (by decide +kernel)).trans hHn
        refine hpa_call0 (by rfl) (by rfl) (by rfl) (by rfl) (by rfl) (by rfl) (uf_C (X := ug_x202) (j := 202) rfl rfl (ug_L.cons (uf_rk_ok (by decide +kernel)) uf_nil) H26 (hP184 (b := false) hKA26 hHnA26 h10 RY (hO.I (b := false) (s := (Int32.ofInt D.2.2.1)) h10 hD hD2 k (by omega)).1 hD hD2 LS SL H26)) ?_
        rintro _ A2 ⟨⟨rfl, RW_A2⟩, wA2, HA2⟩
        have UA2 := (U26).trans (wA2.le (by decide +kernel : ug_wle ug_x202.2.2.2.1 uM224 = true))
        have LSA2 : A2.1 367 47 = (Int32.ofInt D.2.2.1) := (wA2.1 367 _ _ 47 rfl rfl (by decide +kernel)).trans LS
        have SLA2 : (A2.1 367 48).toInt = 1 := (congrArg Int32.toInt (wA2.1 367 _ _ 48 rfl rfl (by decide +kernel))).trans SL
        have RZA2 : ∀ j, j < 73 → A2.2.1 396 j = (huY D n false (Int32.ofNat 0) (k + 1) ro) j := fun j hj => (RW_A2 j hj).trans (congrFun (huY_f (k + 1)) j)
        refine hpa_aload_n (by rfl) rfl ?_
        refine hpa_get (v := .ref 397) (by rfl) (by rfl) (by rfl) rfl ?_
        refine hpa_bipush (by rfl) rfl ?_
        refine hpa_iload_n (by rfl) rfl ?_
        refine hpj_iadd (by rfl) hk_30 rfl (by omega) (by omega) (fun z3 ez3 => ?_)
        refine hpx_iald (by rfl) (by rfl) (fun h0v4 h1v4 v4 ev4 => ?_)
        rw [show (z3).toNatClampNeg = 30 + a1.toNatClampNeg from by have := hn_cn (j := z3) (by omega); omega] at ev4
        have lv4 := ev4.symm.trans (show _ = (huY D n false (Int32.ofNat 0) (k + 1) ro) (30 + a1.toNatClampNeg) from RZA2 (30 + a1.toNatClampNeg) (by omega))
        clear ev4
        subst lv4
        refine hpj_zne (by rfl) rfl (fun q5 => ?_) (fun q5 => ?_)
        ·
          refine hpj_iinc (by rfl) rfl ck hk_1 (by omega) (by omega) (fun _ => rfl) (fun z6 ez6 => ?_)
          refine hpa_goto (by rfl) ?_
          exact ih26 z6 (Int32.ofNat (huQt D n ro a1.toNatClampNeg k)) A2 (k + 1) (by omega) (huI (by omega) (by omega)) (huQt_n q5) RW_A2 LSA2 SLA2 (by omega) (by omega) (by omega) UA2 HA2
        ·
          refine hpa_iinc (by rfl) rfl rfl ?_
          refine hpj_iinc (by rfl) rfl ck hk_1 (by omega) (by omega) (fun _ => rfl) (fun z7 ez7 => ?_)
          refine hpa_goto (by rfl) ?_
          exact ih26 z7 ((Int32.ofNat (huQt D n ro a1.toNatClampNeg k)) + Int32.ofNat 1) A2 (k + 1) (by omega) (huI (by omega) (by omega)) (huQt_y q5) RW_A2 LSA2 SLA2 (by omega) (by omega) (by omega) UA2 HA2
  refine hpa_aload_n (by rfl) rfl ?_
  refine hpa_iload_n (by rfl) rfl ?_
  refine hpa_call0 (by rfl) (by rfl) (by rfl) (by rfl) (by rfl) (by rfl) (uf_C (X := ug_x97) (j := 97) rfl rfl (ug_L.cons (uf_rk_ok (by decide +kernel)) (uf_int uf_nil)) hH0 (hP167 a1 hK hHn h10 hg5)) ?_
  rintro _ _ ⟨⟨rfl, z9, rfl, (⟨fz_A8, HS_A8⟩ | ⟨fz_A8, HS_A8⟩)⟩, -, -⟩
  ·
    have c1 := hn_cn (j := a1) (by omega)
    refine hpj_zeq (by rfl) rfl (fun q10 => False.elim (by omega)) (fun q10 => ?_)
    refine hpa_iload_n (by rfl) rfl ?_
    refine hpa_call2 (by rfl) (by decide) (by rfl) (by rfl) (by rfl) (uf_C (X := ug_x103) (j := 103) rfl rfl (uf_int uf_nil) hH0 (hP197 a2)) ?_
    rintro _ _ ⟨⟨rfl, z12, rfl, (⟨fz_A11, HS_A11⟩ | ⟨fz_A11, HS_A11⟩)⟩, -, -⟩
    ·
      have c2 := hn_cn (j := a2) (by omega)
      refine hpj_zne (by rfl) rfl (fun q13 => ?_) (fun q13 => False.elim (by omega))
      refine hpa_aload_n (by rfl) rfl ?_
      refine hpa_call0 (by rfl) (by rfl) (by rfl) (by rfl) (by rfl) (by rfl) (uf_C (X := ug_x158) (j := 158) rfl rfl (ug_L.cons (uf_rk_ok (by decide +kernel)) uf_nil) hH0 (hP172 hK hH0)) ?_
      rintro _ A14 ⟨⟨rfl, RW_A14, LS_A14, SL_A14⟩, wA14, HA14⟩
      have UA14 := (U0).trans (wA14.le (by decide +kernel : ug_wle ug_x158.2.2.2.1 uM224 = true))
      refine hpa_iconst (by rfl) rfl ?_
      refine hpa_s1 (by rfl) (Or.inl ⟨_, rfl, rfl⟩) rfl ?_
      refine hpa_iconst (by rfl) rfl ?_
      refine hpa_s1 (by rfl) (Or.inr ⟨_, rfl, rfl⟩) rfl ?_
      exact L26 _ (Int32.ofNat 0) (Int32.ofNat 0) A14 0 (by omega) rfl rfl (fun k hk => (RW_A14 k hk).trans (hg5 k hk)) (LS_A14.trans (hrK.seed hK hD3)) (by rw [SL_A14]; exact hk_1) (by omega) (by omega) (by omega) UA14 HA14
    ·
      refine hpj_zne (by rfl) rfl (fun q15 => False.elim (by omega)) (fun q15 => ?_)
      refine hpa_iconst (by rfl) rfl ?_
      exact hpa_ireturn (by rfl) rfl (hP _ _ ⟨_, rfl, Or.inr ⟨fun p => by omega, rfl⟩⟩)
  ·
    refine hpj_zeq (by rfl) rfl (fun q16 => ?_) (fun q16 => False.elim (by omega))
    refine hpa_iconst (by rfl) rfl ?_
    exact hpa_ireturn (by rfl) rfl (hP _ _ ⟨_, rfl, Or.inr ⟨fun p => by omega, rfl⟩⟩)
theorem hP224 {g d : Nat} {A : hs_A} {sd n : Nat} {D : hg_D} {ro : Nat → Int32} (a1 a2 : Int32) (hK : hrK sd D A) (hHn : A.2.1 376 sd = Int32.ofNat n) (h10 : n ≤ 10) (hg5 : ∀ k, k < 73 → A.2.1 395 k = ro k) (hO : huO ro n) (hD : ∀ t, t < 24 → 0 ≤ D.1 t ∧ D.1 t ≤ 255) (hD2 : 0 ≤ D.2.1 ∧ D.2.1 ≤ 10000) (hD3 : 0 ≤ D.2.2.1 ∧ D.2.2.1 ≤ 10000) (h70 : (ro 70).toInt ≤ 1000000) (hH0 : uf_H A) : hpC g d 224 hm_m224 [.ref 368, .int a1, .int a2] A (fun r A' => ∃ z : Int32, r = some (.int z) ∧ huIf (0 ≤ a1.toInt ∧ a1.toInt < (n : Int) ∧ 1 ≤ a2.toInt ∧ a2.toInt ≤ 72) (Int32.ofNat (huQt D n ro a1.toNatClampNeg a2.toNatClampNeg)) z) := hpC.all (fun f d => hW224 a1 a2 hK hHn h10 hg5 hO hD hD2 hD3 h70 hH0 (fun r A' h => h))
def uM231 : Nat := 12433080910244666053884556203670521002511403769933692940798248088790781645364885691826176
theorem hW231 {g d f : Nat} {A : hs_A} {sd n : Nat} {D : hg_D} {ro : Nat → Int32} (a1 a2 a3 : Int32) (hK : hrK sd D A) (hHn : A.2.1 376 sd = Int32.ofNat n) (h10 : n ≤ 10) (hg5 : ∀ k, k < 73 → A.2.1 395 k = ro k) (hO : huO ro n) (hD : ∀ t, t < 24 → 0 ≤ D.1 t ∧ D.1 t ≤ 255) (hD2 : 0 ≤ D.2.1 ∧ D.2.1 ≤ 10000) (hD3 : 0 ≤ D.2.2.1 ∧ D.2.2.1 ≤ 10000) (h70 : (ro 70).toInt ≤ 1000000) (hH0 : uf_H A) {P : Option Value → hs_A → Prop} (hP : ∀ (r : Option Value) (A' : hs_A), (∃ z : Int32, r = some (.int z) ∧ huIf ((0 ≤ a1.toInt ∧ a1.toInt < (n : Int)) ∧ (0 ≤ a2.toInt ∧ a2.toInt ≤ 72) ∧ 1 ≤ a3.toInt ∧ a3.toInt ≤ 20) (Int32.ofNat (huCt (huYr D n ro a1.toNatClampNeg a2.toNatClampNeg) a3.toNatClampNeg)) z) → P r A') : hpa (f, g) d (some (.int)) hm_t231 0 [.ref 368, .int a1, .int a2, .int a3, .retAddr 0, .retAddr 0] [] A P := by
  have k0 := hk_0
  have k1 := hk_1
  have k20 := hk_20
  have k4294967295 := hk_4294967295
  have k18 := hK.1
  have ksd := hK.2.1
  have cn := hn_c (n := n) (z := Int32.ofNat n) rfl (by omega)
  have o70 := hO.2.1
  have U0 : uf_W uM231 A A := uf_W.rfl
  have L33 : ∀ (f : Nat) (x33_5 : Int32) (x33_4 : Int32) (A33 : hs_A) (i : Nat) (bi : i ≤ 20) (ei : x33_5 = Int32.ofNat i) (x33e4 : x33_4 = Int32.ofNat (huCt (huYr D n ro a1.toNatClampNeg a2.toNatClampNeg) i)) (hb1 : 0 ≤ a1.toInt ∧ a1.toInt < (n : Int)) (hb2 : 0 ≤ a2.toInt ∧ a2.toInt ≤ 72) (hb3 : 1 ≤ a3.toInt ∧ a3.toInt ≤ 20) (ii : (i : Int) ≤ a3.toInt) (U33 : uf_W uM231 A A33) (H33 : uf_H A33), hpa (f, g) d (some (.int)) hm_t231 33 [.ref 368, .int a1, .int a2, .int a3, .int x33_4, .int x33_5] [] A33 P := by
    intro f
    induction f with
    | zero => intros; exact hpa.zero
    | succ f ih33 =>
      intro x33_5 x33_4 A33 i bi ei x33e4 hb1 hb2 hb3 ii U33 H33
      subst ei
      have ci := hn_c (n := i) (z := Int32.ofNat i) rfl (by omega)
      subst x33e4
      have c1 := hn_cn (j := a1) hb1.1
      have c2 := hn_cn (j := a2) hb2.1
      have c3 := hn_cn (j := a3) (by omega)
      refine hpa_iloadS (by rfl) rfl ?_
      refine hpa_iload_n (by rfl) rfl ?_
      refine hpj_cge (by rfl) ci rfl (fun q1 => ?_) (fun q1 => ?_)
      ·
        refine hpa_iload (by rfl) rfl ?_
        exact hpa_ireturn (by rfl) rfl (hP _ _ ⟨_, rfl, Or.inl ⟨⟨⟨by omega, by omega⟩, ⟨by omega, by omega⟩, by omega, by omega⟩, by rw [show i = a3.toNatClampNeg by omega]⟩⟩)
      ·
        refine hpa_aload_n (by rfl) rfl ?_
        have hKA33 : hrK sd D A33 := hK.uf U33 (by decide +kernel)
        have hg5wA33 : ∀ k, k < 73 → A33.2.1 395 k = ro k := fun k hk => (U33.2.1 395 _ _ k rfl hk (by decide +kernel)).trans (hg5 k hk)
        refine hpa_call0 (by rfl) (by rfl) (by rfl) (by rfl) (by rfl) (by rfl) (uf_C (X := ug_x113) (j := 113) rfl rfl (ug_L.cons (uf_rk_ok (by decide +kernel)) uf_nil) H33 (hP171 hKA33 H33)) ?_
        rintro _ A2 ⟨⟨rfl, RW_A2, LS_A2, SL_A2⟩, wA2, HA2⟩
        have UA2 := (U33).trans (wA2.le (by decide +kernel : ug_wle ug_x113.2.2.2.1 uM231 = true))
        refine hpa_aload_n (by rfl) rfl ?_
        refine hpa_dupR (by rfl) ?_
        refine hpj_getK (by rfl) (by rfl) (by rfl) rfl ?_
        have hKA2 : hrK sd D A2 := hK.uf UA2 (by decide +kernel)
        rw [show (A2.1 367 47) = (Int32.ofInt D.2.2.1) from LS_A2.trans (hrK.seed hKA33 hD3)]
        refine hpa_iload (by rfl) rfl ?_
        refine hpa_iadd (by rfl) ?_
        refine hpj_putI (by rfl) (by rfl) (by rfl) (by rfl) (fun A3 eA3 fA3 => ?_)
        have UA3 := (UA2).put eA3 fA3 (by decide +kernel)
        have HA3 := (HA2).e (congrArg (fun q => q.2.2) fA3)
        refine hpa_aload_n (by rfl) rfl ?_
        refine hpa_iload_n (by rfl) rfl ?_
        have hKA3 : hrK sd D A3 := hK.uf UA3 (by decide +kernel)
        have hHnA3 : A3.2.1 376 sd = Int32.ofNat n := (UA3.2.1 376 _ _ sd rfl (by have := hK.2.1; omega) (by decide +kernel)).trans hHn
        refine hpa_call0 (by rfl) (by rfl) (by rfl) (by rfl) (by rfl) (by rfl) (uf_C (X := ug_x159) (j := 159) rfl rfl (ug_L.cons (uf_rk_ok (by decide +kernel)) (uf_int uf_nil)) HA3 (hP185 (ro := ro) (b := true) (m := a2.toNatClampNeg) a2 hKA3 hHnA3 h10 (fun k hk => (by rw [fA3]; exact (RW_A2 k hk).trans (hg5wA33 k hk))) hO hD hD2 (by rw [eA3, hup1]) (by rw [eA3, hup2 (by omega), SL_A2]; exact hk_0) (by omega) (by omega) HA3)) ?_
        rintro _ A4 ⟨⟨rfl, RW_A4⟩, wA4, HA4⟩
        have UA4 := (UA3).trans (wA4.le (by decide +kernel : ug_wle ug_x159.2.2.2.1 uM231 = true))
        have OY := (hO.I (b := true) (s := (Int32.ofInt D.2.2.1) + Int32.ofNat i) h10 hD hD2 a2.toNatClampNeg (by omega)).1
        refine hpa_aload_n (by rfl) rfl ?_
        refine hpa_iload_n (by rfl) rfl ?_
        refine hpa_call0 (by rfl) (by rfl) (by rfl) (by rfl) (by rfl) (by rfl) (uf_C (X := ug_x116) (j := 116) rfl rfl (ug_L.cons (uf_rk_ok (by decide +kernel)) (uf_int uf_nil)) HA4 (hP186 (ro := (huY D n true ((Int32.ofInt D.2.2.1) + Int32.ofNat i) a2.toNatClampNeg ro)) (h := a1.toNatClampNeg) a1 RW_A4 (by omega) (huI (by omega) (by omega)))) ?_
        rintro _ _ ⟨⟨rfl, z6, rfl, (⟨fz_A5, HE_A5⟩ | ⟨fz_A5, HE_A5⟩)⟩, -, -⟩
        ·
          refine hpj_zeq (by rfl) rfl (fun q7 => False.elim (by omega)) (fun q7 => ?_)
          refine hpa_iinc (by rfl) rfl rfl ?_
          refine hpj_iinc (by rfl) rfl ci hk_1 (by omega) (by omega) (fun _ => rfl) (fun z8 ez8 => ?_)
          refine hpa_goto (by rfl) ?_
          exact ih33 z8 ((Int32.ofNat (huCt (huYr D n ro a1.toNatClampNeg a2.toNatClampNeg) i)) + Int32.ofNat 1) A4 (i + 1) (by omega) (huI (by omega) (by omega)) (by rw [huCt_y (show huYr D n ro a1.toNatClampNeg a2.toNatClampNeg i = true from HE_A5), Int32.ofNat_add]) (by omega) (by omega) (by omega) (by omega) UA4 HA4
        ·
          refine hpj_zeq (by rfl) rfl (fun q9 => ?_) (fun q9 => False.elim (by omega))
          refine hpj_iinc (by rfl) rfl ci hk_1 (by omega) (by omega) (fun _ => rfl) (fun z10 ez10 => ?_)
          refine hpa_goto (by rfl) ?_
          exact ih33 z10 (Int32.ofNat (huCt (huYr D n ro a1.toNatClampNeg a2.toNatClampNeg) i)) A4 (i + 1) (by omega) (huI (by omega) (by omega)) (by rw [huCt_n (show huYr D n ro a1.toNatClampNeg a2.toNatClampNeg i = false from HE_A5)]) (by omega) (by omega) (by omega) (by omega) UA4 HA4
  refine hpa_aload_n (by rfl) rfl ?_
  refine hpa_iload_n (by rfl) rfl ?_
  refine hpa_call0 (by rfl) (by rfl) (by rfl) (by rfl) (by rfl) (by rfl) (uf_C (X := ug_x97) (j := 97) rfl rfl (ug_L.cons (uf_rk_ok (by decide +kernel)) (uf_int uf_nil)) hH0 (hP167 a1 hK hHn h10 hg5)) ?_
  rintro _ _ ⟨⟨rfl, z12, rfl, (⟨fz_A11, HS_A11⟩ | ⟨fz_A11, HS_A11⟩)⟩, -, -⟩
  ·
    refine hpj_zeq (by rfl) rfl (fun q13 => False.elim (by omega)) (fun q13 => ?_)
    refine hpa_iload_n (by rfl) rfl ?_
    refine hpa_call2 (by rfl) (by decide) (by rfl) (by rfl) (by rfl) (uf_C (X := ug_x101) (j := 101) rfl rfl (uf_int uf_nil) hH0 (hP196 a2)) ?_
    rintro _ _ ⟨⟨rfl, z15, rfl, (⟨fz_A14, HS_A14⟩ | ⟨fz_A14, HS_A14⟩)⟩, -, -⟩
    ·
      refine hpj_zeq (by rfl) rfl (fun q16 => False.elim (by omega)) (fun q16 => ?_)
      refine hpa_iload_n (by rfl) rfl ?_
      refine hpa_iconst (by rfl) rfl ?_
      refine hpa_bipush (by rfl) rfl ?_
      refine hpa_call2 (by rfl) (by decide) (by rfl) (by rfl) (by rfl) (uf_C (X := ug_x104) (j := 104) rfl rfl (uf_int (uf_int (uf_int uf_nil))) hH0 (hP164 a3 (Int32.ofNat 1) (Int32.ofNat 20))) ?_
      rintro _ _ ⟨⟨rfl, z18, rfl, (⟨fz_A17, lo_A17, hi_A17⟩ | ⟨fz_A17, no_A17⟩)⟩, -, -⟩
      ·
        refine hpj_zne (by rfl) rfl (fun q19 => ?_) (fun q19 => False.elim (by omega))
        refine hpa_iconst (by rfl) rfl ?_
        refine hpa_s1 (by rfl) (Or.inr ⟨_, rfl, rfl⟩) rfl ?_
        refine hpa_iconst (by rfl) rfl ?_
        refine hpa_s1 (by rfl) (Or.inr ⟨_, rfl, rfl⟩) rfl ?_
        exact L33 _ (Int32.ofNat 0) (Int32.ofNat 0) A 0 (by omega) rfl rfl (by omega) (by omega) (by omega) (by omega) U0 hH0
      ·
        refine hpj_zne (by rfl) rfl (fun q20 => False.elim (by omega)) (fun q20 => ?_)
        refine hpa_iconst (by rfl) rfl ?_
        exact hpa_ireturn (by rfl) rfl (hP _ _ ⟨_, rfl, Or.inr ⟨fun p => by omega, rfl⟩⟩)
    ·
      refine hpj_zeq (by rfl) rfl (fun q21 => ?_) (fun q21 => False.elim (by omega))
      refine hpa_iconst (by rfl) rfl ?_
      exact hpa_ireturn (by rfl) rfl (hP _ _ ⟨_, rfl, Or.inr ⟨fun p => by omega, rfl⟩⟩)
  ·
    refine hpj_zeq (by rfl) rfl (fun q22 => ?_) (fun q22 => False.elim (by omega))
    refine hpa_iconst (by rfl) rfl ?_
    exact hpa_ireturn (by rfl) rfl (hP _ _ ⟨_, rfl, Or.inr ⟨fun p => by omega, rfl⟩⟩)
theorem hP231 {g d : Nat} {A : hs_A} {sd n : Nat} {D : hg_D} {ro : Nat → Int32} (a1 a2 a3 : Int32) (hK : hrK sd D A) (hHn : A.2.1 376 sd = Int32.ofNat n) (h10 : n ≤ 10) (hg5 : ∀ k, k < 73 → A.2.1 395 k = ro k) (hO : huO ro n) (hD : ∀ t, t < 24 → 0 ≤ D.1 t ∧ D.1 t ≤ 255) (hD2 : 0 ≤ D.2.1 ∧ D.2.1 ≤ 10000) (hD3 : 0 ≤ D.2.2.1 ∧ D.2.2.1 ≤ 10000) (h70 : (ro 70).toInt ≤ 1000000) (hH0 : uf_H A) : hpC g d 231 hm_m231 [.ref 368, .int a1, .int a2, .int a3] A (fun r A' => ∃ z : Int32, r = some (.int z) ∧ huIf ((0 ≤ a1.toInt ∧ a1.toInt < (n : Int)) ∧ (0 ≤ a2.toInt ∧ a2.toInt ≤ 72) ∧ 1 ≤ a3.toInt ∧ a3.toInt ≤ 20) (Int32.ofNat (huCt (huYr D n ro a1.toNatClampNeg a2.toNatClampNeg) a3.toNatClampNeg)) z) := hpC.all (fun f d => hW231 a1 a2 a3 hK hHn h10 hg5 hO hD hD2 hD3 h70 hH0 (fun r A' h => h))
