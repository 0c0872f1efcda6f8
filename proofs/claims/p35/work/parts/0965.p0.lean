/-! WHAT HOLDS IF A METHOD ENDS (no bounds, no rank is asked for): hpa at a place in a method, hpC of a method; fg = (fuel of the frame, fuel of the calls) -/
def hy (fg : Nat × Nat) (d : Nat) (ret : Option FieldType) (tb : hc_K) (pc : Nat) (l st : List Value) (h : hc_H) (P : Option Value → hc_H → Prop) : Prop :=
  ∀ f, f ≤ fg.1 → ∀ R, hc_run (0, fun _ => none) hm_pg (hx_call fg.2 d) ret tb f (pc, l, st, hs_n, h, 0, 0) = some R → ∃ (r : Option Value) (h' : hc_H), R = (r, hs_n, h', 0, 0) ∧ P r h'
theorem hy_stepS {f g : Nat} {d : Nat} {ret : Option FieldType} {tb : hc_K} {pc : Nat} {l st : List Value} {h : hc_H} {P : Option Value → hc_H → Prop} {pc' : Nat} {l' st' : List Value} {h' : hc_H} (hs : hc_step1 (0, fun _ => none) hm_pg (hx_call g d) ret tb (pc, l, st, hs_n, h, 0, 0) = some (.inl (pc', l', st', hs_n, h', 0, 0))) (k : hy (f, g) d ret tb pc' l' st' h' P) : hy (f + 1, g) d ret tb pc l st h P := by
  intro f1 hf1 R hR
  match f1, hf1, hR with
  | 0, _, hR => cases hR
  | f1 + 1, hf1, hR =>
    have e : (match hc_step1 (0, fun _ => none) hm_pg (hx_call g d) ret tb (pc, l, st, hs_n, h, 0, 0) with
      | none => none
      | some (.inl S') => hc_run (0, fun _ => none) hm_pg (hx_call g d) ret tb f1 S'
      | some (.inr r) => some (r, hs_n, h, 0, 0)) = some R := hR
    rw [hs] at e
    exact k f1 (Nat.le_of_succ_le_succ hf1) R e
theorem hy_mono {f f' g : Nat} {d : Nat} {ret : Option FieldType} {tb : hc_K} {pc : Nat} {l st : List Value} {h : hc_H} {P : Option Value → hc_H → Prop} (hf : f ≤ f') (k : hy (f', g) d ret tb pc l st h P) : hy (f, g) d ret tb pc l st h P := fun f1 h1 => k f1 (Nat.le_trans h1 hf)
theorem hy_stepG {fg : Nat × Nat} {d : Nat} {ret : Option FieldType} {tb : hc_K} {pc : Nat} {l st : List Value} {h : hc_H} {P : Option Value → hc_H → Prop} {pc' : Nat} {l' st' : List Value} {h' : hc_H} (hs : hc_step1 (0, fun _ => none) hm_pg (hx_call fg.2 d) ret tb (pc, l, st, hs_n, h, 0, 0) = some (.inl (pc', l', st', hs_n, h', 0, 0))) (k : hy fg d ret tb pc' l' st' h' P) : hy fg d ret tb pc l st h P := hy_mono (Nat.le_succ fg.1) (hy_stepS hs k)
theorem hy_step {fg : Nat × Nat} {d : Nat} {ret : Option FieldType} {tb : hc_K} {pc : Nat} {l st : List Value} {h : hc_H} {P : Option Value → hc_H → Prop} {pc' : Nat} {l' st' : List Value} {h' : hc_H} (hs : ∀ g, 0 ≤ g → hc_step1 (0, fun _ => none) hm_pg (hx_call g d) ret tb (pc, l, st, hs_n, h, 0, 0) = some (.inl (pc', l', st', hs_n, h', 0, 0))) (k : hy fg d ret tb pc' l' st' h' P) : hy fg d ret tb pc l st h P := hy_stepG (hs _ (Nat.zero_le _)) k
theorem hy_none {fg : Nat × Nat} {d : Nat} {ret : Option FieldType} {tb : hc_K} {pc : Nat} {l st : List Value} {h : hc_H} {P : Option Value → hc_H → Prop} (hs : hc_step1 (0, fun _ => none) hm_pg (hx_call fg.2 d) ret tb (pc, l, st, hs_n, h, 0, 0) = none) : hy fg d ret tb pc l st h P := by
  intro f1 hf1 R hR
  match f1, hR with
  | 0, hR => cases hR
  | f1 + 1, hR =>
    have e : (match hc_step1 (0, fun _ => none) hm_pg (hx_call fg.2 d) ret tb (pc, l, st, hs_n, h, 0, 0) with
      | none => none
      | some (.inl S') => hc_run (0, fun _ => none) hm_pg (hx_call fg.2 d) ret tb f1 S'
      | some (.inr r) => some (r, hs_n, h, 0, 0)) = some R := hR
    rw [hs] at e
    cases e
theorem hy_ret {fg : Nat × Nat} {d : Nat} {ret : Option FieldType} {tb : hc_K} {pc : Nat} {l st : List Value} {h : hc_H} {P : Option Value → hc_H → Prop} {r : Option Value} (hs : ∀ g, hc_step1 (0, fun _ => none) hm_pg (hx_call g d) ret tb (pc, l, st, hs_n, h, 0, 0) = some (.inr r)) (hP : P r h) : hy fg d ret tb pc l st h P := by
  intro f1 hf1 R hR
  match f1, hR with
  | 0, hR => cases hR
  | f1 + 1, hR =>
    have e : (match hc_step1 (0, fun _ => none) hm_pg (hx_call fg.2 d) ret tb (pc, l, st, hs_n, h, 0, 0) with
      | none => none
      | some (.inl S') => hc_run (0, fun _ => none) hm_pg (hx_call fg.2 d) ret tb f1 S'
      | some (.inr r) => some (r, hs_n, h, 0, 0)) = some R := hR
    rw [hs] at e
    cases e
    exact ⟨_, _, rfl, hP⟩
def hpa (fg : Nat × Nat) (d : Nat) (ret : Option FieldType) (tb : hc_K) (pc : Nat) (l st : List Value) (A : hs_A) (P : Option Value → hs_A → Prop) : Prop := ∀ h, hs_Rep h A → hy fg d ret tb pc l st h (fun r h' => ∃ A', hs_Rep h' A' ∧ P r A')
def hpC (g d k : Nat) (e : hc_M) (as : List Value) (A : hs_A) (P : Option Value → hs_A → Prop) : Prop := ∀ h, hs_Rep h A → ∀ R, hx_call g d k e as hs_n h = some R → ∃ (r : Option Value) (h' : hc_H), R = (r, hs_n, h', 0, 0) ∧ ∃ A', hs_Rep h' A' ∧ P r A'
theorem hpC.zero {g k : Nat} {e : hc_M} {as : List Value} {A : hs_A} {P : Option Value → hs_A → Prop} : hpC g 0 k e as A P := fun h hR R hc => by cases hc
theorem hpC.of {g d k : Nat} {e : hc_M} {as : List Value} {A : hs_A} {P : Option Value → hs_A → Prop} (w : ∀ f, hpa (f, g) d e.2.2.2.1 e.2.2.2.2.2.2 0 (hc_ent as e.2.2.1) [] A P) : hpC g (d + 1) k e as A P := by
  intro h hR R hc
  have e1 : (match Nat.ble (hc_cat as) e.2.2.1 with
    | false => none
    | true => hc_run (0, fun _ => none) hm_pg (hx_call g d) e.2.2.2.1 e.2.2.2.2.2.2 g (0, hc_ent as e.2.2.1, [], hs_n, h, 0, 0)) = some R := hc
  cases hb : Nat.ble (hc_cat as) e.2.2.1 with
  | false => rw [hb] at e1; cases e1
  | true =>
    rw [hb] at e1
    exact w g h hR g (Nat.le_refl _) R e1
theorem hpC.all {g d k : Nat} {e : hc_M} {as : List Value} {A : hs_A} {P : Option Value → hs_A → Prop} (w : ∀ f d, hpa (f, g) d e.2.2.2.1 e.2.2.2.2.2.2 0 (hc_ent as e.2.2.1) [] A P) : hpC g d k e as A P := by
  cases d with
  | zero => exact hpC.zero
  | succ d => exact hpC.of (fun f => w f d)
theorem hpC.imp {g d k : Nat} {e : hc_M} {as : List Value} {A : hs_A} {P P' : Option Value → hs_A → Prop} (w : hpC g d k e as A P) (hP : ∀ r A', P r A' → P' r A') : hpC g d k e as A P' := fun h hR R hc => by
  obtain ⟨r, h', e, A', hR', hp⟩ := w h hR R hc
  exact ⟨r, h', e, A', hR', hP _ _ hp⟩
/-- two worlds of one heap show the same -/
def hs_vis (A A' : hs_A) : Prop := ∃ h, hs_Rep h A ∧ hs_Rep h A'
/-- a method that ends, and what holds if it ends -/
theorem hxC.and {g d k : Nat} {e : hc_M} {as : List Value} {A : hs_A} {P P' : Option Value → hs_A → Prop} (w : hxC d k e as A P) (w' : ∀ g, hpC g d k e as A P') : hxC d k e as A (fun r A' => P r A' ∧ ∃ A2, hs_vis A' A2 ∧ P' r A2) := by
  intro h hR
  obtain ⟨F, r, h', hc, A', hR', hp⟩ := w h hR
  refine ⟨F, r, h', hc, A', hR', hp, ?_⟩
  obtain ⟨r2, h2, e2, A2, hR2, hp2⟩ := w' F h hR _ (hc F (Nat.le_refl _))
  cases e2
  exact ⟨A2, ⟨h', hR', hR2⟩, hp2⟩
section HPA
variable {fg : Nat × Nat} {d : Nat} {ret : Option FieldType} {tb : hc_K} {pc len r1 r2 : Nat} {l st : List Value} {A : hs_A} {P : Option Value → hs_A → Prop}
theorem hpa.zero {g : Nat} : hpa (0, g) d ret tb pc l st A P := fun h hR f hf R hr => by
  have : f = 0 := Nat.le_zero.mp hf
  subst this
  cases hr
theorem hpa.post {P' : Option Value → hs_A → Prop} (w : hpa fg d ret tb pc l st A P) (hP : ∀ r A', P r A' → P' r A') : hpa fg d ret tb pc l st A P' := fun h hR f hf R hr => by
  obtain ⟨r, h', e, A', hR', hp⟩ := w h hR f hf R hr
  exact ⟨r, h', e, A', hR', hP _ _ hp⟩
theorem hpa_iadd {x y : Int32} (hI : hc_get tb pc = some (.iadd, len, r1, r2))  (k : hpa fg d ret tb (pc + 1) l (.int (x + y) :: st) A P) : hpa fg d ret tb pc l (.int y :: .int x :: st) A P := fun h hR => hy_step (fun g _ => by unfold hc_step1; simp only [hI]; rfl) (k h hR)
theorem hpa_isub {x y : Int32} (hI : hc_get tb pc = some (.isub, len, r1, r2))  (k : hpa fg d ret tb (pc + 1) l (.int (x - y) :: st) A P) : hpa fg d ret tb pc l (.int y :: .int x :: st) A P := fun h hR => hy_step (fun g _ => by unfold hc_step1; simp only [hI]; rfl) (k h hR)
theorem hpa_imul {x y : Int32} (hI : hc_get tb pc = some (.imul, len, r1, r2))  (k : hpa fg d ret tb (pc + 1) l (.int (x * y) :: st) A P) : hpa fg d ret tb pc l (.int y :: .int x :: st) A P := fun h hR => hy_step (fun g _ => by unfold hc_step1; simp only [hI]; rfl) (k h hR)
theorem hpa_iand {x y : Int32} (hI : hc_get tb pc = some (.iand, len, r1, r2))  (k : hpa fg d ret tb (pc + 1) l (.int (x &&& y) :: st) A P) : hpa fg d ret tb pc l (.int y :: .int x :: st) A P := fun h hR => hy_step (fun g _ => by unfold hc_step1; simp only [hI]; rfl) (k h hR)
theorem hpa_ior {x y : Int32} (hI : hc_get tb pc = some (.ior, len, r1, r2))  (k : hpa fg d ret tb (pc + 1) l (.int (x ||| y) :: st) A P) : hpa fg d ret tb pc l (.int y :: .int x :: st) A P := fun h hR => hy_step (fun g _ => by unfold hc_step1; simp only [hI]; rfl) (k h hR)
theorem hpa_ixor {x y : Int32} (hI : hc_get tb pc = some (.ixor, len, r1, r2))  (k : hpa fg d ret tb (pc + 1) l (.int (x ^^^ y) :: st) A P) : hpa fg d ret tb pc l (.int y :: .int x :: st) A P := fun h hR => hy_step (fun g _ => by unfold hc_step1; simp only [hI]; rfl) (k h hR)
theorem hpa_ishl {x y : Int32} (hI : hc_get tb pc = some (.ishl, len, r1, r2))  (k : hpa fg d ret tb (pc + 1) l (.int (x <<< (y &&& 31)) :: st) A P) : hpa fg d ret tb pc l (.int y :: .int x :: st) A P := fun h hR => hy_step (fun g _ => by unfold hc_step1; simp only [hI]; rfl) (k h hR)
theorem hpa_ishr {x y : Int32} (hI : hc_get tb pc = some (.ishr, len, r1, r2))  (k : hpa fg d ret tb (pc + 1) l (.int (x >>> (y &&& 31)) :: st) A P) : hpa fg d ret tb pc l (.int y :: .int x :: st) A P := fun h hR => hy_step (fun g _ => by unfold hc_step1; simp only [hI]; rfl) (k h hR)
theorem hpa_iushr {x y : Int32} (hI : hc_get tb pc = some (.iushr, len, r1, r2))  (k : hpa fg d ret tb (pc + 1) l (.int ((x.toUInt32 >>> (y.toUInt32 &&& Int32.toUInt32 31)).toInt32) :: st) A P) : hpa fg d ret tb pc l (.int y :: .int x :: st) A P := fun h hR => hy_step (fun g _ => by unfold hc_step1; simp only [hI]; rfl) (k h hR)
theorem hpa_iconst {z : Int} {v : Int32} (hI : hc_get tb pc = some (.iconst z, len, r1, r2)) (hv : Int32.ofNat r1 = v) (k : hpa fg d ret tb (pc + 1) l (.int v :: st) A P) : hpa fg d ret tb pc l st A P := fun h hR => hy_step (fun g _ => by unfold hc_step1; simp only [hI]; subst hv; rfl) (k h hR)
theorem hpa_bipush {z : Int} {v : Int32} (hI : hc_get tb pc = some (.bipush z, len, r1, r2)) (hv : Int32.ofNat r1 = v) (k : hpa fg d ret tb (pc + 2) l (.int v :: st) A P) : hpa fg d ret tb pc l st A P := fun h hR => hy_step (fun g _ => by unfold hc_step1; simp only [hI]; subst hv; rfl) (k h hR)
theorem hpa_sipush {z : Int} {v : Int32} (hI : hc_get tb pc = some (.sipush z, len, r1, r2)) (hv : Int32.ofNat r1 = v) (k : hpa fg d ret tb (pc + 3) l (.int v :: st) A P) : hpa fg d ret tb pc l st A P := fun h hR => hy_step (fun g _ => by unfold hc_step1; simp only [hI]; subst hv; rfl) (k h hR)
theorem hpa_iload_n {z : Fin 4} {x : Int32} (hI : hc_get tb pc = some (.iload_n z, len, r1, r2)) (hl : hc_nth l r1 = some (.int x)) (k : hpa fg d ret tb (pc + 1) l (.int x :: st) A P) : hpa fg d ret tb pc l st A P := fun h hR => hy_step (fun g _ => by unfold hc_step1; simp only [hI]; show hi_iload_n r1 pc l st hs_n h 0 0 = _; unfold hi_iload_n; rw [hl]; rfl) (k h hR)
theorem hpa_iload {z : Nat} {x : Int32} (hI : hc_get tb pc = some (.iload z, len, r1, r2)) (hl : hc_nth l r1 = some (.int x)) (k : hpa fg d ret tb (pc + 2) l (.int x :: st) A P) : hpa fg d ret tb pc l st A P := fun h hR => hy_step (fun g _ => by unfold hc_step1; simp only [hI]; show hi_iload r1 pc l st hs_n h 0 0 = _; unfold hi_iload; rw [hl]; rfl) (k h hR)
theorem hpa_aload_n {z : Fin 4} {x : Nat} (hI : hc_get tb pc = some (.aload_n z, len, r1, r2)) (hl : hc_nth l r1 = some (.ref x)) (k : hpa fg d ret tb (pc + 1) l (.ref x :: st) A P) : hpa fg d ret tb pc l st A P := fun h hR => hy_step (fun g _ => by unfold hc_step1; simp only [hI]; show hi_aload_n r1 pc l st hs_n h 0 0 = _; unfold hi_aload_n; rw [hl]; rfl) (k h hR)
theorem hpa_aload {z : Nat} {x : Nat} (hI : hc_get tb pc = some (.aload z, len, r1, r2)) (hl : hc_nth l r1 = some (.ref x)) (k : hpa fg d ret tb (pc + 2) l (.ref x :: st) A P) : hpa fg d ret tb pc l st A P := fun h hR => hy_step (fun g _ => by unfold hc_step1; simp only [hI]; show hi_aload r1 pc l st hs_n h 0 0 = _; unfold hi_aload; rw [hl]; rfl) (k h hR)
theorem hpa_get {z i c : Nat} {ks : List Nat} {v : Value} (hI : hc_get tb pc = some (.getfield z, len, r1, r2)) (hs : hc_get hs_sh i = some (3, r1, ks)) (hk : hc_nth ks r2 = some c) (hv : hs_val A i r2 c = v) (k : hpa fg d ret tb (pc + 3) l (v :: st) A P) : hpa fg d ret tb pc l (.ref (i + 1) :: st) A P := fun h hR => hy_step (fun g _ => by
  unfold hc_step1
  simp only [hI]
  show hi_getfield r1 r2 pc l (.ref (i + 1) :: st) hs_n h 0 0 = _
  unfold hi_getfield
  dsimp only
  rw [hR i _ hs, hs_cell3, hc_objS]
  dsimp only
  rw [hs_fs_at hk, hv]
  rfl) (k h hR)
theorem hpa_putI {z i : Nat} {ks : List Nat} {x : Int32} (hI : hc_get tb pc = some (.putfield z, len, r1, r2)) (hs : hc_get hs_sh i = some (3, r1, ks)) (hk : hc_nth ks r2 = some 0) (hf : hc_fit (hc_tyX r1 r2) (.int x) = true) (k : hpa fg d ret tb (pc + 3) l st (hs_up A.1 i r2 x, A.2) P) : hpa fg d ret tb pc l (.int x :: .ref (i + 1) :: st) A P := fun h hR => by
  obtain ⟨h', hp, hR'⟩ := hs_putI (x := x) hR hs hk
  refine hy_step (fun g _ => ?_) (k h' hR')
  unfold hc_step1
  simp only [hI]
  show hi_putfield r1 r2 pc l (.int x :: .ref (i + 1) :: st) hs_n h 0 0 = _
  unfold hi_putfield
  dsimp only
  rw [hR i _ hs, hs_cell3, hc_objS]
  dsimp only
  rw [hf]
  dsimp only
  rw [hs_fs_at hk]
  dsimp only
  rw [hp]
  rfl
theorem hpa_iald {i m : Nat} {j : Int32} (hI : hc_get tb pc = some (.iaload, len, r1, r2)) (hs : hc_get hs_sh i = some (0, 1, [m])) (h0 : ¬ j < 0) (h1 : j.toNatClampNeg < m) (k : hpa fg d ret tb (pc + 1) l (.int (A.2.1 i j.toNatClampNeg) :: st) A P) : hpa fg d ret tb pc l (.int j :: .ref (i + 1) :: st) A P := fun h hR => hy_step (fun g _ => by
  unfold hc_step1
  simp only [hI]
  show hi_iaload (0, fun _ => none) pc l (.int j :: .ref (i + 1) :: st) hs_n h 0 0 = _
  unfold hi_iaload
  exact hs_ald ((hR i _ hs).trans (congrArg some (hs_cell0 A i 1 m))) (hs_el h0 (hs_ar_at h1))) (k h hR)
theorem hpa_iast {i m : Nat} {j x : Int32} (hI : hc_get tb pc = some (.iastore, len, r1, r2)) (hs : hc_get hs_sh i = some (0, 1, [m])) (h0 : ¬ j < 0) (h1 : j.toNatClampNeg < m) (k : hpa fg d ret tb (pc + 1) l st (A.1, hs_up A.2.1 i j.toNatClampNeg x, A.2.2) P) : hpa fg d ret tb pc l (.int x :: .int j :: .ref (i + 1) :: st) A P := fun h hR => by
  obtain ⟨h', hp, hR'⟩ := hs_setI (x := x) hR hs h1
  refine hy_step (fun g _ => ?_) (k h' hR')
  unfold hc_step1
  simp only [hI]
  show hi_iastore pc l (.int x :: .int j :: .ref (i + 1) :: st) hs_n h 0 0 = _
  unfold hi_iastore
  exact hs_ast ((hR i _ hs).trans (congrArg some (hs_cell0 A i 1 m))) (hs_el h0 (hs_ar_at h1)) hp
theorem hpa_if {op : Jvm.ClassFile.Cond} {off : Int} {x : Int32} (hI : hc_get tb pc = some (.ifCond op off, len, r1, r2)) (kt : hc_cmp op x 0 = true → hpa fg d ret tb r1 l st A P) (kf : hc_cmp op x 0 = false → hpa fg d ret tb (pc + 3) l st A P) : hpa fg d ret tb pc l (.int x :: st) A P := fun h hR => by
  by_cases hb : hc_cmp op x 0 = true
  · refine hy_step (fun g _ => ?_) (kt hb h hR)
    unfold hc_step1
    simp only [hI]
    show hi_ifCond (0, fun _ => none) op r1 pc l (.int x :: st) hs_n h 0 0 = _
    unfold hi_ifCond
    dsimp only
    rw [hb]
    rfl
  · have hb' : hc_cmp op x 0 = false := by cases hq : hc_cmp op x 0 <;> simp_all
    refine hy_step (fun g _ => ?_) (kf hb' h hR)
    unfold hc_step1
    simp only [hI]
    show hi_ifCond (0, fun _ => none) op r1 pc l (.int x :: st) hs_n h 0 0 = _
    unfold hi_ifCond
    dsimp only
    rw [hb']
    rfl
theorem hpa_icmp {op : Jvm.ClassFile.Cond} {off : Int} {x y : Int32} (hI : hc_get tb pc = some (.if_icmp op off, len, r1, r2)) (kt : hc_cmp op x y = true → hpa fg d ret tb r1 l st A P) (kf : hc_cmp op x y = false → hpa fg d ret tb (pc + 3) l st A P) : hpa fg d ret tb pc l (.int y :: .int x :: st) A P := fun h hR => by
  by_cases hb : hc_cmp op x y = true
  · refine hy_step (fun g _ => ?_) (kt hb h hR)
    unfold hc_step1
    simp only [hI]
    show hi_if_icmp op r1 pc l (.int y :: .int x :: st) hs_n h 0 0 = _
    unfold hi_if_icmp
    dsimp only
    rw [hb]
    rfl
  · have hb' : hc_cmp op x y = false := by cases hq : hc_cmp op x y <;> simp_all
    refine hy_step (fun g _ => ?_) (kf hb' h hR)
    unfold hc_step1
    simp only [hI]
    show hi_if_icmp op r1 pc l (.int y :: .int x :: st) hs_n h 0 0 = _
    unfold hi_if_icmp
    dsimp only
    rw [hb']
    rfl
theorem hpa_goto {off : Int} (hI : hc_get tb pc = some (.goto off, len, r1, r2)) (k : hpa fg d ret tb r1 l st A P) : hpa fg d ret tb pc l st A P := fun h hR => hy_step (fun g _ => by
  unfold hc_step1
  simp only [hI]
  rfl) (k h hR)
theorem hpa_s1 {ii : Instr} {x : Int32} {l' : List Value} (hI : hc_get tb pc = some (ii, len, r1, r2)) (hii : (∃ z, ii = .istore_n z ∧ len = 1) ∨ (∃ z, ii = .istore z ∧ len = 2)) (hl : hc_s1 l r1 (.int x) = some l') (k : hpa fg d ret tb (pc + len) l' st A P) : hpa fg d ret tb pc l (.int x :: st) A P := fun h hR => hy_step (fun g _ => by
  unfold hc_step1
  simp only [hI]
  rcases hii with ⟨z, rfl, rfl⟩ | ⟨z, rfl, rfl⟩
  · show hi_istore_n r1 pc l (.int x :: st) hs_n h 0 0 = _
    unfold hi_istore_n
    dsimp only
    rw [hl]
    rfl
  · show hi_istore r1 pc l (.int x :: st) hs_n h 0 0 = _
    unfold hi_istore
    dsimp only
    rw [hl]
    rfl) (k h hR)
theorem hpa_iinc {z : Nat} {w : Int} {x : Int32} {l' : List Value} (hI : hc_get tb pc = some (.iinc z w, len, r1, r2)) (hx : hc_nth l r1 = some (.int x)) (hl : hc_s1 l r1 (.int (x + Int32.ofNat r2)) = some l') (k : hpa fg d ret tb (pc + 3) l' st A P) : hpa fg d ret tb pc l st A P := fun h hR => hy_step (fun g _ => by
  unfold hc_step1
  simp only [hI]
  show hi_iinc r1 r2 pc l st hs_n h 0 0 = _
  unfold hi_iinc
  rw [hx]
  dsimp only
  rw [hl]
  rfl) (k h hR)
theorem hpa_ireturn {v : Value} (hI : hc_get tb pc = some (.ireturn, len, r1, r2)) (hv : hc_rtv ret v = true) (hP : P (some v) A) : hpa fg d ret tb pc l [v] A P := fun h hR => hy_ret (fun g => by
  unfold hc_step1
  simp only [hI]
  show hi_ireturn ret pc l [v] hs_n h 0 0 = _
  unfold hi_ireturn
  dsimp only
  rw [hv]) ⟨A, hR, hP⟩
theorem hpa_return (hI : hc_get tb pc = some (.return_, len, r1, r2)) (hv : ret = none) (hP : P none A) : hpa fg d ret tb pc l [] A P := fun h hR => hy_ret (fun g => by
  subst hv
  unfold hc_step1
  simp only [hI]
  rfl) ⟨A, hR, hP⟩
theorem hpa_ldcS {z : Nat} {k : Nat} (hI : hc_get tb pc = some (.ldc z, len, r1, 1)) (hk : r1 = k) (K : hpa fg d ret tb (pc + 2) l (.retAddr k :: st) A P) : hpa fg d ret tb pc l st A P := fun h hR => hy_step (fun g _ => by
  subst hk
  unfold hc_step1
  simp only [hI]
  rfl) (K h hR)
theorem hpa_strLen {z : Nat} {k : Nat} (hI : hc_get tb pc = some (.invokevirtual z, len, 0, 7)) (hcat : Nat.ble (hc_cat st) 8 = true) (K : hpa fg d ret tb (pc + 3) l (.int (Int32.ofNat (hc_txt k).length) :: st) A P) : hpa fg d ret tb pc l (.retAddr k :: st) A P := fun h hR => hy_step (fun g _ => by
  unfold hc_step1
  simp only [hI]
  show hi_str 0 pc l (.retAddr k :: st) hs_n h 0 0 = _
  unfold hi_str
  dsimp only
  rw [hcat]
  rfl) (K h hR)
theorem hpa_strChar {z b : Nat} {k : Nat} {i : Int32} (hI : hc_get tb pc = some (.invokevirtual z, len, 1, 7)) (hcat : Nat.ble (hc_cat st) 8 = true) (h0 : ¬ i < 0) (hb : (hc_txt k)[i.toNatClampNeg]? = some b) (K : hpa fg d ret tb (pc + 3) l (.int (Int32.ofNat b) :: st) A P) : hpa fg d ret tb pc l (.int i :: .retAddr k :: st) A P := fun h hR => hy_step (fun g _ => by
  unfold hc_step1
  simp only [hI]
  show hi_str 1 pc l (.int i :: .retAddr k :: st) hs_n h 0 0 = _
  unfold hi_str
  dsimp only
  rw [hcat, decide_eq_false h0, hc_nth_eq, hb]
  rfl) (K h hR)
theorem hpa_strIdx {z : Nat} {k : Nat} {x : Int32} (hI : hc_get tb pc = some (.invokevirtual z, len, 2, 7)) (hcat : Nat.ble (hc_cat st) 8 = true) (K : hpa fg d ret tb (pc + 3) l (.int (hc_ixf x (hc_txt k) 0) :: st) A P) : hpa fg d ret tb pc l (.int x :: .retAddr k :: st) A P := fun h hR => hy_step (fun g _ => by
  unfold hc_step1
  simp only [hI]
  show hi_str 2 pc l (.int x :: .retAddr k :: st) hs_n h 0 0 = _
  unfold hi_str
  dsimp only
  rw [hcat]
  rfl) (K h hR)
theorem hpa_ladd {x y : Int64} (hI : hc_get tb pc = some (.ladd, len, r1, r2))  (k : hpa fg d ret tb (pc + 1) l (.long (x + y) :: st) A P) : hpa fg d ret tb pc l (.long y :: .long x :: st) A P := fun h hR => hy_step (fun g _ => by
  unfold hc_step1
  simp only [hI]
  rfl) (k h hR)
theorem hpa_lsub {x y : Int64} (hI : hc_get tb pc = some (.lsub, len, r1, r2))  (k : hpa fg d ret tb (pc + 1) l (.long (x - y) :: st) A P) : hpa fg d ret tb pc l (.long y :: .long x :: st) A P := fun h hR => hy_step (fun g _ => by
  unfold hc_step1
  simp only [hI]
  rfl) (k h hR)
theorem hpa_lmul {x y : Int64} (hI : hc_get tb pc = some (.lmul, len, r1, r2))  (k : hpa fg d ret tb (pc + 1) l (.long (x * y) :: st) A P) : hpa fg d ret tb pc l (.long y :: .long x :: st) A P := fun h hR => hy_step (fun g _ => by
  unfold hc_step1
  simp only [hI]
  rfl) (k h hR)
theorem hpa_lor {x y : Int64} (hI : hc_get tb pc = some (.lor, len, r1, r2))  (k : hpa fg d ret tb (pc + 1) l (.long (x ||| y) :: st) A P) : hpa fg d ret tb pc l (.long y :: .long x :: st) A P := fun h hR => hy_step (fun g _ => by
  unfold hc_step1
  simp only [hI]
  rfl) (k h hR)
theorem hpa_lshl {x : Int64} {y : Int32} (hI : hc_get tb pc = some (.lshl, len, r1, r2))  (k : hpa fg d ret tb (pc + 1) l (.long (x <<< (y.toInt64 &&& 63)) :: st) A P) : hpa fg d ret tb pc l (.int y :: .long x :: st) A P := fun h hR => hy_step (fun g _ => by
  unfold hc_step1
  simp only [hI]
  rfl) (k h hR)
theorem hpa_lcmp {x y : Int64} (hI : hc_get tb pc = some (.lcmp, len, r1, r2))  (k : hpa fg d ret tb (pc + 1) l (.int (lg_cmp x y) :: st) A P) : hpa fg d ret tb pc l (.long y :: .long x :: st) A P := fun h hR => hy_step (fun g _ => by
  unfold hc_step1
  simp only [hI]
  rfl) (k h hR)
theorem hpa_i2l {x : Int32} (hI : hc_get tb pc = some (.i2l, len, r1, r2))  (k : hpa fg d ret tb (pc + 1) l (.long x.toInt64 :: st) A P) : hpa fg d ret tb pc l (.int x :: st) A P := fun h hR => hy_step (fun g _ => by
  unfold hc_step1
  simp only [hI]
  rfl) (k h hR)
theorem hpa_l2i {x : Int64} (hI : hc_get tb pc = some (.l2i, len, r1, r2))  (k : hpa fg d ret tb (pc + 1) l (.int x.toInt32 :: st) A P) : hpa fg d ret tb pc l (.long x :: st) A P := fun h hR => hy_step (fun g _ => by
  unfold hc_step1
  simp only [hI]
  rfl) (k h hR)
theorem hpa_i2b {x : Int32} (hI : hc_get tb pc = some (.i2b, len, r1, r2))  (k : hpa fg d ret tb (pc + 1) l (.int x.toInt8.toInt32 :: st) A P) : hpa fg d ret tb pc l (.int x :: st) A P := fun h hR => hy_step (fun g _ => by
  unfold hc_step1
  simp only [hI]
  rfl) (k h hR)
theorem hpa_i2c {x : Int32} (hI : hc_get tb pc = some (.i2c, len, r1, r2))  (k : hpa fg d ret tb (pc + 1) l (.int (x.toUInt32 % 65536).toInt32 :: st) A P) : hpa fg d ret tb pc l (.int x :: st) A P := fun h hR => hy_step (fun g _ => by
  unfold hc_step1
  simp only [hI]
  rfl) (k h hR)
theorem hpa_idiv {x y : Int32} (hI : hc_get tb pc = some (.idiv, len, r1, r2)) (hy : ¬ y = 0) (k : hpa fg d ret tb (pc + 1) l (.int (x / y) :: st) A P) : hpa fg d ret tb pc l (.int y :: .int x :: st) A P := fun h hR => hy_step (fun g _ => by
  unfold hc_step1
  simp only [hI]
  show hi_idiv pc l (.int y :: .int x :: st) hs_n h 0 0 = _
  unfold hi_idiv
  dsimp only
  rw [decide_eq_false hy]
  rfl) (k h hR)
theorem hpa_irem {x y : Int32} (hI : hc_get tb pc = some (.irem, len, r1, r2)) (hy : ¬ y = 0) (k : hpa fg d ret tb (pc + 1) l (.int (x - x / y * y) :: st) A P) : hpa fg d ret tb pc l (.int y :: .int x :: st) A P := fun h hR => hy_step (fun g _ => by
  unfold hc_step1
  simp only [hI]
  show hi_irem pc l (.int y :: .int x :: st) hs_n h 0 0 = _
  unfold hi_irem
  dsimp only
  rw [decide_eq_false hy]
  rfl) (k h hR)
theorem hpa_dupI {x : Int32} (hI : hc_get tb pc = some (.dup, len, r1, r2))  (k : hpa fg d ret tb (pc + 1) l (.int x :: .int x :: st) A P) : hpa fg d ret tb pc l (.int x :: st) A P := fun h hR => hy_step (fun g _ => by
  unfold hc_step1
  simp only [hI]
  rfl) (k h hR)
theorem hpa_dupR {x : Nat} (hI : hc_get tb pc = some (.dup, len, r1, r2))  (k : hpa fg d ret tb (pc + 1) l (.ref x :: .ref x :: st) A P) : hpa fg d ret tb pc l (.ref x :: st) A P := fun h hR => hy_step (fun g _ => by
  unfold hc_step1
  simp only [hI]
  rfl) (k h hR)
theorem hpa_popI {x : Int32} (hI : hc_get tb pc = some (.pop, len, r1, r2))  (k : hpa fg d ret tb (pc + 1) l st A P) : hpa fg d ret tb pc l (.int x :: st) A P := fun h hR => hy_step (fun g _ => by
  unfold hc_step1
  simp only [hI]
  rfl) (k h hR)
theorem hpa_popR {x : Nat} (hI : hc_get tb pc = some (.pop, len, r1, r2))  (k : hpa fg d ret tb (pc + 1) l st A P) : hpa fg d ret tb pc l (.ref x :: st) A P := fun h hR => hy_step (fun g _ => by
  unfold hc_step1
  simp only [hI]
  rfl) (k h hR)
theorem hpa_dup2IR {x : Int32} {y : Nat} (hI : hc_get tb pc = some (.dup2, len, r1, r2))  (k : hpa fg d ret tb (pc + 1) l (.int x :: .ref y :: .int x :: .ref y :: st) A P) : hpa fg d ret tb pc l (.int x :: .ref y :: st) A P := fun h hR => hy_step (fun g _ => by
  unfold hc_step1
  simp only [hI]
  rfl) (k h hR)
theorem hpa_lconst {z : Fin 2} {v : Int64} (hI : hc_get tb pc = some (.lconst z, len, r1, r2)) (hv : Int64.ofNat r1 = v) (k : hpa fg d ret tb (pc + 1) l (.long v :: st) A P) : hpa fg d ret tb pc l st A P := fun h hR => hy_step (fun g _ => by
  unfold hc_step1
  simp only [hI]
  subst hv
  rfl) (k h hR)
theorem hpa_ldc {z : Nat} {v : Int32} (hI : hc_get tb pc = some (.ldc z, len, r1, 0)) (hv : Int32.ofNat r1 = v) (k : hpa fg d ret tb (pc + 2) l (.int v :: st) A P) : hpa fg d ret tb pc l st A P := fun h hR => hy_step (fun g _ => by
  unfold hc_step1
  simp only [hI]
  subst hv
  rfl) (k h hR)
theorem hpa_ldc_w {z : Nat} {v : Int32} (hI : hc_get tb pc = some (.ldc_w z, len, r1, r2)) (hv : Int32.ofNat r1 = v) (k : hpa fg d ret tb (pc + 3) l (.int v :: st) A P) : hpa fg d ret tb pc l st A P := fun h hR => hy_step (fun g _ => by
  unfold hc_step1
  simp only [hI]
  subst hv
  rfl) (k h hR)
theorem hpa_ldc2_w {z : Nat} {v : Int64} (hI : hc_get tb pc = some (.ldc2_w z, len, r1, r2)) (hv : Int64.ofNat r1 = v) (k : hpa fg d ret tb (pc + 3) l (.long v :: st) A P) : hpa fg d ret tb pc l st A P := fun h hR => hy_step (fun g _ => by
  unfold hc_step1
  simp only [hI]
  subst hv
  rfl) (k h hR)
theorem hpa_lload_n {z : Fin 4} {x : Int64} (hI : hc_get tb pc = some (.lload_n z, len, r1, r2)) (hl : hc_nth l r1 = some (.long x)) (k : hpa fg d ret tb (pc + 1) l (.long x :: st) A P) : hpa fg d ret tb pc l st A P := fun h hR => hy_step (fun g _ => by
  unfold hc_step1
  simp only [hI]
  show hi_lload_n r1 pc l st hs_n h 0 0 = _
  unfold hi_lload_n
  rw [hl]
  rfl) (k h hR)
theorem hpa_lload {z : Nat} {x : Int64} (hI : hc_get tb pc = some (.lload z, len, r1, r2)) (hl : hc_nth l r1 = some (.long x)) (k : hpa fg d ret tb (pc + 2) l (.long x :: st) A P) : hpa fg d ret tb pc l st A P := fun h hR => hy_step (fun g _ => by
  unfold hc_step1
  simp only [hI]
  show hi_lload r1 pc l st hs_n h 0 0 = _
  unfold hi_lload
  rw [hl]
  rfl) (k h hR)
theorem hpa_lstore_n {z : Fin 4} {x : Int64} {l' : List Value} (hI : hc_get tb pc = some (.lstore_n z, len, r1, r2)) (hl : hc_s2 l r1 (.long x) = some l') (k : hpa fg d ret tb (pc + 1) l' st A P) : hpa fg d ret tb pc l (.long x :: st) A P := fun h hR => hy_step (fun g _ => by
  unfold hc_step1
  simp only [hI]
  show hi_lstore_n r1 pc l (.long x :: st) hs_n h 0 0 = _
  unfold hi_lstore_n
  dsimp only
  rw [hl]
  rfl) (k h hR)
theorem hpa_lstore {z : Nat} {x : Int64} {l' : List Value} (hI : hc_get tb pc = some (.lstore z, len, r1, r2)) (hl : hc_s2 l r1 (.long x) = some l') (k : hpa fg d ret tb (pc + 2) l' st A P) : hpa fg d ret tb pc l (.long x :: st) A P := fun h hR => hy_step (fun g _ => by
  unfold hc_step1
  simp only [hI]
  show hi_lstore r1 pc l (.long x :: st) hs_n h 0 0 = _
  unfold hi_lstore
  dsimp only
  rw [hl]
  rfl) (k h hR)
theorem hpa_astore_n {z : Fin 4} {x : Nat} {l' : List Value} (hI : hc_get tb pc = some (.astore_n z, len, r1, r2)) (hl : hc_s1 l r1 (.ref x) = some l') (k : hpa fg d ret tb (pc + 1) l' st A P) : hpa fg d ret tb pc l (.ref x :: st) A P := fun h hR => hy_step (fun g _ => by
  unfold hc_step1
  simp only [hI]
  show hi_astore_n r1 pc l (.ref x :: st) hs_n h 0 0 = _
  unfold hi_astore_n
  dsimp only
  rw [hl]
  rfl) (k h hR)
theorem hpa_astore {z : Nat} {x : Nat} {l' : List Value} (hI : hc_get tb pc = some (.astore z, len, r1, r2)) (hl : hc_s1 l r1 (.ref x) = some l') (k : hpa fg d ret tb (pc + 2) l' st A P) : hpa fg d ret tb pc l (.ref x :: st) A P := fun h hR => hy_step (fun g _ => by
  unfold hc_step1
  simp only [hI]
  show hi_astore r1 pc l (.ref x :: st) hs_n h 0 0 = _
  unfold hi_astore
  dsimp only
  rw [hl]
  rfl) (k h hR)
theorem hpa_lald {i m : Nat} {j : Int32} (hI : hc_get tb pc = some (.laload, len, r1, r2)) (hs : hc_get hs_sh i = some (1, 2, [m])) (h0 : ¬ j < 0) (h1 : j.toNatClampNeg < m) (k : hpa fg d ret tb (pc + 1) l (.long (A.2.2.1 i j.toNatClampNeg) :: st) A P) : hpa fg d ret tb pc l (.int j :: .ref (i + 1) :: st) A P := fun h hR => hy_step (fun g _ => by
  unfold hc_step1
  simp only [hI]
  show hi_laload pc l (.int j :: .ref (i + 1) :: st) hs_n h 0 0 = _
  unfold hi_laload
  exact hs_ald ((hR i _ hs).trans (congrArg some (hs_cell1 A i 2 m))) (hs_el h0 (hs_al_at h1))) (k h hR)
theorem hpa_bald {i m : Nat} {j : Int32} (hI : hc_get tb pc = some (.baload, len, r1, r2)) (hs : hc_get hs_sh i = some (0, 0, [m])) (h0 : ¬ j < 0) (h1 : j.toNatClampNeg < m) (k : hpa fg d ret tb (pc + 1) l (.int (A.2.1 i j.toNatClampNeg) :: st) A P) : hpa fg d ret tb pc l (.int j :: .ref (i + 1) :: st) A P := fun h hR => hy_step (fun g _ => by
  unfold hc_step1
  simp only [hI]
  show hi_baload pc l (.int j :: .ref (i + 1) :: st) hs_n h 0 0 = _
  unfold hi_baload
  rw [hs_ald ((hR i _ hs).trans (congrArg some (hs_cell0 A i 0 m))) (hs_el h0 (hs_ar_at h1))]
  rfl) (k h hR)
theorem hpa_zald {i m : Nat} {j : Int32} (hI : hc_get tb pc = some (.baload, len, r1, r2)) (hs : hc_get hs_sh i = some (0, 3, [m])) (h0 : ¬ j < 0) (h1 : j.toNatClampNeg < m) (k : hpa fg d ret tb (pc + 1) l (.int (A.2.1 i j.toNatClampNeg) :: st) A P) : hpa fg d ret tb pc l (.int j :: .ref (i + 1) :: st) A P := fun h hR => hy_step (fun g _ => by
  unfold hc_step1
  simp only [hI]
  show hi_baload pc l (.int j :: .ref (i + 1) :: st) hs_n h 0 0 = _
  unfold hi_baload
  have hg : hc_get h i = some (.inl (3, hs_ar A i m)) := (hR i _ hs).trans (congrArg some (hs_cell0 A i 3 m))
  have hn : hc_ald 0 pc l (.int j :: .ref (i + 1) :: st) hs_n h 0 0 = none := by
    unfold hc_ald
    dsimp only
    rw [hg, hc_arr_ne rfl]
  rw [hn]
  exact hs_ald hg (hs_el h0 (hs_ar_at h1))) (k h hR)
theorem hpa_bast {i m : Nat} {j x : Int32} (hI : hc_get tb pc = some (.bastore, len, r1, r2)) (hs : hc_get hs_sh i = some (0, 0, [m])) (h0 : ¬ j < 0) (h1 : j.toNatClampNeg < m) (k : hpa fg d ret tb (pc + 1) l st (A.1, hs_up A.2.1 i j.toNatClampNeg x.toInt8.toInt32, A.2.2) P) : hpa fg d ret tb pc l (.int x :: .int j :: .ref (i + 1) :: st) A P := fun h hR => by
  obtain ⟨h', hp, hR'⟩ := hs_setI (x := x.toInt8.toInt32) hR hs h1
  refine hy_step (fun g _ => ?_) (k h' hR')
  unfold hc_step1
  simp only [hI]
  show hi_bastore pc l (.int x :: .int j :: .ref (i + 1) :: st) hs_n h 0 0 = _
  unfold hi_bastore
  dsimp only
  have hg : hc_get h i = some (.inl (0, hs_ar A i m)) := (hR i _ hs).trans (congrArg some (hs_cell0 A i 0 m))
  rw [hg, hc_arrS]
  exact hs_ast hg (hs_el h0 (hs_ar_at h1)) hp
theorem hpa_aald {i m t : Nat} {rs : List Nat} {j : Int32} (hI : hc_get tb pc = some (.aaload, len, r1, r2)) (ht : t = 4 ∨ t = 5) (hs : hc_get hs_sh i = some (2, t, rs)) (h0 : ¬ j < 0) (h1 : rs[j.toNatClampNeg]? = some m) (k : hpa fg d ret tb (pc + 1) l (.ref m :: st) A P) : hpa fg d ret tb pc l (.int j :: .ref (i + 1) :: st) A P := fun h hR => hy_step (fun g _ => by
  unfold hc_step1
  simp only [hI]
  show hi_aaload pc l (.int j :: .ref (i + 1) :: st) hs_n h 0 0 = _
  unfold hi_aaload
  have hg : hc_get h i = some (.inl (t, rs.map (fun r => .ref r))) := (hR i _ hs).trans (congrArg some (hs_cell2 A i t rs))
  have he : hc_el (rs.map (fun r => Value.ref r)) j = some (.ref m) := hs_el h0 (by rw [hc_nth_eq, List.getElem?_map, h1]; rfl)
  rcases ht with rfl | rfl
  · rw [hs_ald hg he]
    rfl
  · have hn : hc_ald 4 pc l (.int j :: .ref (i + 1) :: st) hs_n h 0 0 = none := by
      unfold hc_ald
      dsimp only
      rw [hg, hc_arr_ne rfl]
    rw [hn]
    exact hs_ald hg he) (k h hR)
theorem hpa_areturn {a : Nat} {t : FieldType} (hI : hc_get tb pc = some (.areturn, len, r1, r2)) (hv : ret = some (.array t)) (hP : P (some (.ref a)) A) : hpa fg d ret tb pc l [.ref a] A P := fun h hR => hy_ret (fun g => by
  subst hv
  unfold hc_step1
  simp only [hI]
  rfl) ⟨A, hR, hP⟩
theorem hpa_lreturn {x : Int64} (hI : hc_get tb pc = some (.lreturn, len, r1, r2)) (hv : ret = some .long) (hP : P (some (.long x)) A) : hpa fg d ret tb pc l [.long x] A P := fun h hR => hy_ret (fun g => by
  subst hv
  unfold hc_step1
  simp only [hI]
  rfl) ⟨A, hR, hP⟩
theorem hpa_tabOut {dflt lo hi : Int} {offs : Array Int} {x : Int32} (hI : hc_get tb pc = some (.tableswitch dflt lo hi offs, len, r1, r2)) (hx : x.toInt < lo ∨ hi < x.toInt) {tgt : Nat} (ht : (pc : Int) + dflt = (tgt : Int)) (k : hpa fg d ret tb tgt l st A P) : hpa fg d ret tb pc l (.int x :: st) A P := fun h hR => hy_step (fun g _ => by
  unfold hc_step1
  simp only [hI]
  show hi_tableswitch (0, fun _ => none) dflt lo hi offs pc l (.int x :: st) hs_n h 0 0 = _
  unfold hi_tableswitch
  dsimp only
  have h1 : (decide (x.toInt < lo) || decide (hi < x.toInt)) = true := by simp [hx]
  rw [h1]
  dsimp only
  rw [ht, decide_eq_true (by omega : (0 : Int) ≤ (tgt : Int))]
  rfl) (k h hR)
theorem hpa_tabIn {dflt lo hi off : Int} {offs : Array Int} {x : Int32} (hI : hc_get tb pc = some (.tableswitch dflt lo hi offs, len, r1, r2)) (h1 : ¬ x.toInt < lo) (h2 : ¬ hi < x.toInt) (ho : offs.toList[(x.toInt - lo).toNat]? = some off) {tgt : Nat} (ht : (pc : Int) + off = (tgt : Int)) (k : hpa fg d ret tb tgt l st A P) : hpa fg d ret tb pc l (.int x :: st) A P := fun h hR => hy_step (fun g _ => by
  unfold hc_step1
  simp only [hI]
  show hi_tableswitch (0, fun _ => none) dflt lo hi offs pc l (.int x :: st) hs_n h 0 0 = _
  unfold hi_tableswitch
  dsimp only
  have h3 : (decide (x.toInt < lo) || decide (hi < x.toInt)) = false := by simp [h1, h2]
  rw [h3]
  dsimp only
  rw [hc_nth_eq, ho]
  dsimp only
  rw [ht, decide_eq_true (by omega : (0 : Int) ≤ (tgt : Int))]
  rfl) (k h hR)
theorem hpa_alen {i m t : Nat} (hI : hc_get tb pc = some (.arraylength, len, r1, r2)) (ht : Nat.ble 6 t = false) (hs : hc_get hs_sh i = some (0, t, [m])) (k : hpa fg d ret tb (pc + 1) l (.int (Int32.ofNat m) :: st) A P) : hpa fg d ret tb pc l (.ref (i + 1) :: st) A P := fun h hR => hy_step (fun g _ => by
  unfold hc_step1
  simp only [hI]
  show hi_arraylength (0, fun _ => none) pc l (.ref (i + 1) :: st) hs_n h 0 0 = _
  unfold hi_arraylength
  dsimp only
  have hg : hc_get h i = some (.inl (t, hs_ar A i m)) := (hR i _ hs).trans (congrArg some (hs_cell0 A i t m))
  rw [hg]
  dsimp only
  rw [ht]
  dsimp only
  rw [hs_ar_len]
  rfl) (k h hR)
theorem hpa_zast {i m : Nat} {j x : Int32} (hI : hc_get tb pc = some (.bastore, len, r1, r2)) (hx : x = 0 ∨ x = 1) (hs : hc_get hs_sh i = some (0, 3, [m])) (h0 : ¬ j < 0) (h1 : j.toNatClampNeg < m) (k : hpa fg d ret tb (pc + 1) l st (A.1, hs_up A.2.1 i j.toNatClampNeg x, A.2.2) P) : hpa fg d ret tb pc l (.int x :: .int j :: .ref (i + 1) :: st) A P := fun h hR => by
  obtain ⟨h', hp, hR'⟩ := hs_setI (x := x) hR hs h1
  refine hy_step (fun g _ => ?_) (k h' hR')
  unfold hc_step1
  simp only [hI]
  show hi_bastore pc l (.int x :: .int j :: .ref (i + 1) :: st) hs_n h 0 0 = _
  unfold hi_bastore
  dsimp only
  have hg : hc_get h i = some (.inl (3, hs_ar A i m)) := (hR i _ hs).trans (congrArg some (hs_cell0 A i 3 m))
  rw [hg, hc_arr_ne rfl]
  dsimp only
  have hb : (decide (x = 0) || decide (x = 1)) = true := by simp [hx]
  rw [hb]
  exact hs_ast hg (hs_el h0 (hs_ar_at h1)) hp
theorem hpa_copy {z i0 i1 m : Nat} {w : Int32} (hI : hc_get tb pc = some (.invokestatic z, len, r1, 8)) (hs0 : hc_get hs_sh i0 = some (0, 1, [m])) (hs1 : hc_get hs_sh i1 = some (0, 1, [m])) (h0 : ¬ w < 0) (h1 : w.toNatClampNeg = m) (hcat : Nat.ble (hc_cat st) 8 = true) (k : hpa fg d ret tb (pc + 3) l st (A.1, hs_cpy A.2.1 i0 i1, A.2.2) P) : hpa fg d ret tb pc l (.int w :: .int 0 :: .ref (i1 + 1) :: .int 0 :: .ref (i0 + 1) :: st) A P := fun h hR => by
  have hg0 : hc_get h i0 = some (.inl (1, hs_ar A i0 m)) := (hR i0 _ hs0).trans (congrArg some (hs_cell0 A i0 1 m))
  have hg1 : hc_get h i1 = some (.inl (1, hs_ar A i1 m)) := (hR i1 _ hs1).trans (congrArg some (hs_cell0 A i1 1 m))
  obtain ⟨h', hp⟩ := hc_put_some (e := .inl (1, hs_ar A i0 m)) hg1
  have hR' : hs_Rep h' (A.1, hs_cpy A.2.1 i0 i1, A.2.2) := by
    intro q sh hq
    rw [hc_get_put hp q]
    by_cases e : q = i1
    · subst e
      rw [if_pos rfl]
      cases hq.symm.trans hs1
      rw [hs_cell0]
      refine congrArg (fun z => some (Sum.inl (1, z))) ?_
      unfold hs_ar hs_cpy
      simp
    · rw [if_neg e, hR q sh hq]
      exact congrArg some (hs_cell_ne _ _ sh (fun _ => rfl) (fun k => by simp [hs_cpy, e]) (fun _ => rfl) (fun _ => rfl))
  refine hy_step (fun g _ => ?_) (k h' hR')
  unfold hc_step1
  simp only [hI]
  show hi_invokestatic hm_pg (hx_call g d) r1 8 pc l (.int w :: .int 0 :: .ref (i1 + 1) :: .int 0 :: .ref (i0 + 1) :: st) hs_n h 0 0 = _
  unfold hi_invokestatic
  dsimp only
  rw [hg0, hg1, hc_arrS, hc_arrS]
  dsimp only
  have hall : (hs_ar A i0 m).all hc_isI = true := by
    rw [List.all_eq_true]
    intro v hv
    unfold hs_ar at hv
    obtain ⟨j, -, rfl⟩ := List.mem_map.mp hv
    rfl
  have hc : (decide ((0 : Int32) = 0) && (decide ((0 : Int32) = 0) && (!decide (w < 0) && (Nat.beq w.toNatClampNeg (hs_ar A i0 m).length && (Nat.beq (hs_ar A i0 m).length (hs_ar A i1 m).length && ((hs_ar A i0 m).all hc_isI && Nat.ble (hc_cat st) 8)))))) = true := by
    rw [hall, hcat, hs_ar_len, hs_ar_len, h1, Nat.beq_refl, decide_eq_false h0]
    rfl
  rw [hc]
  dsimp only
  rw [hp]
  rfl
theorem hp_top {d : Nat} {ret : Option FieldType} {tb : hc_K} {pc : Nat} {l st : List Value} {A : hs_A} {P : Option Value → hs_A → Prop} {x : Int32} (k : ∀ z : Int32, z = x → hpa fg d ret tb pc l (.int z :: st) A P) : hpa fg d ret tb pc l (.int x :: st) A P := k x rfl
theorem hpj_iadd {x y : Int32} {ex ey : Int} (hI : hc_get tb pc = some (.iadd, len, r1, r2)) (hx : x.toInt = ex) (hy : y.toInt = ey) (h1 : -2147483648 ≤ ex + ey) (h2 : ex + ey ≤ 2147483647) (k : ∀ z : Int32, z.toInt = ex + ey → hpa fg d ret tb (pc + 1) l (.int z :: st) A P) : hpa fg d ret tb pc l (.int y :: .int x :: st) A P := by
  subst hx
  subst hy
  exact hpa_iadd hI (k _ (hn_add rfl h1 h2))
theorem hpj_isub {x y : Int32} {ex ey : Int} (hI : hc_get tb pc = some (.isub, len, r1, r2)) (hx : x.toInt = ex) (hy : y.toInt = ey) (h1 : -2147483648 ≤ ex - ey) (h2 : ex - ey ≤ 2147483647) (k : ∀ z : Int32, z.toInt = ex - ey → hpa fg d ret tb (pc + 1) l (.int z :: st) A P) : hpa fg d ret tb pc l (.int y :: .int x :: st) A P := by
  subst hx
  subst hy
  exact hpa_isub hI (k _ (hn_sub rfl h1 h2))
theorem hpj_imul {x y : Int32} {ex ey : Int} (hI : hc_get tb pc = some (.imul, len, r1, r2)) (hx : x.toInt = ex) (hy : y.toInt = ey) (h1 : -2147483648 ≤ ex * ey) (h2 : ex * ey ≤ 2147483647) (k : ∀ z : Int32, z.toInt = ex * ey → hpa fg d ret tb (pc + 1) l (.int z :: st) A P) : hpa fg d ret tb pc l (.int y :: .int x :: st) A P := by
  subst hx
  subst hy
  exact hpa_imul hI (k _ (hn_mul rfl h1 h2))
theorem hpj_iaddU {x y : Int32} (hI : hc_get tb pc = some (.iadd, len, r1, r2))  (k : ∀ z : Int32, hpa fg d ret tb (pc + 1) l (.int z :: st) A P) : hpa fg d ret tb pc l (.int y :: .int x :: st) A P := hpa_iadd hI (k _)
theorem hpj_isubU {x y : Int32} (hI : hc_get tb pc = some (.isub, len, r1, r2))  (k : ∀ z : Int32, hpa fg d ret tb (pc + 1) l (.int z :: st) A P) : hpa fg d ret tb pc l (.int y :: .int x :: st) A P := hpa_isub hI (k _)
theorem hpj_imulU {x y : Int32} (hI : hc_get tb pc = some (.imul, len, r1, r2))  (k : ∀ z : Int32, hpa fg d ret tb (pc + 1) l (.int z :: st) A P) : hpa fg d ret tb pc l (.int y :: .int x :: st) A P := hpa_imul hI (k _)
theorem hpj_iandU {x y : Int32} (hI : hc_get tb pc = some (.iand, len, r1, r2))  (k : ∀ z : Int32, hpa fg d ret tb (pc + 1) l (.int z :: st) A P) : hpa fg d ret tb pc l (.int y :: .int x :: st) A P := hpa_iand hI (k _)
theorem hpj_iorU {x y : Int32} (hI : hc_get tb pc = some (.ior, len, r1, r2))  (k : ∀ z : Int32, hpa fg d ret tb (pc + 1) l (.int z :: st) A P) : hpa fg d ret tb pc l (.int y :: .int x :: st) A P := hpa_ior hI (k _)
theorem hpj_ixorU {x y : Int32} (hI : hc_get tb pc = some (.ixor, len, r1, r2))  (k : ∀ z : Int32, hpa fg d ret tb (pc + 1) l (.int z :: st) A P) : hpa fg d ret tb pc l (.int y :: .int x :: st) A P := hpa_ixor hI (k _)
theorem hpj_ishlU {x y : Int32} (hI : hc_get tb pc = some (.ishl, len, r1, r2))  (k : ∀ z : Int32, hpa fg d ret tb (pc + 1) l (.int z :: st) A P) : hpa fg d ret tb pc l (.int y :: .int x :: st) A P := hpa_ishl hI (k _)
theorem hpj_ishrU {x y : Int32} (hI : hc_get tb pc = some (.ishr, len, r1, r2))  (k : ∀ z : Int32, hpa fg d ret tb (pc + 1) l (.int z :: st) A P) : hpa fg d ret tb pc l (.int y :: .int x :: st) A P := hpa_ishr hI (k _)
theorem hpj_iushrU {x y : Int32} (hI : hc_get tb pc = some (.iushr, len, r1, r2))  (k : ∀ z : Int32, hpa fg d ret tb (pc + 1) l (.int z :: st) A P) : hpa fg d ret tb pc l (.int y :: .int x :: st) A P := hpa_iushr hI (k _)
theorem hpj_iandR {x y : Int32} {ey : Int} (hI : hc_get tb pc = some (.iand, len, r1, r2)) (hy : y.toInt = ey) (h0 : 0 ≤ ey) (k : ∀ z : Int32, 0 ≤ z.toInt → z.toInt ≤ ey → hpa fg d ret tb (pc + 1) l (.int z :: st) A P) : hpa fg d ret tb pc l (.int y :: .int x :: st) A P := by
  subst hy
  exact hpa_iand hI (k _ (hn_and0 h0) (hn_and1 h0))
theorem hpj_iandL {x y : Int32} {ex : Int} (hI : hc_get tb pc = some (.iand, len, r1, r2)) (hx : x.toInt = ex) (h0 : 0 ≤ ex) (k : ∀ z : Int32, 0 ≤ z.toInt → z.toInt ≤ ex → hpa fg d ret tb (pc + 1) l (.int z :: st) A P) : hpa fg d ret tb pc l (.int y :: .int x :: st) A P := by
  subst hx
  refine hpa_iand hI (k _ ?_ ?_)
  · rw [Int32.and_comm]
    exact hn_and0 h0
  · rw [Int32.and_comm]
    exact hn_and1 h0
theorem hpj_ior255 {x y : Int32} {ex ey : Int} (hI : hc_get tb pc = some (.ior, len, r1, r2)) (hx : x.toInt = ex) (hy : y.toInt = ey) (h0 : 0 ≤ ex) (h1 : ex ≤ 255) (h2 : 0 ≤ ey) (h3 : ey ≤ 255) (k : ∀ z : Int32, 0 ≤ z.toInt → z.toInt ≤ 255 → hpa fg d ret tb (pc + 1) l (.int z :: st) A P) : hpa fg d ret tb pc l (.int y :: .int x :: st) A P := by
  subst hx
  subst hy
  exact hpa_ior hI (k _ (hn_or0 h0 h1 h2 h3) (hn_or1 h0 h1 h2 h3))
theorem hpj_ishl1 {x y : Int32} {ey : Int} (hI : hc_get tb pc = some (.ishl, len, r1, r2)) (hx : x = Int32.ofNat 1) (hy : y.toInt = ey) (h0 : 0 ≤ ey) (h1 : ey ≤ 7) (k : ∀ z : Int32, 1 ≤ z.toInt → z.toInt ≤ 128 → hpa fg d ret tb (pc + 1) l (.int z :: st) A P) : hpa fg d ret tb pc l (.int y :: .int x :: st) A P := by
  subst hx
  subst hy
  exact hpa_ishl hI (k _ (hn_shl1 h0 h1).1 (hn_shl1 h0 h1).2)
theorem hpj_idivP {x y : Int32} {ex ey : Int} (hI : hc_get tb pc = some (.idiv, len, r1, r2)) (hx : x.toInt = ex) (hy : y.toInt = ey) (h0 : 0 ≤ ex) (h1 : 0 < ey) (k : ∀ z : Int32, z.toInt = ex / ey → hpa fg d ret tb (pc + 1) l (.int z :: st) A P) : hpa fg d ret tb pc l (.int y :: .int x :: st) A P := by
  subst hx
  subst hy
  exact hpa_idiv hI (hn_nz (by omega)) (k _ (hn_div h0 h1))
theorem hpj_idivU {x y : Int32} {ey : Int} (hI : hc_get tb pc = some (.idiv, len, r1, r2)) (hy : y.toInt = ey) (h1 : ¬ ey = 0) (k : ∀ z : Int32, hpa fg d ret tb (pc + 1) l (.int z :: st) A P) : hpa fg d ret tb pc l (.int y :: .int x :: st) A P := by
  subst hy
  exact hpa_idiv hI (hn_nz h1) (k _)
theorem hpj_iremP {x y : Int32} {ex ey : Int} (hI : hc_get tb pc = some (.irem, len, r1, r2)) (hx : x.toInt = ex) (hy : y.toInt = ey) (h0 : 0 ≤ ex) (h1 : 0 < ey) (k : ∀ z : Int32, z.toInt = ex % ey → hpa fg d ret tb (pc + 1) l (.int z :: st) A P) : hpa fg d ret tb pc l (.int y :: .int x :: st) A P := by
  subst hx
  subst hy
  exact hpa_irem hI (hn_nz (by omega)) (k _ (hn_rem h0 h1))
theorem hpj_iremU {x y : Int32} {ey : Int} (hI : hc_get tb pc = some (.irem, len, r1, r2)) (hy : y.toInt = ey) (h1 : ¬ ey = 0) (k : ∀ z : Int32, hpa fg d ret tb (pc + 1) l (.int z :: st) A P) : hpa fg d ret tb pc l (.int y :: .int x :: st) A P := by
  subst hy
  exact hpa_irem hI (hn_nz h1) (k _)
theorem hpj_clt {off : Int} {x y : Int32} {ex ey : Int} (hI : hc_get tb pc = some (.if_icmp .lt off, len, r1, r2)) (hx : x.toInt = ex) (hy : y.toInt = ey) (kt : ex < ey → hpa fg d ret tb r1 l st A P) (kf : ey ≤ ex → hpa fg d ret tb (pc + 3) l st A P) : hpa fg d ret tb pc l (.int y :: .int x :: st) A P := by
  subst hx
  subst hy
  refine hpa_icmp hI (fun q => kt (hn_lt.mp q)) (fun q => kf ?_)
  have := hn_f hn_lt q
  omega
theorem hpj_zlt {off : Int} {x : Int32} {ex : Int} (hI : hc_get tb pc = some (.ifCond .lt off, len, r1, r2)) (hx : x.toInt = ex) (kt : ex < 0 → hpa fg d ret tb r1 l st A P) (kf : 0 ≤ ex → hpa fg d ret tb (pc + 3) l st A P) : hpa fg d ret tb pc l (.int x :: st) A P := by
  subst hx
  have h00 : (0 : Int32).toInt = 0 := by decide
  refine hpa_if hI (fun q => kt ?_) (fun q => kf ?_)
  · have := (hn_lt (x := x) (y := 0)).mp q
    rw [h00] at this
    exact this
  · have := hn_f (hn_lt (x := x) (y := 0)) q
    rw [h00] at this
    omega
theorem hpj_cge {off : Int} {x y : Int32} {ex ey : Int} (hI : hc_get tb pc = some (.if_icmp .ge off, len, r1, r2)) (hx : x.toInt = ex) (hy : y.toInt = ey) (kt : ey ≤ ex → hpa fg d ret tb r1 l st A P) (kf : ex < ey → hpa fg d ret tb (pc + 3) l st A P) : hpa fg d ret tb pc l (.int y :: .int x :: st) A P := by
  subst hx
  subst hy
  refine hpa_icmp hI (fun q => kt (hn_ge.mp q)) (fun q => kf ?_)
  have := hn_f hn_ge q
  omega
theorem hpj_zge {off : Int} {x : Int32} {ex : Int} (hI : hc_get tb pc = some (.ifCond .ge off, len, r1, r2)) (hx : x.toInt = ex) (kt : 0 ≤ ex → hpa fg d ret tb r1 l st A P) (kf : ex < 0 → hpa fg d ret tb (pc + 3) l st A P) : hpa fg d ret tb pc l (.int x :: st) A P := by
  subst hx
  have h00 : (0 : Int32).toInt = 0 := by decide
  refine hpa_if hI (fun q => kt ?_) (fun q => kf ?_)
  · have := (hn_ge (x := x) (y := 0)).mp q
    rw [h00] at this
    exact this
  · have := hn_f (hn_ge (x := x) (y := 0)) q
    rw [h00] at this
    omega
theorem hpj_cgt {off : Int} {x y : Int32} {ex ey : Int} (hI : hc_get tb pc = some (.if_icmp .gt off, len, r1, r2)) (hx : x.toInt = ex) (hy : y.toInt = ey) (kt : ey < ex → hpa fg d ret tb r1 l st A P) (kf : ex ≤ ey → hpa fg d ret tb (pc + 3) l st A P) : hpa fg d ret tb pc l (.int y :: .int x :: st) A P := by
  subst hx
  subst hy
  refine hpa_icmp hI (fun q => kt (hn_gt.mp q)) (fun q => kf ?_)
  have := hn_f hn_gt q
  omega
theorem hpj_zgt {off : Int} {x : Int32} {ex : Int} (hI : hc_get tb pc = some (.ifCond .gt off, len, r1, r2)) (hx : x.toInt = ex) (kt : 0 < ex → hpa fg d ret tb r1 l st A P) (kf : ex ≤ 0 → hpa fg d ret tb (pc + 3) l st A P) : hpa fg d ret tb pc l (.int x :: st) A P := by
  subst hx
  have h00 : (0 : Int32).toInt = 0 := by decide
  refine hpa_if hI (fun q => kt ?_) (fun q => kf ?_)
  · have := (hn_gt (x := x) (y := 0)).mp q
    rw [h00] at this
    exact this
  · have := hn_f (hn_gt (x := x) (y := 0)) q
    rw [h00] at this
    omega
theorem hpj_cle {off : Int} {x y : Int32} {ex ey : Int} (hI : hc_get tb pc = some (.if_icmp .le off, len, r1, r2)) (hx : x.toInt = ex) (hy : y.toInt = ey) (kt : ex ≤ ey → hpa fg d ret tb r1 l st A P) (kf : ey < ex → hpa fg d ret tb (pc + 3) l st A P) : hpa fg d ret tb pc l (.int y :: .int x :: st) A P := by
  subst hx
  subst hy
  refine hpa_icmp hI (fun q => kt (hn_le.mp q)) (fun q => kf ?_)
  have := hn_f hn_le q
  omega
theorem hpj_zle {off : Int} {x : Int32} {ex : Int} (hI : hc_get tb pc = some (.ifCond .le off, len, r1, r2)) (hx : x.toInt = ex) (kt : ex ≤ 0 → hpa fg d ret tb r1 l st A P) (kf : 0 < ex → hpa fg d ret tb (pc + 3) l st A P) : hpa fg d ret tb pc l (.int x :: st) A P := by
  subst hx
  have h00 : (0 : Int32).toInt = 0 := by decide
  refine hpa_if hI (fun q => kt ?_) (fun q => kf ?_)
  · have := (hn_le (x := x) (y := 0)).mp q
    rw [h00] at this
    exact this
  · have := hn_f (hn_le (x := x) (y := 0)) q
    rw [h00] at this
    omega
theorem hpj_ceq {off : Int} {x y : Int32} {ex ey : Int} (hI : hc_get tb pc = some (.if_icmp .eq off, len, r1, r2)) (hx : x.toInt = ex) (hy : y.toInt = ey) (kt : ex = ey → hpa fg d ret tb r1 l st A P) (kf : ¬ ex = ey → hpa fg d ret tb (pc + 3) l st A P) : hpa fg d ret tb pc l (.int y :: .int x :: st) A P := by
  subst hx
  subst hy
  refine hpa_icmp hI (fun q => kt (hn_eq.mp q)) (fun q => kf ?_)
  exact hn_f hn_eq q
theorem hpj_zeq {off : Int} {x : Int32} {ex : Int} (hI : hc_get tb pc = some (.ifCond .eq off, len, r1, r2)) (hx : x.toInt = ex) (kt : ex = 0 → hpa fg d ret tb r1 l st A P) (kf : ¬ ex = 0 → hpa fg d ret tb (pc + 3) l st A P) : hpa fg d ret tb pc l (.int x :: st) A P := by
  subst hx
  have h00 : (0 : Int32).toInt = 0 := by decide
  refine hpa_if hI (fun q => kt ?_) (fun q => kf ?_)
  · have := (hn_eq (x := x) (y := 0)).mp q
    rw [h00] at this
    exact this
  · have := hn_f (hn_eq (x := x) (y := 0)) q
    rw [h00] at this
    exact this
theorem hpj_cne {off : Int} {x y : Int32} {ex ey : Int} (hI : hc_get tb pc = some (.if_icmp .ne off, len, r1, r2)) (hx : x.toInt = ex) (hy : y.toInt = ey) (kt : ¬ ex = ey → hpa fg d ret tb r1 l st A P) (kf : ex = ey → hpa fg d ret tb (pc + 3) l st A P) : hpa fg d ret tb pc l (.int y :: .int x :: st) A P := by
  subst hx
  subst hy
  refine hpa_icmp hI (fun q => kt (hn_ne.mp q)) (fun q => kf ?_)
  exact Classical.not_not.mp (hn_f hn_ne q)
theorem hpj_zne {off : Int} {x : Int32} {ex : Int} (hI : hc_get tb pc = some (.ifCond .ne off, len, r1, r2)) (hx : x.toInt = ex) (kt : ¬ ex = 0 → hpa fg d ret tb r1 l st A P) (kf : ex = 0 → hpa fg d ret tb (pc + 3) l st A P) : hpa fg d ret tb pc l (.int x :: st) A P := by
  subst hx
  have h00 : (0 : Int32).toInt = 0 := by decide
  refine hpa_if hI (fun q => kt ?_) (fun q => kf ?_)
  · have := (hn_ne (x := x) (y := 0)).mp q
    rw [h00] at this
    exact this
  · have := hn_f (hn_ne (x := x) (y := 0)) q
    rw [h00] at this
    exact Classical.not_not.mp this
theorem hpj_getI {z i : Nat} {ks : List Nat} (hI : hc_get tb pc = some (.getfield z, len, r1, r2)) (hs : hc_get hs_sh i = some (3, r1, ks)) (hk : hc_nth ks r2 = some 0) (k : ∀ v : Int32, A.1 i r2 = v → hpa fg d ret tb (pc + 3) l (.int v :: st) A P) : hpa fg d ret tb pc l (.ref (i + 1) :: st) A P := hpa_get hI hs hk rfl (k _ rfl)
theorem hpj_getK {z i : Nat} {ks : List Nat} {v : Int32} (hI : hc_get tb pc = some (.getfield z, len, r1, r2)) (hs : hc_get hs_sh i = some (3, r1, ks)) (hk : hc_nth ks r2 = some 0) (hv : A.1 i r2 = v) (k : hpa fg d ret tb (pc + 3) l (.int v :: st) A P) : hpa fg d ret tb pc l (.ref (i + 1) :: st) A P := by
  subst hv
  exact hpa_get hI hs hk rfl k
theorem hpj_getT {z i T : Nat} {ks : List Nat} (hI : hc_get tb pc = some (.getfield z, len, r1, r2)) (hs : hc_get hs_sh i = some (3, r1, ks)) (hk : hc_nth ks r2 = some 100000) (e : A.2.2.2 i r2 = T) (k : hpa fg d ret tb (pc + 3) l (.ref T :: st) A P) : hpa fg d ret tb pc l (.ref (i + 1) :: st) A P := hpa_get hI hs hk (by show Value.ref (A.2.2.2 i r2) = _; rw [e]) k
theorem hpj_iald {i m : Nat} {j : Int32} {ej : Int} (hI : hc_get tb pc = some (.iaload, len, r1, r2)) (hs : hc_get hs_sh i = some (0, 1, [m])) (hj : j.toInt = ej) (h0 : 0 ≤ ej) (h1 : ej < (m : Int)) (k : ∀ v : Int32, A.2.1 i j.toNatClampNeg = v → hpa fg d ret tb (pc + 1) l (.int v :: st) A P) : hpa fg d ret tb pc l (.int j :: .ref (i + 1) :: st) A P := by
  subst hj
  exact hpa_iald hI hs (hn_ix h0 h1).1 (hn_ix h0 h1).2 (k _ rfl)
theorem hpj_bald {i m : Nat} {j : Int32} {ej : Int} (hI : hc_get tb pc = some (.baload, len, r1, r2)) (hs : hc_get hs_sh i = some (0, 0, [m])) (hj : j.toInt = ej) (h0 : 0 ≤ ej) (h1 : ej < (m : Int)) (k : ∀ v : Int32, A.2.1 i j.toNatClampNeg = v → hpa fg d ret tb (pc + 1) l (.int v :: st) A P) : hpa fg d ret tb pc l (.int j :: .ref (i + 1) :: st) A P := by
  subst hj
  exact hpa_bald hI hs (hn_ix h0 h1).1 (hn_ix h0 h1).2 (k _ rfl)
theorem hpj_zald {i m : Nat} {j : Int32} {ej : Int} (hI : hc_get tb pc = some (.baload, len, r1, r2)) (hs : hc_get hs_sh i = some (0, 3, [m])) (hj : j.toInt = ej) (h0 : 0 ≤ ej) (h1 : ej < (m : Int)) (k : ∀ v : Int32, A.2.1 i j.toNatClampNeg = v → hpa fg d ret tb (pc + 1) l (.int v :: st) A P) : hpa fg d ret tb pc l (.int j :: .ref (i + 1) :: st) A P := by
  subst hj
  exact hpa_zald hI hs (hn_ix h0 h1).1 (hn_ix h0 h1).2 (k _ rfl)
theorem hpa_putR {z i x : Nat} {ks : List Nat} (hI : hc_get tb pc = some (.putfield z, len, r1, r2)) (hs : hc_get hs_sh i = some (3, r1, ks)) (hk : hc_nth ks r2 = some 100000) (hf : hc_fit (hc_tyX r1 r2) (.ref x) = true) (k : hpa fg d ret tb (pc + 3) l st (A.1, A.2.1, A.2.2.1, hs_upN A.2.2.2 i r2 x) P) : hpa fg d ret tb pc l (.ref x :: .ref (i + 1) :: st) A P := fun h hR => by
  obtain ⟨h', hp, hR'⟩ := hs_putR (x := x) hR hs hk
  refine hy_step (fun g _ => ?_) (k h' hR')
  unfold hc_step1
  simp only [hI]
  show hi_putfield r1 r2 pc l (.ref x :: .ref (i + 1) :: st) hs_n h 0 0 = _
  unfold hi_putfield
  dsimp only
  rw [hR i _ hs, hs_cell3, hc_objS]
  dsimp only
  rw [hf]
  dsimp only
  rw [hs_fs_at hk]
  dsimp only
  rw [hp]
  rfl
theorem hpa_last {i m : Nat} {j : Int32} {x : Int64} (hI : hc_get tb pc = some (.lastore, len, r1, r2)) (hs : hc_get hs_sh i = some (1, 2, [m])) (h0 : ¬ j < 0) (h1 : j.toNatClampNeg < m) (k : hpa fg d ret tb (pc + 1) l st (A.1, A.2.1, hs_upL A.2.2.1 i j.toNatClampNeg x, A.2.2.2) P) : hpa fg d ret tb pc l (.long x :: .int j :: .ref (i + 1) :: st) A P := fun h hR => by
  obtain ⟨h', hp, hR'⟩ := hs_setL (x := x) hR hs h1
  refine hy_step (fun g _ => ?_) (k h' hR')
  unfold hc_step1
  simp only [hI]
  show hi_lastore pc l (.long x :: .int j :: .ref (i + 1) :: st) hs_n h 0 0 = _
  unfold hi_lastore
  exact hs_ast ((hR i _ hs).trans (congrArg some (hs_cell1 A i 2 m))) (hs_el h0 (hs_al_at h1)) hp
theorem hpj_iinc {z : Nat} {w : Int} {x : Int32} {l' : Int32 → List Value} {ex c : Int} (hI : hc_get tb pc = some (.iinc z w, len, r1, r2)) (hx : hc_nth l r1 = some (.int x)) (he : x.toInt = ex) (hc : (Int32.ofNat r2).toInt = c) (h1 : -2147483648 ≤ ex + c) (h2 : ex + c ≤ 2147483647) (hl : ∀ v, hc_s1 l r1 (.int v) = some (l' v)) (k : ∀ v : Int32, v.toInt = ex + c → hpa fg d ret tb (pc + 3) (l' v) st A P) : hpa fg d ret tb pc l st A P := by
  subst he
  subst hc
  exact hpa_iinc hI hx (hl _) (k _ (hn_add rfl h1 h2))
theorem hpj_iincU {z : Nat} {w : Int} {x : Int32} {l' : Int32 → List Value} (hI : hc_get tb pc = some (.iinc z w, len, r1, r2)) (hx : hc_nth l r1 = some (.int x)) (hl : ∀ v, hc_s1 l r1 (.int v) = some (l' v)) (k : ∀ v : Int32, hpa fg d ret tb (pc + 3) (l' v) st A P) : hpa fg d ret tb pc l st A P := hpa_iinc hI hx (hl _) (k _)
theorem hpj_lald {i m : Nat} {j : Int32} {ej : Int} (hI : hc_get tb pc = some (.laload, len, r1, r2)) (hs : hc_get hs_sh i = some (1, 2, [m])) (hj : j.toInt = ej) (h0 : 0 ≤ ej) (h1 : ej < (m : Int)) (k : ∀ v : Int64, A.2.2.1 i j.toNatClampNeg = v → hpa fg d ret tb (pc + 1) l (.long v :: st) A P) : hpa fg d ret tb pc l (.int j :: .ref (i + 1) :: st) A P := by
  subst hj
  exact hpa_lald hI hs (hn_ix h0 h1).1 (hn_ix h0 h1).2 (k _ rfl)
theorem hpj_strIdx {z : Nat} {x : Int32} (hI : hc_get tb pc = some (.invokevirtual z, len, 2, 7)) (hcat : Nat.ble (hc_cat st) 8 = true) (K : ∀ v : Int32, -1 ≤ v.toInt → v.toInt ≤ 8 → hpa fg d ret tb (pc + 3) l (.int v :: st) A P) : hpa fg d ret tb pc l (.int x :: .retAddr 0 :: st) A P := by
  have h := hixf_rng x (hc_txt 0) 0 (by decide)
  have e : (hc_txt 0).length = 9 := by decide
  exact hpa_strIdx hI hcat (K _ h.1 (by omega))
theorem hpj_strLen {z : Nat} (hI : hc_get tb pc = some (.invokevirtual z, len, 0, 7)) (hcat : Nat.ble (hc_cat st) 8 = true) (K : ∀ v : Int32, v.toInt = 102 → hpa fg d ret tb (pc + 3) l (.int v :: st) A P) : hpa fg d ret tb pc l (.retAddr 1 :: st) A P := hpa_strLen hI hcat (K _ (by decide))
theorem hpj_strChar {z : Nat} {i : Int32} {ei : Int} (hI : hc_get tb pc = some (.invokevirtual z, len, 1, 7)) (hcat : Nat.ble (hc_cat st) 8 = true) (hi : i.toInt = ei) (h0 : 0 ≤ ei) (h1 : ei < 102) (K : ∀ v : Int32, hpa fg d ret tb (pc + 3) l (.int v :: st) A P) : hpa fg d ret tb pc l (.int i :: .retAddr 1 :: st) A P := by
  subst hi
  have e : (hc_txt 1).length = 102 := by decide
  have hlt : i.toNatClampNeg < (hc_txt 1).length := by rw [e]; show i.toInt.toNat < 102; omega
  exact hpa_strChar (k := 1) (b := (hc_txt 1)[i.toNatClampNeg]) hI hcat (hn_ix0 rfl h0) (List.getElem?_eq_getElem hlt) (K _)
theorem hpj_ialdK {i m : Nat} {j v : Int32} {ej : Int} (hI : hc_get tb pc = some (.iaload, len, r1, r2)) (hs : hc_get hs_sh i = some (0, 1, [m])) (hj : j.toInt = ej) (h0 : 0 ≤ ej) (h1 : ej < (m : Int)) (e : A.2.1 i j.toNatClampNeg = v) (k : hpa fg d ret tb (pc + 1) l (.int v :: st) A P) : hpa fg d ret tb pc l (.int j :: .ref (i + 1) :: st) A P := by
  subst hj
  subst e
  exact hpa_iald hI hs (hn_ix h0 h1).1 (hn_ix h0 h1).2 k
theorem hpa_iload_nS {f g1 : Nat} {z : Fin 4} {x : Int32} (hI : hc_get tb pc = some (.iload_n z, len, r1, r2)) (hl : hc_nth l r1 = some (.int x)) (k : hpa (f, g1) d ret tb (pc + 1) l (.int x :: st) A P) : hpa (f + 1, g1) d ret tb pc l st A P := fun h hR => hy_stepS (by unfold hc_step1; simp only [hI]; show hi_iload_n r1 pc l st hs_n h 0 0 = _; unfold hi_iload_n; rw [hl]; rfl) (k h hR)
theorem hpa_iloadS {f g1 : Nat} {z : Nat} {x : Int32} (hI : hc_get tb pc = some (.iload z, len, r1, r2)) (hl : hc_nth l r1 = some (.int x)) (k : hpa (f, g1) d ret tb (pc + 2) l (.int x :: st) A P) : hpa (f + 1, g1) d ret tb pc l st A P := fun h hR => hy_stepS (by unfold hc_step1; simp only [hI]; show hi_iload r1 pc l st hs_n h 0 0 = _; unfold hi_iload; rw [hl]; rfl) (k h hR)
theorem hpa_aload_nS {f g1 : Nat} {z : Fin 4} {x : Nat} (hI : hc_get tb pc = some (.aload_n z, len, r1, r2)) (hl : hc_nth l r1 = some (.ref x)) (k : hpa (f, g1) d ret tb (pc + 1) l (.ref x :: st) A P) : hpa (f + 1, g1) d ret tb pc l st A P := fun h hR => hy_stepS (by unfold hc_step1; simp only [hI]; show hi_aload_n r1 pc l st hs_n h 0 0 = _; unfold hi_aload_n; rw [hl]; rfl) (k h hR)
theorem hpa_aloadS {f g1 : Nat} {z : Nat} {x : Nat} (hI : hc_get tb pc = some (.aload z, len, r1, r2)) (hl : hc_nth l r1 = some (.ref x)) (k : hpa (f, g1) d ret tb (pc + 2) l (.ref x :: st) A P) : hpa (f + 1, g1) d ret tb pc l st A P := fun h hR => hy_stepS (by unfold hc_step1; simp only [hI]; show hi_aload r1 pc l st hs_n h 0 0 = _; unfold hi_aload; rw [hl]; rfl) (k h hR)
theorem hpa_gotoS {f g1 : Nat} {off : Int} (hI : hc_get tb pc = some (.goto off, len, r1, r2)) (k : hpa (f, g1) d ret tb r1 l st A P) : hpa (f + 1, g1) d ret tb pc l st A P := fun h hR => hy_stepS (by
  unfold hc_step1
  simp only [hI]
  rfl) (k h hR)
theorem hpa_call0 {z i ci : Nat} {ks : List Nat} {e : hc_M} {as rest : List Value} {P1 : Option Value → hs_A → Prop} (hI : hc_get tb pc = some (.invokevirtual z, len, r1, 0)) (he : hc_get hm_pg r1 = some e) (hpop : hc_pop e.2.2.2.2.2.1 st [] = some (as, .ref (i + 1) :: rest)) (hs : hc_get hs_sh i = some (3, ci, ks)) (hoc : e.2.2.2.2.1 = ci) (hcat : Nat.ble (hc_cat rest) 8 = true) (hC : hpC fg.2 d r1 e (.ref (i + 1) :: as) A P1) (k : ∀ (r : Option Value) (A' : hs_A), P1 r A' → hpa fg d ret tb (pc + 3) l (hc_app r rest) A' P) : hpa fg d ret tb pc l st A P := fun h hR => by
  cases hc : hx_call fg.2 d r1 e (.ref (i + 1) :: as) hs_n h with
  | none =>
    refine hy_none ?_
    unfold hc_step1
    simp only [hI]
    show hc_inv0 hm_pg (hx_call fg.2 d) r1 pc l st hs_n h 0 0 = _
    unfold hc_inv0
    rw [he]
    dsimp only
    rw [hpop]
    dsimp only
    rw [hR i _ hs, hs_cell3, hoc, hc_objS]
    dsimp only
    rw [hcat]
    dsimp only
    rw [hc]
  | some R1 =>
    obtain ⟨r, h', eR, A', hR', hp⟩ := hC h hR R1 hc
    subst eR
    refine hy_stepG ?_ (k r A' hp h' hR')
    unfold hc_step1
    simp only [hI]
    show hc_inv0 hm_pg (hx_call fg.2 d) r1 pc l st hs_n h 0 0 = _
    unfold hc_inv0
    rw [he]
    dsimp only
    rw [hpop]
    dsimp only
    rw [hR i _ hs, hs_cell3, hoc, hc_objS]
    dsimp only
    rw [hcat]
    dsimp only
    rw [hc]
    rfl
theorem hpa_call2 {z : Nat} {e : hc_M} {as rest : List Value} {P1 : Option Value → hs_A → Prop} (hI : hc_get tb pc = some (.invokestatic z, len, r1, r2)) (h8 : r2 ≠ 8) (he : hc_get hm_pg r1 = some e) (hpop : hc_pop e.2.2.2.2.2.1 st [] = some (as, rest)) (hcat : Nat.ble (hc_cat rest) 8 = true) (hC : hpC fg.2 d r1 e as A P1) (k : ∀ (r : Option Value) (A' : hs_A), P1 r A' → hpa fg d ret tb (pc + 3) l (hc_app r rest) A' P) : hpa fg d ret tb pc l st A P := fun h hR => by
  cases hc : hx_call fg.2 d r1 e as hs_n h with
  | none =>
    refine hy_none ?_
    unfold hc_step1
    simp only [hI]
    show hi_invokestatic hm_pg (hx_call fg.2 d) r1 r2 pc l st hs_n h 0 0 = _
    unfold hi_invokestatic
    split
    · exact absurd rfl h8
    · unfold hc_inv2
      rw [he]
      dsimp only
      rw [hpop]
      dsimp only
      rw [hcat]
      dsimp only
      rw [hc]
  | some R1 =>
    obtain ⟨r, h', eR, A', hR', hp⟩ := hC h hR R1 hc
    subst eR
    refine hy_stepG ?_ (k r A' hp h' hR')
    unfold hc_step1
    simp only [hI]
    show hi_invokestatic hm_pg (hx_call fg.2 d) r1 r2 pc l st hs_n h 0 0 = _
    unfold hi_invokestatic
    split
    · exact absurd rfl h8
    · unfold hc_inv2
      rw [he]
      dsimp only
      rw [hpop]
      dsimp only
      rw [hcat]
      dsimp only
      rw [hc]
      rfl
theorem hpj_putI {z i : Nat} {ks : List Nat} {x : Int32} (hI : hc_get tb pc = some (.putfield z, len, r1, r2)) (hs : hc_get hs_sh i = some (3, r1, ks)) (hk : hc_nth ks r2 = some 0) (hf : hc_fit (hc_tyX r1 r2) (.int x) = true) (k : ∀ A' : hs_A, A'.1 = hs_up A.1 i r2 x → A'.2 = A.2 → hpa fg d ret tb (pc + 3) l st A' P) : hpa fg d ret tb pc l (.int x :: .ref (i + 1) :: st) A P := hpa_putI hI hs hk hf (k _ rfl rfl)
theorem hpj_putR {z i x : Nat} {ks : List Nat} (hI : hc_get tb pc = some (.putfield z, len, r1, r2)) (hs : hc_get hs_sh i = some (3, r1, ks)) (hk : hc_nth ks r2 = some 100000) (hf : hc_fit (hc_tyX r1 r2) (.ref x) = true) (k : ∀ A' : hs_A, A'.1 = A.1 → A'.2.1 = A.2.1 → A'.2.2.1 = A.2.2.1 → A'.2.2.2 = hs_upN A.2.2.2 i r2 x → hpa fg d ret tb (pc + 3) l st A' P) : hpa fg d ret tb pc l (.ref x :: .ref (i + 1) :: st) A P := hpa_putR hI hs hk hf (k _ rfl rfl rfl rfl)
/-! an index out of the row: the method doesn't end -/
theorem hp_elN {a : List Value} {j : Int32} {m : Nat} (hl : a.length = m) (hj : ¬ (0 ≤ j.toInt ∧ j.toInt < (m : Int))) : hc_el a j = none := by
  unfold hc_el
  by_cases q : j < 0
  · rw [decide_eq_true q]
  · rw [decide_eq_false q]
    show hc_nth a j.toNatClampNeg = none
    rw [hc_nth_eq]
    refine List.getElem?_eq_none ?_
    have h0 : (0 : Int32).toInt = 0 := by decide
    have h1 : ¬ j.toInt < 0 := by rw [Int32.lt_iff_toInt_lt, h0] at q; exact q
    show a.length ≤ j.toInt.toNat
    omega
theorem hp_aldN {t i n c s : Nat} {j : Int32} {a : List Value} {h : hc_H} (hg : hc_get h i = some (.inl (t, a))) (hv : hc_el a j = none) : hc_ald t pc l (.int j :: .ref (i + 1) :: st) n h c s = none := by
  unfold hc_ald
  dsimp only
  rw [hg, hc_arrS]
  dsimp only
  rw [hv]
theorem hp_astN {t i n c s : Nat} {j : Int32} {a : List Value} {v : Value} {h : hc_H} (hg : hc_get h i = some (.inl (t, a))) (hv : hc_el a j = none) : hc_ast t i j v pc l st n h c s = none := by
  unfold hc_ast
  rw [hg, hc_arrS]
  dsimp only
  rw [hv]
theorem hpx_iald {i m : Nat} {j : Int32} (hI : hc_get tb pc = some (.iaload, len, r1, r2)) (hs : hc_get hs_sh i = some (0, 1, [m])) (k : 0 ≤ j.toInt → j.toInt < (m : Int) → ∀ v : Int32, A.2.1 i j.toNatClampNeg = v → hpa fg d ret tb (pc + 1) l (.int v :: st) A P) : hpa fg d ret tb pc l (.int j :: .ref (i + 1) :: st) A P := by
  by_cases q : 0 ≤ j.toInt ∧ j.toInt < (m : Int)
  · exact hpj_iald hI hs rfl q.1 q.2 (k q.1 q.2)
  · intro h hR
    refine hy_none ?_
    unfold hc_step1
    simp only [hI]
    show hi_iaload (0, fun _ => none) pc l (.int j :: .ref (i + 1) :: st) hs_n h 0 0 = _
    unfold hi_iaload
    exact hp_aldN ((hR i _ hs).trans (congrArg some (hs_cell0 A i 1 m))) (hp_elN (hs_ar_len A i m) q)
theorem hpx_lald {i m : Nat} {j : Int32} (hI : hc_get tb pc = some (.laload, len, r1, r2)) (hs : hc_get hs_sh i = some (1, 2, [m])) (k : 0 ≤ j.toInt → j.toInt < (m : Int) → ∀ v : Int64, A.2.2.1 i j.toNatClampNeg = v → hpa fg d ret tb (pc + 1) l (.long v :: st) A P) : hpa fg d ret tb pc l (.int j :: .ref (i + 1) :: st) A P := by
  by_cases q : 0 ≤ j.toInt ∧ j.toInt < (m : Int)
  · exact hpj_lald hI hs rfl q.1 q.2 (k q.1 q.2)
  · intro h hR
    refine hy_none ?_
    unfold hc_step1
    simp only [hI]
    show hi_laload pc l (.int j :: .ref (i + 1) :: st) hs_n h 0 0 = _
    unfold hi_laload
    exact hp_aldN ((hR i _ hs).trans (congrArg some (hs_cell1 A i 2 m))) (hp_elN (by unfold hs_al; simp) q)
theorem hpx_bald {i m : Nat} {j : Int32} (hI : hc_get tb pc = some (.baload, len, r1, r2)) (hs : hc_get hs_sh i = some (0, 0, [m])) (k : 0 ≤ j.toInt → j.toInt < (m : Int) → ∀ v : Int32, A.2.1 i j.toNatClampNeg = v → hpa fg d ret tb (pc + 1) l (.int v :: st) A P) : hpa fg d ret tb pc l (.int j :: .ref (i + 1) :: st) A P := by
  by_cases q : 0 ≤ j.toInt ∧ j.toInt < (m : Int)
  · exact hpj_bald hI hs rfl q.1 q.2 (k q.1 q.2)
  · intro h hR
    refine hy_none ?_
    unfold hc_step1
    simp only [hI]
    show hi_baload pc l (.int j :: .ref (i + 1) :: st) hs_n h 0 0 = _
    unfold hi_baload
    have hg : hc_get h i = some (.inl (0, hs_ar A i m)) := (hR i _ hs).trans (congrArg some (hs_cell0 A i 0 m))
    rw [hp_aldN hg (hp_elN (hs_ar_len A i m) q)]
    dsimp only
    unfold hc_ald
    dsimp only
    rw [hg, hc_arr_ne rfl]
theorem hpx_iast {i m : Nat} {j x : Int32} (hI : hc_get tb pc = some (.iastore, len, r1, r2)) (hs : hc_get hs_sh i = some (0, 1, [m])) (k : ∀ A' : hs_A, 0 ≤ j.toInt → j.toInt < (m : Int) → A'.1 = A.1 → A'.2.1 = hs_up A.2.1 i j.toNatClampNeg x → A'.2.2 = A.2.2 → hpa fg d ret tb (pc + 1) l st A' P) : hpa fg d ret tb pc l (.int x :: .int j :: .ref (i + 1) :: st) A P := by
  by_cases q : 0 ≤ j.toInt ∧ j.toInt < (m : Int)
  · exact hpa_iast hI hs (hn_ix q.1 q.2).1 (hn_ix q.1 q.2).2 (k _ q.1 q.2 rfl rfl rfl)
  · intro h hR
    refine hy_none ?_
    unfold hc_step1
    simp only [hI]
    show hi_iastore pc l (.int x :: .int j :: .ref (i + 1) :: st) hs_n h 0 0 = _
    unfold hi_iastore
    exact hp_astN ((hR i _ hs).trans (congrArg some (hs_cell0 A i 1 m))) (hp_elN (hs_ar_len A i m) q)
theorem hpx_bast {i m : Nat} {j x : Int32} (hI : hc_get tb pc = some (.bastore, len, r1, r2)) (hs : hc_get hs_sh i = some (0, 0, [m])) (k : ∀ A' : hs_A, 0 ≤ j.toInt → j.toInt < (m : Int) → A'.1 = A.1 → A'.2.1 = hs_up A.2.1 i j.toNatClampNeg x.toInt8.toInt32 → A'.2.2 = A.2.2 → hpa fg d ret tb (pc + 1) l st A' P) : hpa fg d ret tb pc l (.int x :: .int j :: .ref (i + 1) :: st) A P := by
  by_cases q : 0 ≤ j.toInt ∧ j.toInt < (m : Int)
  · exact hpa_bast hI hs (hn_ix q.1 q.2).1 (hn_ix q.1 q.2).2 (k _ q.1 q.2 rfl rfl rfl)
  · intro h hR
    refine hy_none ?_
    unfold hc_step1
    simp only [hI]
    show hi_bastore pc l (.int x :: .int j :: .ref (i + 1) :: st) hs_n h 0 0 = _
    unfold hi_bastore
    dsimp only
    have hg : hc_get h i = some (.inl (0, hs_ar A i m)) := (hR i _ hs).trans (congrArg some (hs_cell0 A i 0 m))
    rw [hg, hc_arrS]
    exact hp_astN hg (hp_elN (hs_ar_len A i m) q)
theorem hpx_zast {i m : Nat} {j x : Int32} (hI : hc_get tb pc = some (.bastore, len, r1, r2)) (hs : hc_get hs_sh i = some (0, 3, [m])) (hx : x = 0 ∨ x = 1) (k : ∀ A' : hs_A, 0 ≤ j.toInt → j.toInt < (m : Int) → A'.1 = A.1 → A'.2.1 = hs_up A.2.1 i j.toNatClampNeg x → A'.2.2 = A.2.2 → hpa fg d ret tb (pc + 1) l st A' P) : hpa fg d ret tb pc l (.int x :: .int j :: .ref (i + 1) :: st) A P := by
  by_cases q : 0 ≤ j.toInt ∧ j.toInt < (m : Int)
  · exact hpa_zast hI hx hs (hn_ix q.1 q.2).1 (hn_ix q.1 q.2).2 (k _ q.1 q.2 rfl rfl rfl)
  · intro h hR
    refine hy_none ?_
    unfold hc_step1
    simp only [hI]
    show hi_bastore pc l (.int x :: .int j :: .ref (i + 1) :: st) hs_n h 0 0 = _
    unfold hi_bastore
    dsimp only
    have hg : hc_get h i = some (.inl (3, hs_ar A i m)) := (hR i _ hs).trans (congrArg some (hs_cell0 A i 3 m))
    rw [hg, hc_arr_ne rfl]
    dsimp only
    have hb : (decide (x = 0) || decide (x = 1)) = true := by simp [hx]
    rw [hb]
    exact hp_astN hg (hp_elN (hs_ar_len A i m) q)
theorem hpx_last {i m : Nat} {j : Int32} {x : Int64} (hI : hc_get tb pc = some (.lastore, len, r1, r2)) (hs : hc_get hs_sh i = some (1, 2, [m])) (k : ∀ A' : hs_A, 0 ≤ j.toInt → j.toInt < (m : Int) → A'.1 = A.1 → A'.2.1 = A.2.1 → A'.2.2.1 = hs_upL A.2.2.1 i j.toNatClampNeg x → A'.2.2.2 = A.2.2.2 → hpa fg d ret tb (pc + 1) l st A' P) : hpa fg d ret tb pc l (.long x :: .int j :: .ref (i + 1) :: st) A P := by
  by_cases q : 0 ≤ j.toInt ∧ j.toInt < (m : Int)
  · exact hpa_last hI hs (hn_ix q.1 q.2).1 (hn_ix q.1 q.2).2 (k _ q.1 q.2 rfl rfl rfl rfl)
  · intro h hR
    refine hy_none ?_
    unfold hc_step1
    simp only [hI]
    show hi_lastore pc l (.long x :: .int j :: .ref (i + 1) :: st) hs_n h 0 0 = _
    unfold hi_lastore
    exact hp_astN ((hR i _ hs).trans (congrArg some (hs_cell1 A i 2 m))) (hp_elN (by unfold hs_al; simp) q)
end HPA
/-! THE AUTOMATON'S OWN FACTS -/
def hq_pre (K : Nat → Int) (j : Nat) : Prop := ∀ i, i < j → K i ≠ 22 ∧ K i ≠ 23
section HQI
variable {K V : Nat → Int} {E : Nat → Nat → Bool}
theorem hq_go_inl {t : Nat} {s s' : hq_S} (h : hq_go t s = .inl s') : t < 400 ∧ s' = s := by
  unfold hq_go at h
  split at h
  · cases h; exact ⟨by assumption, rfl⟩
  · cases h
theorem hq_must_inl {k : Int} {t : Nat} {s s' : hq_S} (h : hq_must K k t s = .inl s') : K t = k ∧ t < 400 ∧ s' = s := by
  unfold hq_must at h
  split at h
  · exact ⟨by assumption, hq_go_inl h⟩
  · cases h
theorem hq_unit_inl {t ifs ctx dp : Nat} {r : List Nat × Nat × Nat × Option (Nat × Nat)} {s' : hq_S} (h : hq_unit K t ifs ctx dp r = .inl s') : (K t = 21 ∨ (11 ≤ K t ∧ K t ≤ 19) ∨ K t = 31) ∧ s'.2.2.2.2 = r ∧ (s'.1 = 15 ∨ s'.1 = 14) := by
  unfold hq_unit at h
  split at h
  next q =>
    obtain ⟨-, rfl⟩ := hq_go_inl h
    exact ⟨by omega, rfl, Or.inl rfl⟩
  · split at h
    · split at h
      · obtain ⟨-, rfl⟩ := hq_go_inl h
        exact ⟨by omega, rfl, Or.inr rfl⟩
      · cases h
    · cases h
theorem hq_out_inl {t ifs ctx : Nat} {r : List Nat × Nat × Nat × Option (Nat × Nat)} {s' : hq_S} (h : hq_out K t ifs ctx r = .inl s') : (K t = 30 ∨ K t = 9 ∨ K t = 10 ∨ K t = 24) ∧ s'.2.2.2.2 = r ∧ (s'.1 = 14 ∨ s'.1 = 13 ∨ s'.1 = 0) := by
  unfold hq_out at h
  split at h
  all_goals
    obtain ⟨q, -, rfl⟩ := hq_must_inl h
    exact ⟨by omega, rfl, by dsimp only; omega⟩
/-- what a state keeps -/
def hq_I (K : Nat → Int) (t : Nat) (s : hq_S) : Prop := (∀ u, u ∈ s.2.2.2.2.1 → u < t ∧ K u = 20) ∧ ((s.1 = 2 ∨ s.1 = 3 ∨ s.1 = 4) → s.2.2.2.2.2.1 < t ∧ K s.2.2.2.2.2.1 = 20) ∧ s.2.2.2.2.1.length ≤ 10 ∧ (1 ≤ s.1 ∧ s.1 ≤ 4 → s.2.2.2.2.1.length < 10) ∧ s.1 ≤ 15
theorem hq_I.keep {t : Nat} {s s' : hq_S} (h : hq_I K t s) (e : s'.2.2.2.2.1 = s.2.2.2.2.1) (h1 : (s'.1 = 2 ∨ s'.1 = 3 ∨ s'.1 = 4) → s'.2.2.2.2.2.1 < t + 1 ∧ K s'.2.2.2.2.2.1 = 20) (h2 : 1 ≤ s'.1 ∧ s'.1 ≤ 4 → s.2.2.2.2.1.length < 10) (h3 : s'.1 ≤ 15) : hq_I K (t + 1) s' := by
  obtain ⟨a, b, c, d, -⟩ := h
  refine ⟨fun u hu => ?_, h1, by rw [e]; exact c, fun q => by rw [e]; exact h2 q, h3⟩
  rw [e] at hu
  have := a u hu
  exact ⟨by omega, this.2⟩
theorem hq_dl_I {t : Nat} {s s' : hq_S} (h : hq_I K t s) (hd : hq_dl K V E t s = .inl s') : hq_I K (t + 1) s' ∧ K t ≠ 22 ∧ K t ≠ 23 := by
  unfold hq_dl at hd
  split at hd
  · split at hd
    · cases hd
    · split at hd
      · split at hd
        · obtain ⟨-, rfl⟩ := hq_go_inl hd
          exact ⟨h.keep rfl (by dsimp only; omega) (by dsimp only; omega) (by dsimp only; omega), by omega, by omega⟩
        · cases hd
      · split at hd
        · split at hd
          · obtain ⟨-, rfl⟩ := hq_go_inl hd
            exact ⟨h.keep rfl (by dsimp only; omega) (by dsimp only; omega) (by dsimp only; omega), by omega, by omega⟩
          · cases hd
        · split at hd
          · obtain ⟨-, rfl⟩ := hq_go_inl hd
            exact ⟨h.keep rfl (by dsimp only; omega) (by dsimp only; omega) (by dsimp only; omega), by omega, by omega⟩
          · split at hd
            · obtain ⟨-, rfl⟩ := hq_go_inl hd
              exact ⟨h.keep rfl (by dsimp only; omega) (by dsimp only; omega) (by dsimp only; omega), by omega, by omega⟩
            · split at hd
              · obtain ⟨-, rfl⟩ := hq_go_inl hd
                exact ⟨h.keep rfl (by dsimp only; omega) (by dsimp only; omega) (by dsimp only; omega), by omega, by omega⟩
              · cases hd
  · obtain ⟨q, -, rfl⟩ := hq_must_inl hd
    exact ⟨h.keep rfl (fun _ => ⟨Nat.lt_succ_self t, q⟩) (fun _ => h.2.2.2.1 (by dsimp only; omega)) (by dsimp only; omega), by omega, by omega⟩
  · obtain ⟨q, -, rfl⟩ := hq_must_inl hd
    have := h.2.1 (Or.inl rfl)
    exact ⟨h.keep rfl (fun _ => ⟨Nat.lt_succ_of_lt this.1, this.2⟩) (fun _ => h.2.2.2.1 (by dsimp only; omega)) (by dsimp only; omega), by omega, by omega⟩
  · obtain ⟨q, -, rfl⟩ := hq_must_inl hd
    have := h.2.1 (Or.inr (Or.inl rfl))
    exact ⟨h.keep rfl (fun _ => ⟨Nat.lt_succ_of_lt this.1, this.2⟩) (fun _ => h.2.2.2.1 (by dsimp only; omega)) (by dsimp only; omega), by omega, by omega⟩
  · obtain ⟨q, -, rfl⟩ := hq_must_inl hd
    have h1 := h.2.1 (Or.inr (Or.inr rfl))
    have h2 := h.2.2.2.1 (by dsimp only; omega)
    refine ⟨⟨fun u hu => ?_, by dsimp only; omega, h2, by dsimp only; omega, by dsimp only; omega⟩, by omega, by omega⟩
    rcases List.mem_cons.mp hu with rfl | hu
    · exact ⟨Nat.lt_succ_of_lt h1.1, h1.2⟩
    · have := h.1 u hu
      exact ⟨Nat.lt_succ_of_lt this.1, this.2⟩
  · obtain ⟨q, -, rfl⟩ := hq_must_inl hd
    exact ⟨h.keep rfl (by dsimp only; omega) (by dsimp only; omega) (by dsimp only; omega), by omega, by omega⟩
  · obtain ⟨q, -, rfl⟩ := hq_must_inl hd
    exact ⟨h.keep rfl (by dsimp only; omega) (by dsimp only; omega) (by dsimp only; omega), by omega, by omega⟩
  · obtain ⟨q, -, rfl⟩ := hq_must_inl hd
    exact ⟨h.keep rfl (by dsimp only; omega) (by dsimp only; omega) (by dsimp only; omega), by omega, by omega⟩
  · obtain ⟨q, -, rfl⟩ := hq_must_inl hd
    exact ⟨h.keep rfl (by dsimp only; omega) (by dsimp only; omega) (by dsimp only; omega), by omega, by omega⟩
  · obtain ⟨q, -, rfl⟩ := hq_must_inl hd
    exact ⟨h.keep rfl (by dsimp only; omega) (by dsimp only; omega) (by dsimp only; omega), by omega, by omega⟩
  · obtain ⟨q, -, rfl⟩ := hq_must_inl hd
    exact ⟨h.keep rfl (by dsimp only; omega) (by dsimp only; omega) (by dsimp only; omega), by omega, by omega⟩
  · obtain ⟨q, -, rfl⟩ := hq_must_inl hd
    exact ⟨h.keep rfl (by dsimp only; omega) (by dsimp only; omega) (by dsimp only; omega), by omega, by omega⟩
  · obtain ⟨q, -, rfl⟩ := hq_must_inl hd
    exact ⟨h.keep rfl (by dsimp only; omega) (by dsimp only; omega) (by dsimp only; omega), by omega, by omega⟩
  · split at hd
    · split at hd
      · obtain ⟨-, rfl⟩ := hq_go_inl hd
        exact ⟨h.keep rfl (by dsimp only; omega) (by dsimp only; omega) (by dsimp only; omega), by omega, by omega⟩
      · cases hd
    · obtain ⟨q, e, p⟩ := hq_unit_inl hd
      exact ⟨h.keep (by rw [e]) (by omega) (by omega) (by omega), by omega, by omega⟩
  · obtain ⟨q, e, p⟩ := hq_unit_inl hd
    exact ⟨h.keep (by rw [e]) (by omega) (by omega) (by omega), by omega, by omega⟩
  · split at hd
    · obtain ⟨-, rfl⟩ := hq_go_inl hd
      exact ⟨h.keep rfl (by dsimp only; omega) (by dsimp only; omega) (by dsimp only; omega), by omega, by omega⟩
    · split at hd
      · obtain ⟨q, e, p⟩ := hq_out_inl hd
        exact ⟨h.keep (by rw [e]) (by omega) (by omega) (by omega), by omega, by omega⟩
      · obtain ⟨q, -, rfl⟩ := hq_must_inl hd
        exact ⟨h.keep rfl (by dsimp only; omega) (by dsimp only; omega) (by dsimp only; omega), by omega, by omega⟩
theorem hq_q_inv : ∀ {t : Nat} {s : hq_S}, hq_q K V E t = some s → hq_I K t s ∧ hq_pre K t
  | 0, s, h => by
    cases h
    exact ⟨⟨fun u hu => absurd hu List.not_mem_nil, (by intro q; exact absurd q (by dsimp only; omega)), Nat.zero_le _, (by intro q; exact absurd q (by dsimp only; omega)), Nat.zero_le _⟩, fun i hi => absurd hi (Nat.not_lt_zero i)⟩
  | t + 1, s, h => by
    have h' : (match hq_q K V E t with
      | none => none
      | some s => match hq_dl K V E t s with
        | .inl s' => some s'
        | .inr _ => none) = some s := h
    split at h'
    · cases h'
    next s1 hs1 =>
      split at h'
      next s2 hd =>
        cases h'
        obtain ⟨h1, h2⟩ := hq_q_inv hs1
        obtain ⟨h3, h4⟩ := hq_dl_I h1 hd
        refine ⟨h3, fun i hi => ?_⟩
        by_cases q : i = t
        · subst q; exact h4
        · exact h2 i (by omega)
      · cases h'
end HQI
/-! THE CLASS'S READER against the automaton: K, V, S kinds, ints, places of the tokens, E the same name -/
def hky (q : Nat) : Int64 := Int64.ofNat (([4562600, 10206127, 5948362, 11055682, 173143, 85447, 4081083, 377761, 249, 399641, 107681, 90090, 168984, 2968, 316163, 12253591, 923, 8536420, 257011, 5863] : List Nat).getD q 0)
/-- the reference's keys stand as they were made -/
def hcU (A : hs_A) : Prop := ∀ q, q < 20 → A.2.2.1 374 q = hky q
theorem hcU.fr {A A' : hs_A} (h : hcU A) (e : A'.2.2.1 374 = A.2.2.1 374) : hcU A' := fun q hq => by rw [e]; exact h q hq
def hcT (K V S : Nat → Int) (A : hs_A) : Prop := ∀ j : Nat, j ≤ 400 → hq_pre K j → (A.2.1 22 j).toInt = K j ∧ (A.2.1 24 j).toInt = S j ∧ (j : Int) < (A.1 21 3).toInt ∧ (K j = 21 → (A.2.2.1 23 j).toInt32.toInt = V j)
def hcE (K : Nat → Int) (E : Nat → Nat → Bool) (A : hs_A) : Prop := (∀ u t : Nat, u ≤ 400 → t ≤ 400 → hq_pre K u → hq_pre K t → K u = 20 → K t = 20 → (A.2.2.1 23 u = A.2.2.1 23 t ↔ E u t = true)) ∧ hcU A
def hcB (K V S : Nat → Int) (E : Nat → Nat → Bool) (T : Nat) (A : hs_A) (t : Nat) (s : hq_S) : Prop := A.2.2.2 20 2 = T + 1 ∧ (hcT K V S A ∧ hcE K E A) ∧ (A.1 20 3).toInt = (t : Int) ∧ hq_q K V E t = some s ∧ (A.1 20 5).toInt = 0
def hcN (A : hs_A) : List Nat → Prop
  | [] => True
  | u :: r => A.2.2.1 25 r.length = A.2.2.1 23 u ∧ hcN A r
def hcL (S : Nat → Int) (x y : Int) : Option (Nat × Nat) → Prop
  | none => x = 0 ∧ y = -1
  | some c => x = c.1 ∧ y = S c.2 ∧ c.1 ≠ 0
def hcR (S : Nat → Int) (T : Nat) (A : hs_A) (ns : List Nat) (p : Option Nat) (sn : Nat) (o : Option (Nat × Nat)) : Prop := (A.1 T 4).toInt = (ns.length : Int) ∧ (A.1 T 5).toInt = (sn : Int) ∧ hcN A ns ∧ (∀ u, p = some u → A.2.2.1 25 ns.length = A.2.2.1 23 u) ∧ hcL S (A.1 20 7).toInt (A.1 20 8).toInt o
def hcF (K V S : Nat → Int) (E : Nat → Nat → Bool) (T : Nat) (A : hs_A) : Prop := A.2.2.2 20 2 = T + 1 ∧ hcU A ∧ ∃ t k : Nat, hq_f K V E t k ∧ k ≠ 0 ∧ (A.1 20 5).toInt = (k : Int) ∧ (A.1 20 6).toInt = S t
/-- what the laws' rows may change -/
def hcW (T : Nat) (A A' : hs_A) : Prop := (∀ i k, ¬ i = T + 4 → A'.1 i k = A.1 i k) ∧ (∀ i, i < T + 5 ∨ T + 8 < i → A'.2.1 i = A.2.1 i) ∧ A'.2.2 = A.2.2
section HCP
variable {K V S : Nat → Int} {E : Nat → Nat → Bool} {T : Nat} {A A' : hs_A} {s s' : hq_S} {ns : List Nat} {p : Option Nat} {sn : Nat} {o : Option (Nat × Nat)} {t : Nat}
theorem hcN.fr (e3 : A'.2.2.1 23 = A.2.2.1 23) (e5 : A'.2.2.1 25 = A.2.2.1 25) : ∀ {ns : List Nat}, hcN A ns → hcN A' ns
  | [], _ => trivial
  | u :: r, h => ⟨by rw [e3, e5]; exact h.1, hcN.fr e3 e5 h.2⟩
theorem hcT.fr (e1 : A'.1 21 3 = A.1 21 3) (e2 : A'.2.1 22 = A.2.1 22) (e3 : A'.2.1 24 = A.2.1 24) (e4 : A'.2.2.1 23 = A.2.2.1 23) (h : hcT K V S A) : hcT K V S A' := fun j hj hp => by
  rw [e1, e2, e3, e4]
  exact h j hj hp
theorem hcE.fr (e4 : A'.2.2.1 23 = A.2.2.1 23) (e7 : A'.2.2.1 374 = A.2.2.1 374) (h : hcE K E A) : hcE K E A' := ⟨fun u t h1 h2 h3 h4 h5 h6 => by
  rw [e4]
  exact h.1 u t h1 h2 h3 h4 h5 h6, h.2.fr e7⟩
theorem hcB.fr (h : hcB K V S E T A t s) (e0 : A'.2.2.2 = A.2.2.2) (e1 : A'.1 21 3 = A.1 21 3) (e2 : A'.2.1 22 = A.2.1 22) (e3 : A'.2.1 24 = A.2.1 24) (e4 : A'.2.2.1 23 = A.2.2.1 23) (e5 : A'.1 20 3 = A.1 20 3) (e6 : A'.1 20 5 = A.1 20 5) (e7 : A'.2.2.1 374 = A.2.2.1 374) : hcB K V S E T A' t s := by
  obtain ⟨a, ⟨b, b'⟩, c, d, e⟩ := h
  exact ⟨by rw [e0]; exact a, ⟨b.fr e1 e2 e3 e4, b'.fr e4 e7⟩, by rw [e5]; exact c, d, by rw [e6]; exact e⟩
theorem hcR.fr (h : hcR S T A ns p sn o) (e1 : A'.1 T 4 = A.1 T 4) (e2 : A'.1 T 5 = A.1 T 5) (e3 : A'.2.2.1 23 = A.2.2.1 23) (e5 : A'.2.2.1 25 = A.2.2.1 25) (e6 : A'.1 20 7 = A.1 20 7) (e7 : A'.1 20 8 = A.1 20 8) : hcR S T A' ns p sn o := by
  obtain ⟨a, b, c, d, e⟩ := h
  exact ⟨by rw [e1]; exact a, by rw [e2]; exact b, c.fr e3 e5, fun u hu => by rw [e3, e5]; exact d u hu, by rw [e6, e7]; exact e⟩
theorem hcB.at (h : hcB K V S E T A t s) : t ≤ 400 ∧ hq_pre K t ∧ (A.1 20 3).toNatClampNeg = t ∧ (A.2.1 22 t).toInt = K t ∧ (A.2.1 24 t).toInt = S t ∧ (t : Int) < (A.1 21 3).toInt ∧ (K t = 21 → (A.2.2.1 23 t).toInt32.toInt = V t) := by
  obtain ⟨a, ⟨b, b'⟩, c, d, e⟩ := h
  have hl := hq_le K V E d
  have hp := (hq_q_inv d).2
  obtain ⟨h1, h2, h3, h4⟩ := b _ hl hp
  have := hn_cn (j := A.1 20 3) (by omega)
  exact ⟨hl, hp, by omega, h1, h2, h3, h4⟩
/-- a world that differs in one field of the reader or of the terrace -/
theorem hcB.up {i k : Nat} {x : Int32} (h : hcB K V S E T A t s) (e : A'.1 = hs_up A.1 i k x) (f : A'.2 = A.2) (h1 : ¬ (i = 21 ∧ k = 3)) (h2 : ¬ (i = 20 ∧ k = 3)) (h3 : ¬ (i = 20 ∧ k = 5)) : hcB K V S E T A' t s := by
  refine h.fr (by rw [f]) ?_ (by rw [f]) (by rw [f]) (by rw [f]) ?_ ?_ (by rw [f])
  · rw [e, hup2 (fun q => h1 ⟨q.1.symm, q.2.symm⟩)]
  · rw [e, hup2 (fun q => h2 ⟨q.1.symm, q.2.symm⟩)]
  · rw [e, hup2 (fun q => h3 ⟨q.1.symm, q.2.symm⟩)]
theorem hcR.up {i k : Nat} {x : Int32} (h : hcR S T A ns p sn o) (e : A'.1 = hs_up A.1 i k x) (f : A'.2 = A.2) (h1 : ¬ (i = T ∧ (k = 4 ∨ k = 5))) (h2 : ¬ (i = 20 ∧ (k = 7 ∨ k = 8))) : hcR S T A' ns p sn o := by
  refine h.fr ?_ ?_ (by rw [f]) (by rw [f]) ?_ ?_
  · rw [e, hup2 (fun q => h1 ⟨q.1.symm, Or.inl q.2.symm⟩)]
  · rw [e, hup2 (fun q => h1 ⟨q.1.symm, Or.inr q.2.symm⟩)]
  · rw [e, hup2 (fun q => h2 ⟨q.1.symm, Or.inl q.2.symm⟩)]
  · rw [e, hup2 (fun q => h2 ⟨q.1.symm, Or.inr q.2.symm⟩)]
theorem hcB.step {x : Int32} (h : hcB K V S E T A t s) (hd : hq_dl K V E t s = .inl s') (e : A'.1 = hs_up A.1 20 3 x) (f : A'.2 = A.2) (hx : x.toInt = (t : Int) + 1) : hcB K V S E T A' (t + 1) s' := by
  obtain ⟨a, ⟨b, b'⟩, c, d, g⟩ := h
  have e3 : A'.1 20 3 = x := by rw [e, hup1]
  exact ⟨by rw [f]; exact a, ⟨b.fr (by rw [e, hup2 (by omega)]) (by rw [f]) (by rw [f]) (by rw [f]), b'.fr (by rw [f]) (by rw [f])⟩, by rw [e3]; omega, hq_next K V E d hd, by rw [e, hup2 (by omega)]; exact g⟩
theorem hcB.W (h : hcB K V S E T A t s) (hT : T ≤ 11) (w : hcW T A A') : hcB K V S E T A' t s := h.fr (by rw [w.2.2]) (w.1 _ _ (by omega)) (w.2.1 _ (by omega)) (w.2.1 _ (by omega)) (by rw [w.2.2]) (w.1 _ _ (by omega)) (w.1 _ _ (by omega)) (by rw [w.2.2])
theorem hcR.W (h : hcR S T A ns p sn o) (hT : T ≤ 11) (w : hcW T A A') : hcR S T A' ns p sn o := h.fr (w.1 _ _ (by omega)) (w.1 _ _ (by omega)) (by rw [w.2.2]) (by rw [w.2.2]) (w.1 _ _ (by omega)) (w.1 _ _ (by omega))
theorem hcR.late {x y : Int32} {A1 : hs_A} {c : Nat} (h : hcR S T A ns p sn o) (hT : T ≤ 11) (e : A1.1 = hs_up A.1 20 7 x) (f : A1.2 = A.2) (e' : A'.1 = hs_up A1.1 20 8 y) (f' : A'.2 = A1.2) (h0 : (A.1 20 7).toInt = 0) (hx : x.toInt = (c : Int)) (hy : y.toInt = S t) (hc : c ≠ 0) : hcR S T A' ns p sn (hq_late c t o) := by
  obtain ⟨a, b, n, d, l⟩ := h
  have ef : A'.2 = A.2 := f'.trans f
  have ho : o = none := by
    cases o with
    | none => rfl
    | some q => exact absurd l.1 (by rw [h0]; have := l.2.2; omega)
  subst ho
  refine ⟨by rw [e', hup2 (by omega), e, hup2 (by omega)]; exact a, by rw [e', hup2 (by omega), e, hup2 (by omega)]; exact b, n.fr (by rw [ef]) (by rw [ef]), fun u hu => by rw [ef]; exact d u hu, ?_⟩
  show hcL S (A'.1 20 7).toInt (A'.1 20 8).toInt (some (c, t))
  refine ⟨?_, ?_, hc⟩
  · rw [e', hup2 (by omega), e, hup1]; exact hx
  · rw [e', hup1]; exact hy
theorem hcR.late0 {c : Nat} (h : hcR S T A ns p sn o) (h0 : ¬ (A.1 20 7).toInt = 0) : hcR S T A ns p sn (hq_late c t o) := by
  obtain ⟨a, b, n, d, l⟩ := h
  cases o with
  | none => exact absurd l.1 h0
  | some q => exact ⟨a, b, n, d, l⟩
theorem hcB.ar {i j : Nat} {x : Int32} (h : hcB K V S E T A t s) (e : A'.1 = A.1) (f : A'.2.1 = hs_up A.2.1 i j x) (g : A'.2.2 = A.2.2) (hi : i ≤ 21) : hcB K V S E T A' t s := h.fr (by rw [g]) (by rw [e]) (by rw [f]; funext b; exact hup2 (fun q => by omega)) (by rw [f]; funext b; exact hup2 (fun q => by omega)) (by rw [g]) (by rw [e]) (by rw [e]) (by rw [g])
theorem hcR.ar {i j : Nat} {x : Int32} (h : hcR S T A ns p sn o) (e : A'.1 = A.1) (f : A'.2.1 = hs_up A.2.1 i j x) (g : A'.2.2 = A.2.2) : hcR S T A' ns p sn o := h.fr (by rw [e]) (by rw [e]) (by rw [g]) (by rw [g]) (by rw [e]) (by rw [e])
theorem hcR.house {u : Nat} {x : Int32} (h : hcR S T A ns (some u) sn o) (hT : T ≤ 11) (e : A'.1 = hs_up A.1 T 4 x) (f : A'.2 = A.2) (hx : x.toInt = (ns.length : Int) + 1) : hcR S T A' (u :: ns) none sn o := by
  obtain ⟨a, b, n, d, l⟩ := h
  refine ⟨?_, by rw [e, hup2 (by omega)]; exact b, ⟨?_, n.fr (by rw [f]) (by rw [f])⟩, fun u hu => (by cases hu), by rw [e, hup2 (by omega), hup2 (by omega)]; exact l⟩
  · rw [e, hup1, hx]
    show _ = ((ns.length + 1 : Nat) : Int)
    omega
  · rw [f]
    exact d u (Eq.refl _)
theorem hcR.send {x : Int32} (h : hcR S T A ns p sn o) (hT : T ≤ 11) (e : A'.1 = hs_up A.1 T 5 x) (f : A'.2 = A.2) (hx : x.toInt = (sn : Int) + 1) : hcR S T A' ns p (sn + 1) o := by
  obtain ⟨a, b, n, d, l⟩ := h
  exact ⟨by rw [e, hup2 (by omega)]; exact a, by rw [e, hup1]; omega, n.fr (by rw [f]) (by rw [f]), fun u hu => by rw [f]; exact d u hu, by rw [e, hup2 (by omega), hup2 (by omega)]; exact l⟩
theorem hcF.fr (h : hcF K V S E T A) (e0 : A'.2.2.2 = A.2.2.2) (e1 : A'.1 20 5 = A.1 20 5) (e2 : A'.1 20 6 = A.1 20 6) (e7 : A'.2.2.1 374 = A.2.2.1 374) : hcF K V S E T A' := by
  obtain ⟨r, u, t, k, a, b, c, d⟩ := h
  exact ⟨by rw [e0]; exact r, u.fr e7, t, k, a, b, by rw [e1]; exact c, by rw [e2]; exact d⟩
theorem hcF.W (h : hcF K V S E T A) (hT : T ≤ 11) (w : hcW T A A') : hcF K V S E T A' := h.fr (by rw [w.2.2]) (w.1 _ _ (by omega)) (w.1 _ _ (by omega)) (by rw [w.2.2])
theorem hcW.rfl : hcW T A A := ⟨fun _ _ _ => Eq.refl _, fun _ _ => Eq.refl _, Eq.refl _⟩
theorem hcW.f {A1 : hs_A} {k : Nat} {x : Int32} (h : hcW T A A1) (e : A'.1 = hs_up A1.1 (T + 4) k x) (f : A'.2 = A1.2) : hcW T A A' := ⟨fun i k hi => by rw [e, hup2 (fun q => hi q.1)]; exact h.1 i k hi, fun i hi => by rw [f]; exact h.2.1 i hi, by rw [f]; exact h.2.2⟩
theorem hcW.a {A1 : hs_A} {i0 k : Nat} {x : Int32} (h : hcW T A A1) (e : A'.1 = A1.1) (f : A'.2.1 = hs_up A1.2.1 i0 k x) (g : A'.2.2 = A1.2.2) (hi0 : T + 5 ≤ i0 ∧ i0 ≤ T + 8) : hcW T A A' := ⟨fun i k hi => by rw [e]; exact h.1 i k hi, fun i hi => by
  rw [f, ← h.2.1 i hi]
  funext j
  exact hup2 (fun q => by omega), by rw [g]; exact h.2.2⟩
/-- the same reading of the names' row, with one name more -/
theorem hcN.more {j : Nat} {x : Int64} : ∀ {ns : List Nat}, (g : A'.2.2.1 = hs_upL A.2.2.1 25 j x) → ns.length ≤ j → hcN A ns → hcN A' ns
  | [], _, _, _ => trivial
  | u :: r, g, hj, h => by
    have hl : (u :: r).length = r.length + 1 := Eq.refl _
    refine ⟨?_, hcN.more g (by omega) h.2⟩
    rw [g]
    show (if 25 = 25 then (if r.length = j then x else A.2.2.1 25 r.length) else A.2.2.1 25 r.length) = (if 23 = 25 then (if u = j then x else A.2.2.1 23 u) else A.2.2.1 23 u)
    rw [if_pos (Eq.refl 25), if_neg (by omega), if_neg (by omega)]
    exact h.1
theorem hcL23 {j : Nat} {x : Int64} (g : A'.2.2.1 = hs_upL A.2.2.1 25 j x) : A'.2.2.1 23 = A.2.2.1 23 := by
  rw [g]
  funext u
  show (if 23 = 25 then (if u = j then x else A.2.2.1 23 u) else A.2.2.1 23 u) = _
  rw [if_neg (by omega)]
theorem hcR.name {j : Nat} {x : Int64} (h : hcR S T A ns p sn o) (e : A'.1 = A.1) (g : A'.2.2.1 = hs_upL A.2.2.1 25 j x) (hj : ns.length = j) (hx : x = A.2.2.1 23 t) : hcR S T A' ns (some t) sn o := by
  obtain ⟨a, b, n, d, l⟩ := h
  refine ⟨by rw [e]; exact a, by rw [e]; exact b, n.more g (by omega), fun u hu => ?_, by rw [e]; exact l⟩
  cases hu
  rw [hcL23 g, g, ← hx, hj]
  show (if 25 = 25 then (if j = j then x else A.2.2.1 25 j) else A.2.2.1 25 j) = _
  rw [if_pos (Eq.refl 25), if_pos (Eq.refl j)]
theorem hcN.at : ∀ {ns : List Nat} {i : Nat}, hcN A ns → i < ns.length → ∃ u, u ∈ ns ∧ ns.drop (ns.length - (i + 1)) = u :: ns.drop (ns.length - i) ∧ A.2.2.1 25 i = A.2.2.1 23 u
  | [], i, _, hi => absurd hi (Nat.not_lt_zero i)
  | u :: r, i, h, hi => by
    have hl : (u :: r).length = r.length + 1 := Eq.refl _
    by_cases q : i = r.length
    · subst q
      refine ⟨u, List.mem_cons_self, ?_, h.1⟩
      rw [hl, show r.length + 1 - (r.length + 1) = 0 by omega, show r.length + 1 - r.length = 1 by omega]
      exact Eq.refl _
    · obtain ⟨v, h1, h2, h3⟩ := hcN.at h.2 (i := i) (by omega)
      refine ⟨v, List.mem_cons_of_mem _ h1, ?_, h3⟩
      rw [hl, show r.length + 1 - (i + 1) = (r.length - (i + 1)) + 1 by omega, show r.length + 1 - i = (r.length - i) + 1 by omega, List.drop_succ_cons, List.drop_succ_cons]
      exact h2
end HCP
/-- behind a statement that was read -/
def hcOK (K V S : Nat → Int) (E : Nat → Nat → Bool) (T : Nat) (A : hs_A) (t : Nat) : Prop := ∃ (t' a b c : Nat) (ns : List Nat) (nm sn : Nat) (o : Option (Nat × Nat)), t < t' ∧ hcB K V S E T A t' (0, a, b, c, ns, nm, sn, o) ∧ hcR S T A ns none sn o
theorem hcB.upL {K V S : Nat → Int} {E : Nat → Nat → Bool} {T t : Nat} {A A' : hs_A} {s : hq_S} {j : Nat} {x : Int64} (h : hcB K V S E T A t s) (e : A'.1 = A.1) (f : A'.2.1 = A.2.1) (g : A'.2.2.1 = hs_upL A.2.2.1 25 j x) (i : A'.2.2.2 = A.2.2.2) : hcB K V S E T A' t s := h.fr i (by rw [e]) (by rw [f]) (by rw [f]) (hcL23 g) (by rw [e]) (by rw [e]) (by
  rw [g]
  funext u
  show (if 374 = 25 then (if u = j then x else A.2.2.1 374 u) else A.2.2.1 374 u) = _
  rw [if_neg (by omega)])
theorem hlg0 {x y : Int64} : (lg_cmp x y).toInt = 0 ↔ x = y := by
  unfold lg_cmp
  constructor
  · intro h
    split at h
    · exact absurd h (by decide)
    · split at h
      · assumption
      · exact absurd h (by decide)
  · intro h
    subst h
    rw [if_neg (by show ¬ x < x; rw [Int64.lt_iff_toInt_lt]; omega), if_pos (Eq.refl x)]
    decide
theorem hlate2 {c t : Nat} {o : Option (Nat × Nat)} : hq_late c t (hq_late c t o) = hq_late c t o := by cases o <;> rfl
theorem hanyF {E : Nat → Nat → Bool} {t u i : Nat} {ns : List Nat} {X o : Option (Nat × Nat)} (hdr : ns.drop (ns.length - (i + 1)) = u :: ns.drop (ns.length - i)) (hE : ¬ E u t = true) : (if (ns.drop (ns.length - (i + 1))).any (fun u => E u t) then X else o) = (if (ns.drop (ns.length - i)).any (fun u => E u t) then X else o) := by
  rw [hdr, List.any_cons, eq_false_of_ne_true hE, Bool.false_or]
theorem hanyT {E : Nat → Nat → Bool} {t u i c : Nat} {ns : List Nat} {o : Option (Nat × Nat)} (hdr : ns.drop (ns.length - (i + 1)) = u :: ns.drop (ns.length - i)) (hE : E u t = true) : (if (ns.drop (ns.length - (i + 1))).any (fun u => E u t) then hq_late c t o else o) = hq_late c t (if (ns.drop (ns.length - i)).any (fun u => E u t) then hq_late c t o else o) := by
  rw [hdr, List.any_cons, hE, Bool.true_or, if_pos (Eq.refl true)]
  split
  · exact hlate2.symm
  · exact Eq.refl _
/-! what the automaton does, by kinds -/
section HQD
variable {K V : Nat → Int} {E : Nat → Nat → Bool} {t a b c : Nat} {ns : List Nat} {nm sn : Nat} {o : Option (Nat × Nat)} {r : List Nat × Nat × Nat × Option (Nat × Nat)}
theorem hqd0_end (h : K t = 22) : hq_dl K V E t (0, a, b, c, ns, nm, sn, o) = .inr 0 := by
  show (if K t = 22 then _ else _) = _
  rw [if_pos h]
theorem hqd0_house (h : K t = 0) : hq_dl K V E t (0, a, b, c, ns, nm, sn, o) = if ns.length < 10 then hq_go t (1, 0, 0, 0, ns, nm, sn, o) else .inr 2 := by
  show (if K t = 22 then _ else _) = _
  rw [if_neg (by omega), if_pos h]
theorem hqd0_sends (h : K t = 1) : hq_dl K V E t (0, a, b, c, ns, nm, sn, o) = if sn < 8 then hq_go t (5, 0, 0, 0, ns, nm, sn, o) else .inr 2 := by
  show (if K t = 22 then _ else _) = _
  rw [if_neg (by omega), if_neg (by omega), if_pos h]
theorem hqd0_grief (h : K t = 6) : hq_dl K V E t (0, a, b, c, ns, nm, sn, o) = hq_go t (8, 0, 0, 0, ns, nm, sn, o) := by
  show (if K t = 22 then _ else _) = _
  rw [if_neg (by omega), if_neg (by omega), if_neg (by omega), if_pos h]
theorem hqd0_seed (h : K t = 7) : hq_dl K V E t (0, a, b, c, ns, nm, sn, o) = hq_go t (10, 0, 0, 0, ns, nm, sn, o) := by
  show (if K t = 22 then _ else _) = _
  rw [if_neg (by omega), if_neg (by omega), if_neg (by omega), if_neg (by omega), if_pos h]
theorem hqd0_law (h : 2 ≤ K t ∧ K t ≤ 5) : hq_dl K V E t (0, a, b, c, ns, nm, sn, o) = hq_go t (12, 0, 0, 0, ns, nm, sn, o) := by
  show (if K t = 22 then _ else _) = _
  rw [if_neg (by omega), if_neg (by omega), if_neg (by omega), if_neg (by omega), if_neg (by omega), if_pos h]
theorem hqd0_else (h : ¬ K t = 22) (h0 : ¬ (0 ≤ K t ∧ K t ≤ 7)) : hq_dl K V E t (0, a, b, c, ns, nm, sn, o) = .inr 1 := by
  show (if K t = 22 then _ else _) = _
  rw [if_neg h, if_neg (by omega), if_neg (by omega), if_neg (by omega), if_neg (by omega), if_neg (by omega)]
theorem hq_go_lt {s : hq_S} (h : t < 400) : hq_go t s = .inl s := by unfold hq_go; rw [if_pos h]
theorem hq_go_ge {s : hq_S} (h : ¬ t < 400) : hq_go t s = .inr 2 := by unfold hq_go; rw [if_neg h]
theorem hq_must_ok {k : Int} {s : hq_S} (h : K t = k) : hq_must K k t s = hq_go t s := by unfold hq_must; rw [if_pos h]
theorem hq_must_no {k : Int} {s : hq_S} (h : ¬ K t = k) : hq_must K k t s = .inr 1 := by unfold hq_must; rw [if_neg h]
theorem hqd13_if (h : K t = 8) : hq_dl K V E t (13, a, b, c, r) = if a < 4 then hq_go t (14, a + 1, 0, 0, r) else .inr 2 := by
  show (if K t = 8 then _ else _) = _
  rw [if_pos h]
theorem hqd13_un (h : ¬ K t = 8) : hq_dl K V E t (13, a, b, c, r) = hq_unit K t a 3 0 r := by
  show (if K t = 8 then _ else _) = _
  rw [if_neg h]
theorem hqd15_op (h : 26 ≤ K t ∧ K t ≤ 29) : hq_dl K V E t (15, a, b, c, r) = hq_go t (14, a, b, c, r) := by
  show (if 26 ≤ K t ∧ K t ≤ 29 then _ else _) = _
  rw [if_pos h]
theorem hqd15_cl (h : ¬ (26 ≤ K t ∧ K t ≤ 29)) : hq_dl K V E t (15, a, b, c + 1, r) = hq_must K 32 t (15, a, b, c, r) := by
  show (if 26 ≤ K t ∧ K t ≤ 29 then _ else _) = _
  rw [if_neg h]
theorem hqd15_out (h : ¬ (26 ≤ K t ∧ K t ≤ 29)) : hq_dl K V E t (15, a, b, 0, r) = hq_out K t a b r := by
  show (if 26 ≤ K t ∧ K t ≤ 29 then _ else _) = _
  rw [if_neg h]
theorem hqu_v (h : K t = 21 ∨ (11 ≤ K t ∧ K t ≤ 19)) : hq_unit K t a b c r = hq_go t (15, a, b, c, r) := by
  unfold hq_unit
  rw [if_pos h]
theorem hqu_o (h : K t = 31) (h6 : c < 6) : hq_unit K t a b c r = hq_go t (14, a, b, c + 1, r) := by
  unfold hq_unit
  rw [if_neg (by omega), if_pos h, if_pos h6]
theorem hqu_6 (h : K t = 31) (h6 : ¬ c < 6) : hq_unit K t a b c r = .inr 2 := by
  unfold hq_unit
  rw [if_neg (by omega), if_pos h, if_neg h6]
theorem hqu_n (h : ¬ (K t = 21 ∨ (11 ≤ K t ∧ K t ≤ 19))) (h2 : ¬ K t = 31) : hq_unit K t a b c r = .inr 1 := by
  unfold hq_unit
  rw [if_neg h, if_neg h2]
end HQD
/-! WHAT A TEXT TELLS, token by token: sends by the hour, grief, seed, laws; the law under way: its number, branches, both sides of <; what has come out, what waits -/
abbrev hg_C : Type := List (Nat × Int)
abbrev hg_B : Type := List (List (Nat × Int) × List (Nat × Int) × List (Nat × Int))
abbrev hg_L : Type := List (List (Nat × Int) × List (Nat × Int) × List (Nat × Int)) × List (Nat × Int)
abbrev hg_D : Type := (Nat → Int) × Int × Int × (Nat → List (List (Nat × Int) × List (Nat × Int) × List (Nat × Int)) × List (Nat × Int))
abbrev hg_W : Type := Nat × List (List (Nat × Int) × List (Nat × Int) × List (Nat × Int)) × List (Nat × Int) × List (Nat × Int)
abbrev hg_S : Type := hg_D × hg_W × List (Nat × Int) × List Nat
/-- what waits comes out: all of it down to a bracket; strong: down to + or - -/
def hg_fl (st : Bool) : hg_C → List Nat → hg_C × List Nat
  | o, [] => (o, [])
  | o, x :: w => if x = 31 ∨ (st = true ∧ x < 28) then (o, x :: w) else hg_fl st (o ++ [(x - 24, 0)]) w
def hg_un (K V : Nat → Int) (t : Nat) (e : hg_S) : hg_S :=
  if K t = 21 then (e.1, e.2.1, e.2.2.1 ++ [(0, V t)], e.2.2.2)
  else if K t = 31 then (e.1, e.2.1, e.2.2.1, 31 :: e.2.2.2)
  else (e.1, e.2.1, e.2.2.1 ++ [(1, K t - 11)], e.2.2.2)
def hg_op (K : Nat → Int) (t : Nat) (e : hg_S) : hg_S := (e.1, e.2.1, (hg_fl (decide (28 ≤ K t)) e.2.2.1 e.2.2.2).1, (K t).toNat :: (hg_fl (decide (28 ≤ K t)) e.2.2.1 e.2.2.2).2)
def hg_cl (e : hg_S) : hg_S := (e.1, e.2.1, (hg_fl false e.2.2.1 e.2.2.2).1, (hg_fl false e.2.2.1 e.2.2.2).2.tail)
/-- an expression is at its end, out is all of it -/
def hg_end (ctx : Nat) (d : hg_D) (k : hg_W) (o : hg_C) : hg_S := match ctx with
  | 0 => (d, (k.1, k.2.1, o, k.2.2.2), [], [])
  | 1 => (d, (k.1, k.2.1, k.2.2.1, o), [], [])
  | 2 => (d, (k.1, k.2.1 ++ [(k.2.2.1, k.2.2.2, o)], [], []), [], [])
  | _ => ((d.1, d.2.1, d.2.2.1, fun q => if q = k.1 then (k.2.1, o) else d.2.2.2 q), k, [], [])
def hg_dl (K V : Nat → Int) (t : Nat) (s : hq_S) (e : hg_S) : hg_S := match s with
  | (0, _, _, _, _) => if 2 ≤ K t ∧ K t ≤ 5 then (e.1, ((K t - 2).toNat, [], [], []), [], []) else e
  | (7, _, _, _, _) => ((fun h => if (h : Int) = V (t - 2) then V (t - 1) else e.1.1 h, e.1.2), e.2)
  | (9, _, _, _, _) => ((e.1.1, V (t - 1), e.1.2.2), e.2)
  | (11, _, _, _, _) => ((e.1.1, e.1.2.1, V (t - 1), e.1.2.2.2), e.2)
  | (13, _, _, _, _) => if K t = 8 then e else hg_un K V t e
  | (14, _, _, _, _) => hg_un K V t e
  | (15, _, ctx, dp, _) => if 26 ≤ K t ∧ K t ≤ 29 then hg_op K t e else match dp with
    | 0 => hg_end ctx e.1 e.2.1 (hg_fl false e.2.2.1 e.2.2.2).1
    | _ + 1 => hg_cl e
  | _ => e
def hg_d0 : hg_D := (fun _ => 0, 6, 0, fun k => ([], [(0, if k = 0 then 1 else 0)]))
def hg_q (K V : Nat → Int) (E : Nat → Nat → Bool) : Nat → hg_S
  | 0 => (hg_d0, (0, [], [], []), [], [])
  | t + 1 => match hq_q K V E t with
    | none => hg_q K V E t
    | some s => hg_dl K V t s (hg_q K V E t)
section HG
variable {K V : Nat → Int} {E : Nat → Nat → Bool}
theorem hg_next {t : Nat} {s : hq_S} (h : hq_q K V E t = some s) : hg_q K V E (t + 1) = hg_dl K V t s (hg_q K V E t) := by
  show (match hq_q K V E t with
    | none => hg_q K V E t
    | some s => hg_dl K V t s (hg_q K V E t)) = _
  rw [h]
/-- bounds of the ints -/
def hg_V (K V : Nat → Int) : Prop := ∀ t, K t = 21 → 0 ≤ V t ∧ V t ≤ 9999
theorem hg_fl_app {st : Bool} {a : hg_C} : ∀ (w : List Nat) (o : hg_C), hg_fl st (a ++ o) w = (a ++ (hg_fl st o w).1, (hg_fl st o w).2)
  | [], o => rfl
  | x :: w, o => by
    unfold hg_fl
    split
    · rfl
    · rw [List.append_assoc]
      exact hg_fl_app w _
theorem hg_fl_ff : ∀ (w : List Nat) (o : hg_C), hg_fl false o w = hg_fl false (hg_fl true o w).1 (hg_fl true o w).2
  | [], o => rfl
  | x :: w, o => by
    by_cases h : x = 31
    · subst h; rfl
    · by_cases h2 : x < 28
      · rw [show hg_fl true o (x :: w) = (o, x :: w) by unfold hg_fl; rw [if_pos (Or.inr ⟨rfl, h2⟩)]]
      · rw [show hg_fl true o (x :: w) = hg_fl true (o ++ [(x - 24, 0)]) w by
          show (if x = 31 ∨ (true = true ∧ x < 28) then _ else _) = _
          rw [if_neg (by omega)]]
        rw [show hg_fl false o (x :: w) = hg_fl false (o ++ [(x - 24, 0)]) w by
          show (if x = 31 ∨ (false = true ∧ x < 28) then _ else _) = _
          rw [if_neg (by omega)]]
        exact hg_fl_ff w _
/-- nothing waits that is * or / -/
def hg_t1 : List Nat → Prop
  | [] => True
  | x :: _ => x = 31 ∨ x < 28
/-- nothing waits -/
def hg_t0 : List Nat → Prop
  | [] => True
  | x :: _ => x = 31
theorem hg_fl_t1 {w : List Nat} {o : hg_C} (h : hg_t1 w) : hg_fl true o w = (o, w) := by
  cases w with
  | nil => rfl
  | cons x w =>
    show (if x = 31 ∨ (true = true ∧ x < 28) then _ else _) = _
    rw [if_pos (by rcases h with h | h; exact Or.inl h; exact Or.inr ⟨rfl, h⟩)]
theorem hg_fl_t0 {st : Bool} {w : List Nat} {o : hg_C} (h : hg_t0 w) : hg_fl st o w = (o, w) := by
  cases w with
  | nil => rfl
  | cons x w =>
    show (if x = 31 ∨ (st = true ∧ x < 28) then _ else _) = _
    rw [if_pos (Or.inl (show x = 31 from h))]
theorem hg_t0.t1 {w : List Nat} (h : hg_t0 w) : hg_t1 w := by
  cases w with
  | nil => trivial
  | cons x w => exact Or.inl h
/-- behind a product: an operator * or / that waited is out -/
theorem hg_fl_mul {w : List Nat} {o : hg_C} {x : Nat} (h : hg_t1 w) (h1 : 28 ≤ x) (h2 : x ≤ 29) : hg_fl true o (x :: w) = (o ++ [(x - 24, 0)], w) := by
  show (if x = 31 ∨ (true = true ∧ x < 28) then _ else hg_fl true (o ++ [(x - 24, 0)]) w) = _
  rw [if_neg (by omega)]
  exact hg_fl_t1 h
theorem hg_fl_add {w w3 : List Nat} {o o4 : hg_C} {x : Nat} (h : hg_t0 w) (h1 : x < 28) (e : hg_fl true o w3 = (o4, x :: w)) : hg_fl false o w3 = (o4 ++ [(x - 24, 0)], w) := by
  rw [hg_fl_ff, e]
  show (if x = 31 ∨ (false = true ∧ x < 28) then _ else hg_fl false (o4 ++ [(x - 24, 0)]) w) = _
  rw [if_neg (fun q => by rcases q with q | q; omega; exact absurd q.1 (by decide))]
  exact hg_fl_t0 h
theorem hg_fl_one {w w3 : List Nat} {o o4 : hg_C} (h : hg_t0 w) (e : hg_fl true o w3 = (o4, w)) : hg_fl false o w3 = (o4, w) := by
  rw [hg_fl_ff, e]
  exact hg_fl_t0 h
/-! the states by their kinds -/
variable {t a c n : Nat} {r : List Nat × Nat × Nat × Option (Nat × Nat)} {d : hg_D} {k : hg_W} {o o1 : hg_C} {w w1 : List Nat}
theorem hg_un21 (h : K t = 21) : hg_un K V t (d, k, o, w) = (d, k, o ++ [(0, V t)], w) := by
  unfold hg_un; rw [if_pos h]
theorem hg_un31 (h : K t = 31) : hg_un K V t (d, k, o, w) = (d, k, o, 31 :: w) := by
  unfold hg_un; rw [if_neg (by omega), if_pos h]
theorem hg_unv (h : 11 ≤ K t ∧ K t ≤ 19) : hg_un K V t (d, k, o, w) = (d, k, o ++ [(1, K t - 11)], w) := by
  unfold hg_un; rw [if_neg (by omega), if_neg (by omega)]
theorem hg_dop {x : Nat} (h : K t = (x : Int)) (h1 : 26 ≤ x) (h2 : x ≤ 29) (e : hg_fl (decide (28 ≤ x)) o w = (o1, w1)) : hg_dl K V t (15, a, c, n, r) (d, k, o, w) = (d, k, o1, x :: w1) := by
  show (if 26 ≤ K t ∧ K t ≤ 29 then hg_op K t (d, k, o, w) else _) = _
  rw [if_pos (by omega)]
  unfold hg_op
  have q : decide (28 ≤ K t) = decide (28 ≤ x) := by
    rw [h]
    apply decide_eq_decide.mpr
    omega
  rw [q, show (K t).toNat = x by omega]
  dsimp only
  rw [e]
theorem hg_dcl (h : ¬ (26 ≤ K t ∧ K t ≤ 29)) (e : hg_fl false o w = (o1, 31 :: w1)) : hg_dl K V t (15, a, c, n + 1, r) (d, k, o, w) = (d, k, o1, w1) := by
  show (if 26 ≤ K t ∧ K t ≤ 29 then hg_op K t (d, k, o, w) else hg_cl (d, k, o, w)) = _
  rw [if_neg h]
  unfold hg_cl
  dsimp only
  rw [e]
  rfl
theorem hg_dout (h : ¬ (26 ≤ K t ∧ K t ≤ 29)) (e : hg_fl false o w = (o1, w1)) : hg_dl K V t (15, a, c, 0, r) (d, k, o, w) = hg_end c d k o1 := by
  show (if 26 ≤ K t ∧ K t ≤ 29 then hg_op K t (d, k, o, w) else hg_end c d k (hg_fl false o w).1) = _
  rw [if_neg h, e]
theorem hg_d13u (h : ¬ K t = 8) {e : hg_S} : hg_dl K V t (13, a, c, n, r) e = hg_un K V t e := by
  show (if K t = 8 then e else hg_un K V t e) = _
  rw [if_neg h]
theorem hg_d13i (h : K t = 8) {e : hg_S} : hg_dl K V t (13, a, c, n, r) e = e := by
  show (if K t = 8 then e else hg_un K V t e) = _
  rw [if_pos h]
theorem hg_d0l (h : 2 ≤ K t ∧ K t ≤ 5) {e : hg_S} : hg_dl K V t (0, a, c, n, r) e = (e.1, ((K t - 2).toNat, [], [], []), [], []) := by
  show (if 2 ≤ K t ∧ K t ≤ 5 then _ else e) = _
  rw [if_pos h]
theorem hg_d0n (h : ¬ (2 ≤ K t ∧ K t ≤ 5)) {e : hg_S} : hg_dl K V t (0, a, c, n, r) e = e := by
  show (if 2 ≤ K t ∧ K t ≤ 5 then _ else e) = _
  rw [if_neg h]
end HG
/-! CODES OF THE CLASS: steps of laws, one behind the other -/
def hg_seg (a : Nat → Int32) : Nat → hg_C → Prop
  | _, [] => True
  | s, x :: r => (a s).toInt = 8 * x.2 + (x.1 : Int) ∧ hg_seg a (s + 1) r
def hg_br : Nat → hg_B → hg_C
  | _, [] => []
  | s, q :: r => q.1 ++ (q.2.1 ++ ((6, ((s + q.1.length + q.2.1.length + q.2.2.length + 2 : Nat) : Int)) :: (q.2.2 ++ ((7, 0) :: hg_br (s + q.1.length + q.2.1.length + q.2.2.length + 2) r))))
def hg_law (s : Nat) (l : hg_L) : hg_C := hg_br s l.1 ++ (l.2 ++ [(7, 0)])
def hg_np (x : Int32) (l : hg_C) : Prop := ((x >>> (Int32.ofNat 3 &&& 31)) &&& Int32.ofNat 1).toInt = 0 → (1, 3) ∉ l
def hg_hs (V : Nat → Int) (T : Nat) (A : hs_A) : List Nat → Prop
  | [] => True
  | u :: r => (A.2.1 (T + 1) r.length).toInt = V (u + 1) ∧ (A.2.1 (T + 2) r.length).toInt = V (u + 2) ∧ hg_hs V T A r
theorem hg_seg_app {a : Nat → Int32} : ∀ (l r : hg_C) (s : Nat), hg_seg a s (l ++ r) ↔ hg_seg a s l ∧ hg_seg a (s + l.length) r
  | [], r, s => by
    show hg_seg a s r ↔ True ∧ hg_seg a s r
    exact ⟨fun h => ⟨trivial, h⟩, fun h => h.2⟩
  | x :: l, r, s => by
    show ((a s).toInt = 8 * x.2 + (x.1 : Int) ∧ hg_seg a (s + 1) (l ++ r)) ↔ ((a s).toInt = 8 * x.2 + (x.1 : Int) ∧ hg_seg a (s + 1) l) ∧ hg_seg a (s + (l.length + 1)) r
    rw [hg_seg_app l r (s + 1), show s + 1 + l.length = s + (l.length + 1) by omega]
    exact ⟨fun h => ⟨⟨h.1, h.2.1⟩, h.2.2⟩, fun h => ⟨h.1.1, h.1.2, h.2⟩⟩
theorem hg_seg.mv {a a' : Nat → Int32} : ∀ {l : hg_C} {s : Nat}, hg_seg a s l → (∀ i, s ≤ i → i < s + l.length → a' i = a i) → hg_seg a' s l
  | [], _, _, _ => trivial
  | x :: l, s, h, e => by
    have hl : (x :: l).length = l.length + 1 := rfl
    exact ⟨by rw [e s (Nat.le_refl s) (by omega)]; exact h.1, hg_seg.mv h.2 (fun i h1 h2 => e i (by omega) (by omega))⟩
theorem hg_br_app : ∀ (l r : hg_B) (s : Nat), hg_br s (l ++ r) = hg_br s l ++ hg_br (s + (hg_br s l).length) r
  | [], r, s => rfl
  | q :: l, r, s => by
    have e := hg_br_app l r (s + q.1.length + q.2.1.length + q.2.2.length + 2)
    show q.1 ++ (q.2.1 ++ ((6, ((s + q.1.length + q.2.1.length + q.2.2.length + 2 : Nat) : Int)) :: (q.2.2 ++ ((7, 0) :: hg_br (s + q.1.length + q.2.1.length + q.2.2.length + 2) (l ++ r))))) = (q.1 ++ (q.2.1 ++ ((6, ((s + q.1.length + q.2.1.length + q.2.2.length + 2 : Nat) : Int)) :: (q.2.2 ++ ((7, 0) :: hg_br (s + q.1.length + q.2.1.length + q.2.2.length + 2) l))))) ++ hg_br (s + (q.1 ++ (q.2.1 ++ ((6, ((s + q.1.length + q.2.1.length + q.2.2.length + 2 : Nat) : Int)) :: (q.2.2 ++ ((7, 0) :: hg_br (s + q.1.length + q.2.1.length + q.2.2.length + 2) l))))).length) r
    rw [e]
    have hl : s + (q.1 ++ (q.2.1 ++ ((6, ((s + q.1.length + q.2.1.length + q.2.2.length + 2 : Nat) : Int)) :: (q.2.2 ++ ((7, 0) :: hg_br (s + q.1.length + q.2.1.length + q.2.2.length + 2) l))))).length = s + q.1.length + q.2.1.length + q.2.2.length + 2 + (hg_br (s + q.1.length + q.2.1.length + q.2.2.length + 2) l).length := by
      simp only [List.length_append, List.length_cons]
      omega
    rw [hl]
    simp only [List.append_assoc, List.cons_append]
/-- one branch more -/
theorem hg_br_one {l : hg_B} {s z : Nat} {a b c : hg_C} (h : s + (hg_br s l ++ (a ++ (b ++ (6, 0) :: (c ++ [(7, 0)])))).length = z) : hg_br s (l ++ [(a, b, c)]) = hg_br s l ++ (a ++ (b ++ (6, (z : Int)) :: (c ++ [(7, 0)]))) := by
  rw [hg_br_app]
  show hg_br s l ++ (a ++ (b ++ ((6, ((s + (hg_br s l).length + a.length + b.length + c.length + 2 : Nat) : Int)) :: (c ++ ((7, 0) :: []))))) = _
  rw [← h]
  have e : s + (hg_br s l).length + a.length + b.length + c.length + 2 = s + (hg_br s l ++ (a ++ (b ++ (6, 0) :: (c ++ [(7, 0)])))).length := by
    simp only [List.length_append, List.length_cons, List.length_nil]
    omega
  rw [e]
/-- what the class's reading has told into a terrace: d, the law under way fl, all steps z -/
def hcM (V : Nat → Int) (T : Nat) (A : hs_A) (ns : List Nat) (d : hg_D) (fl : hg_C) (z : Nat) : Prop :=
  ((A.1 (T + 4) 4).toInt = (z : Int) ∧ fl.length ≤ z ∧ hg_seg (A.2.1 (T + 5)) (z - fl.length) fl ∧ hg_np (A.1 (T + 4) 5) fl) ∧
  (∀ k, k < 4 → ∃ f : Nat, (A.2.1 (T + 6) k).toInt = (f : Int) ∧ f + (hg_law f (d.2.2.2 k)).length ≤ z - fl.length ∧ hg_seg (A.2.1 (T + 5)) f (hg_law f (d.2.2.2 k)) ∧ hg_np (A.2.1 (T + 7) k) (hg_law f (d.2.2.2 k))) ∧
  ((∀ h : Nat, h < 24 → (A.2.1 (T + 3) h).toInt = d.1 h) ∧ (A.1 T 6).toInt = d.2.1 ∧ (A.1 T 7).toInt = d.2.2.1) ∧ hg_hs V T A ns
section HCM
variable {V : Nat → Int} {T : Nat} {A A' : hs_A} {ns : List Nat} {d : hg_D} {fl : hg_C} {z : Nat}
theorem hg_hs.mv : ∀ {ns : List Nat}, hg_hs V T A ns → (∀ i, i < ns.length → A'.2.1 (T + 1) i = A.2.1 (T + 1) i ∧ A'.2.1 (T + 2) i = A.2.1 (T + 2) i) → hg_hs V T A' ns
  | [], _, _ => trivial
  | u :: r, h, e => by
    have hl : (u :: r).length = r.length + 1 := rfl
    have q := e r.length (by omega)
    exact ⟨by rw [q.1]; exact h.1, by rw [q.2]; exact h.2.1, hg_hs.mv h.2.2 (fun i hi => e i (by omega))⟩
theorem hcM.mv (h : hcM V T A ns d fl z) (e1 : ∀ i k, T ≤ i → i ≤ T + 8 → ¬ (i = T ∧ (k = 4 ∨ k = 5)) → A'.1 i k = A.1 i k) (e2 : ∀ i, T ≤ i → i ≤ T + 7 → A'.2.1 i = A.2.1 i) : hcM V T A' ns d fl z := by
  obtain ⟨⟨a1, a2, a3, a4⟩, b, ⟨c1, c2, c3⟩, c4⟩ := h
  refine ⟨⟨?_, a2, ?_, ?_⟩, fun k hk => ?_, ⟨fun h hh => ?_, ?_, ?_⟩, c4.mv (fun i _ => ⟨by rw [e2 _ (by omega) (by omega)], by rw [e2 _ (by omega) (by omega)]⟩)⟩
  · rw [e1 _ 4 (by omega) (by omega) (by omega)]; exact a1
  · rw [e2 _ (by omega) (by omega)]; exact a3
  · rw [e1 _ 5 (by omega) (by omega) (by omega)]; exact a4
  · rw [e2 (T + 6) (by omega) (by omega), e2 (T + 5) (by omega) (by omega), e2 (T + 7) (by omega) (by omega)]
    exact b k hk
  · rw [e2 _ (by omega) (by omega)]; exact c1 h hh
  · rw [e1 _ 6 (by omega) (by omega) (by omega)]; exact c2
  · rw [e1 _ 7 (by omega) (by omega) (by omega)]; exact c3
theorem hg_k8 {x y : Int32} {k : Nat} {v : Int} (hx : x.toInt = v) (hy : y.toInt = (k : Int)) (h0 : 0 ≤ v) (h1 : v < 134217728) (hk : k < 8) : ((x <<< (Int32.ofNat 3 &&& 31)) ||| y).toInt = 8 * v + (k : Int) := by
  have e1 : (x <<< (Int32.ofNat 3 &&& 31)).toBitVec = x.toBitVec <<< 3 := rfl
  have bx : x.toBitVec.toNat = v.toNat := by
    have q : x.toBitVec.toInt = v := hx
    have := BitVec.toInt_eq_toNat_cond x.toBitVec
    omega
  have by' : y.toBitVec.toNat = k := by
    have q : y.toBitVec.toInt = (k : Int) := hy
    have := BitVec.toInt_eq_toNat_cond y.toBitVec
    omega
  have hn : ((x.toBitVec <<< 3) ||| y.toBitVec).toNat = 8 * v.toNat + k := by
    rw [BitVec.toNat_or, BitVec.toNat_shiftLeft, bx, by']
    have e2 : v.toNat <<< 3 % 2 ^ 32 = v.toNat <<< 3 := by
      rw [Nat.shiftLeft_eq]
      exact Nat.mod_eq_of_lt (by omega)
    rw [e2, Nat.shiftLeft_eq, Nat.mul_comm, show (2 : Nat) ^ 3 = 8 from rfl]
    have := Nat.two_pow_add_eq_or_of_lt (i := 3) (b := k) (by omega) v.toNat
    rw [show (2 : Nat) ^ 3 = 8 from rfl] at this
    exact this.symm
  show ((x <<< (Int32.ofNat 3 &&& 31)).toBitVec ||| y.toBitVec).toInt = _
  rw [e1, BitVec.toInt_eq_toNat_cond, hn, if_pos (by omega)]
  omega
theorem hg_np0 {x : Int32} : hg_np x [] := fun _ h => nomatch h
theorem hg_np.app {x : Int32} {l : hg_C} {k : Nat} {v : Int} (h : hg_np x l) (hk : ¬ k = 1) : hg_np x (l ++ [(k, v)]) := fun q m => by
  rcases List.mem_append.mp m with m | m
  · exact h q m
  · rcases List.mem_singleton.mp m with e
    have := congrArg Prod.fst e
    exact hk this.symm
theorem hg_npb : ∀ n, n < 9 → ¬ n = 3 → (((Int32.ofNat 1 <<< (Int32.ofNat n &&& 31)) >>> (Int32.ofNat 3 &&& 31)) &&& Int32.ofNat 1) = 0 := by decide +kernel
theorem hg_or3 {x y : Int32} : (((x ||| y) >>> (Int32.ofNat 3 &&& 31)) &&& Int32.ofNat 1) = ((x >>> (Int32.ofNat 3 &&& 31)) &&& Int32.ofNat 1) ||| ((y >>> (Int32.ofNat 3 &&& 31)) &&& Int32.ofNat 1) := by
  apply Int32.toBitVec_inj.mp
  show ((x.toBitVec ||| y.toBitVec).sshiftRight 3 &&& 1#32) = (x.toBitVec.sshiftRight 3 &&& 1#32) ||| (y.toBitVec.sshiftRight 3 &&& 1#32)
  apply BitVec.eq_of_getLsbD_eq
  intro i hi
  simp only [BitVec.getLsbD_and, BitVec.getLsbD_or, BitVec.getLsbD_sshiftRight, BitVec.msb_or]
  split <;> simp only [Bool.and_or_distrib_left, Bool.and_or_distrib_right]
theorem hg_np.var {x x' a : Int32} {l : hg_C} {v : Int} (h : hg_np x l) (ha : a.toInt = v) (h0 : 0 ≤ v) (h8 : v ≤ 8) (e : x' = x ||| (Int32.ofNat 1 <<< (a &&& 31))) : hg_np x' (l ++ [(1, v)]) := fun q m => by
  have hb : (x' >>> (Int32.ofNat 3 &&& 31)) &&& Int32.ofNat 1 = 0 := Int32.toInt_inj.mp q
  rw [e, hg_or3] at hb
  have ea : a = Int32.ofNat v.toNat := by
    apply Int32.toInt_inj.mp
    rw [hn_c (n := v.toNat) rfl (by omega)]
    omega
  have b1 : ∀ p q : Int32, p ||| q = 0 → p = 0 ∧ q = 0 := by
    intro p q e
    have e' := congrArg Int32.toBitVec e
    have e2 : p.toBitVec ||| q.toBitVec = 0#32 := e'
    have e3 := BitVec.or_eq_zero_iff.mp e2
    exact ⟨Int32.toBitVec_inj.mp e3.1, Int32.toBitVec_inj.mp e3.2⟩
  obtain ⟨b2, b3⟩ := b1 _ _ hb
  rcases List.mem_append.mp m with m | m
  · exact h (by rw [b2]; rfl) m
  · have e3 : v = 3 := (congrArg Prod.snd (List.mem_singleton.mp m)).symm
    subst e3
    rw [ea] at b3
    exact absurd b3 (by decide)
end HCM
section HCM2
variable {V S : Nat → Int} {T : Nat} {A A0 A1 A2 A' : hs_A} {ns : List Nat} {p : Option Nat} {sn : Nat} {o : Option (Nat × Nat)} {dd : hg_D} {fl : hg_C} {zz : Nat} {k : Nat} {v : Int}
theorem hcM.add (h : hcM V T A ns dd fl zz) (el : (A'.1 (T + 4) 4).toInt = (zz : Int) + 1) (ef : ∀ i q, T ≤ i → i ≤ T + 8 → ¬ (i = T ∧ (q = 4 ∨ q = 5)) → ¬ (i = T + 4 ∧ (q = 4 ∨ q = 5)) → A'.1 i q = A.1 i q) (ea : ∀ i, T ≤ i → i ≤ T + 7 → ¬ i = T + 5 → A'.2.1 i = A.2.1 i) (eb : ∀ j, ¬ j = zz → A'.2.1 (T + 5) j = A.2.1 (T + 5) j) (ec : (A'.2.1 (T + 5) zz).toInt = 8 * v + (k : Int)) (np : hg_np (A'.1 (T + 4) 5) (fl ++ [(k, v)])) : hcM V T A' ns dd (fl ++ [(k, v)]) (zz + 1) := by
  obtain ⟨⟨a1, a2, a3, a4⟩, b, ⟨c1, c2, c3⟩, c4⟩ := h
  have hl : (fl ++ [(k, v)]).length = fl.length + 1 := List.length_append
  have hs : zz + 1 - (fl ++ [(k, v)]).length = zz - fl.length := by rw [hl]; omega
  refine ⟨⟨by omega, by omega, ?_, np⟩, fun q hq => ?_, ⟨fun h hh => ?_, ?_, ?_⟩, c4.mv (fun i _ => ⟨by rw [ea _ (by omega) (by omega) (by omega)], by rw [ea _ (by omega) (by omega) (by omega)]⟩)⟩
  · rw [hs]
    refine (hg_seg_app fl [(k, v)] _).mpr ⟨a3.mv (fun i h1 h2 => eb i (by omega)), ?_, trivial⟩
    rw [show zz - fl.length + fl.length = zz by omega]
    exact ec
  · obtain ⟨f, f1, f2, f3, f4⟩ := b q hq
    exact ⟨f, by rw [ea _ (by omega) (by omega) (by omega)]; exact f1, by rw [hs]; exact f2, f3.mv (fun i h1 h2 => eb i (by omega)), by rw [ea _ (by omega) (by omega) (by omega)]; exact f4⟩
  · rw [ea _ (by omega) (by omega) (by omega)]; exact c1 h hh
  · rw [ef _ 6 (by omega) (by omega) (by omega) (by omega)]; exact c2
  · rw [ef _ 7 (by omega) (by omega) (by omega) (by omega)]; exact c3
theorem hcM.start (h : hcM V T A ns dd [] zz) (e : A'.1 = hs_up A.1 (T + 4) 5 (Int32.ofNat 0)) (f : A'.2 = A.2) : hcM V T A' ns dd [] zz := by
  obtain ⟨⟨a1, a2, a3, a4⟩, b, ⟨c1, c2, c3⟩, c4⟩ := h
  refine ⟨⟨by rw [e, hup2 (by omega)]; exact a1, a2, trivial, hg_np0⟩, fun q hq => ?_, ⟨fun h hh => ?_, ?_, ?_⟩, c4.mv (fun i _ => ⟨by rw [f], by rw [f]⟩)⟩
  · rw [f]; exact b q hq
  · rw [f]; exact c1 h hh
  · rw [e, hup2 (by omega)]; exact c2
  · rw [e, hup2 (by omega)]; exact c3
theorem hcM.put {s q : Nat} {l : hg_L} {x : Int32} (h : hcM V T A ns dd (hg_law s l) zz) (hs : s + (hg_law s l).length = zz) (hq : q < 4) (hx : x.toInt = (s : Int)) (e1 : A1.1 = A.1) (f1 : A1.2.1 = hs_up A.2.1 (T + 6) q x) (e2 : A'.1 = A1.1) (f2 : A'.2.1 = hs_up A1.2.1 (T + 7) q (A.1 (T + 4) 5)) : hcM V T A' ns (dd.1, dd.2.1, dd.2.2.1, fun k => if k = q then l else dd.2.2.2 k) [] zz := by
  obtain ⟨⟨a1, a2, a3, a4⟩, b, ⟨c1, c2, c3⟩, c4⟩ := h
  have e : A'.1 = A.1 := e2.trans e1
  have ea : ∀ i j, ¬ i = T + 6 → ¬ i = T + 7 → A'.2.1 i j = A.2.1 i j := fun i j h1 h2 => by rw [f2, hup2 (fun w => h2 w.1), f1, hup2 (fun w => h1 w.1)]
  refine ⟨⟨by rw [e]; exact a1, Nat.zero_le _, trivial, hg_np0⟩, fun j hj => ?_, ⟨fun h hh => ?_, ?_, ?_⟩, c4.mv (fun i _ => ⟨ea _ _ (by omega) (by omega), ea _ _ (by omega) (by omega)⟩)⟩
  · have hz : zz - ([] : hg_C).length = zz := rfl
    show ∃ f : Nat, (A'.2.1 (T + 6) j).toInt = (f : Int) ∧ f + (hg_law f (if j = q then l else dd.2.2.2 j)).length ≤ zz - ([] : hg_C).length ∧ hg_seg (A'.2.1 (T + 5)) f (hg_law f (if j = q then l else dd.2.2.2 j)) ∧ hg_np (A'.2.1 (T + 7) j) (hg_law f (if j = q then l else dd.2.2.2 j))
    rw [hz]
    by_cases w : j = q
    · subst w
      rw [if_pos rfl]
      refine ⟨s, by rw [f2, hup2 (by omega), f1, hup1]; exact hx, by omega, ?_, by rw [f2, hup1]; exact a4⟩
      rw [show zz - (hg_law s l).length = s by omega] at a3
      exact a3.mv (fun i _ _ => ea _ _ (by omega) (by omega))
    · rw [if_neg w]
      obtain ⟨f, b1, b2, b3, b4⟩ := b j hj
      refine ⟨f, by rw [f2, hup2 (by omega), f1, hup2 (by omega)]; exact b1, by omega, b3.mv (fun i _ _ => ea _ _ (by omega) (by omega)), by rw [f2, hup2 (by omega), f1, hup2 (by omega)]; exact b4⟩
  · rw [ea _ _ (by omega) (by omega)]; exact c1 h hh
  · rw [e]; exact c2
  · rw [e]; exact c3
theorem hcM.land {l1 l2 : hg_C} {j : Nat} {x : Int32} (h : hcM V T A ns dd (l1 ++ (6, v) :: l2) zz) (hj : j + (l2.length + 1) = zz) (hx : x.toInt = 8 * (zz : Int) + 6) (e : A'.1 = A.1) (f : A'.2.1 = hs_up A.2.1 (T + 5) j x) : hcM V T A' ns dd (l1 ++ (6, (zz : Int)) :: l2) zz := by
  obtain ⟨⟨a1, a2, a3, a4⟩, b, ⟨c1, c2, c3⟩, c4⟩ := h
  have hl : (l1 ++ (6, v) :: l2).length = l1.length + (l2.length + 1) := by rw [List.length_append]; rfl
  have hl' : (l1 ++ (6, (zz : Int)) :: l2).length = l1.length + (l2.length + 1) := by rw [List.length_append]; rfl
  have ea : ∀ i q, ¬ (i = T + 5 ∧ q = j) → A'.2.1 i q = A.2.1 i q := fun i q w => by rw [f, hup2 w]
  rw [hl] at a2 a3 b
  refine ⟨⟨by rw [e]; exact a1, by omega, ?_, fun w m => ?_⟩, fun q hq => ?_, ⟨fun h hh => ?_, ?_, ?_⟩, c4.mv (fun i _ => ⟨ea _ _ (by omega), ea _ _ (by omega)⟩)⟩
  · rw [hl']
    obtain ⟨s1, s2, s3⟩ := (hg_seg_app l1 ((6, v) :: l2) _).mp a3
    refine (hg_seg_app l1 ((6, (zz : Int)) :: l2) _).mpr ⟨s1.mv (fun i _ _ => ea _ _ (by omega)), ?_, s3.mv (fun i _ _ => ea _ _ (by omega))⟩
    rw [show zz - (l1.length + (l2.length + 1)) + l1.length = j by omega, f, hup1]
    exact hx
  · rw [e] at w
    refine a4 w ?_
    rcases List.mem_append.mp m with m | m
    · exact List.mem_append.mpr (Or.inl m)
    · refine List.mem_append.mpr (Or.inr ?_)
      rcases List.mem_cons.mp m with m | m
      · exact absurd (show (1 : Nat) = 6 from congrArg Prod.fst m) (by decide)
      · exact List.mem_cons_of_mem _ m
  · obtain ⟨f0, b1, b2, b3, b4⟩ := b q hq
    refine ⟨f0, by rw [ea _ _ (by omega)]; exact b1, by rw [hl']; exact b2, b3.mv (fun i _ _ => ea _ _ (by omega)), by rw [ea _ _ (by omega)]; exact b4⟩
  · rw [ea _ _ (by omega)]; exact c1 h hh
  · rw [e]; exact c2
  · rw [e]; exact c3
theorem hcM.house {u j : Nat} {x y z : Int32} (h : hcM V T A ns dd fl zz) (hj : j = ns.length) (e1 : A1.1 = A.1) (f1 : A1.2.1 = hs_up A.2.1 (T + 1) j x) (e2 : A2.1 = A1.1) (f2 : A2.2.1 = hs_up A1.2.1 (T + 2) j y) (e3 : A'.1 = hs_up A2.1 T 4 z) (f3 : A'.2 = A2.2) (hx : x.toInt = V (u + 1)) (hy : y.toInt = V (u + 2)) : hcM V T A' (u :: ns) dd fl zz := by
  obtain ⟨⟨a1, a2, a3, a4⟩, b, ⟨c1, c2, c3⟩, c4⟩ := h
  have ee : ∀ i q, ¬ (i = T ∧ q = 4) → A'.1 i q = A.1 i q := fun i q w => by rw [e3, hup2 w, e2, e1]
  have ea : ∀ i q, ¬ (i = T + 1 ∧ q = j) → ¬ (i = T + 2 ∧ q = j) → A'.2.1 i q = A.2.1 i q := fun i q w1 w2 => by rw [f3, f2, hup2 w2, f1, hup2 w1]
  refine ⟨⟨by rw [ee _ _ (by omega)]; exact a1, a2, a3.mv (fun i _ _ => ea _ _ (by omega) (by omega)), by rw [ee _ _ (by omega)]; exact a4⟩, fun q hq => ?_, ⟨fun h hh => ?_, ?_, ?_⟩, ?_, ?_, c4.mv (fun i hi => ⟨ea _ _ (by omega) (by omega), ea _ _ (by omega) (by omega)⟩)⟩
  · obtain ⟨f0, b1, b2, b3, b4⟩ := b q hq
    exact ⟨f0, by rw [ea _ _ (by omega) (by omega)]; exact b1, b2, b3.mv (fun i _ _ => ea _ _ (by omega) (by omega)), by rw [ea _ _ (by omega) (by omega)]; exact b4⟩
  · rw [ea _ _ (by omega) (by omega)]; exact c1 h hh
  · rw [ee _ _ (by omega)]; exact c2
  · rw [ee _ _ (by omega)]; exact c3
  · rw [← hj, f3, f2, hup2 (by omega), f1, hup1]; exact hx
  · rw [← hj, f3, f2, hup1]; exact hy
theorem hcM.sendN {x : Int32} {b c : Int} (h : hcM V T A ns dd fl zz) (hb : ¬ (0 ≤ b ∧ b ≤ 23)) (e : A'.1 = hs_up A.1 T 5 x) (f : A'.2 = A.2) : hcM V T A' ns (fun h => if (h : Int) = b then c else dd.1 h, dd.2) fl zz := by
  obtain ⟨a, q, ⟨c1, c2, c3⟩, c4⟩ := h
  have ee : ∀ i q, ¬ (i = T ∧ q = 5) → A'.1 i q = A.1 i q := fun i q w => by rw [e, hup2 w]
  refine ⟨by rw [ee _ _ (by omega), ee _ _ (by omega), f]; exact a, by rw [f]; exact q, ⟨fun j hj => ?_, by rw [ee _ _ (by omega)]; exact c2, by rw [ee _ _ (by omega)]; exact c3⟩, c4.mv (fun i _ => ⟨by rw [f], by rw [f]⟩)⟩
  rw [f]
  show _ = if (j : Int) = b then c else dd.1 j
  rw [if_neg (by omega)]
  exact c1 j hj
theorem hcM.sendY {x y : Int32} {b c : Int} {j : Nat} (h : hcM V T A ns dd fl zz) (hj : (j : Int) = b) (e1 : A1.1 = A.1) (f1 : A1.2.1 = hs_up A.2.1 (T + 3) j y) (hy : y.toInt = c) (e : A'.1 = hs_up A1.1 T 5 x) (f : A'.2 = A1.2) : hcM V T A' ns (fun h => if (h : Int) = b then c else dd.1 h, dd.2) fl zz := by
  obtain ⟨⟨a1, a2, a3, a4⟩, q, ⟨c1, c2, c3⟩, c4⟩ := h
  have ee : ∀ i q, ¬ (i = T ∧ q = 5) → A'.1 i q = A.1 i q := fun i q w => by rw [e, hup2 w, e1]
  have ea : ∀ i q, ¬ (i = T + 3 ∧ q = j) → A'.2.1 i q = A.2.1 i q := fun i q w => by rw [f, f1, hup2 w]
  refine ⟨⟨by rw [ee _ _ (by omega)]; exact a1, a2, a3.mv (fun i _ _ => ea _ _ (by omega)), by rw [ee _ _ (by omega)]; exact a4⟩, fun k hk => ?_, ⟨fun i hi => ?_, by rw [ee _ _ (by omega)]; exact c2, by rw [ee _ _ (by omega)]; exact c3⟩, c4.mv (fun i _ => ⟨ea _ _ (by omega), ea _ _ (by omega)⟩)⟩
  · obtain ⟨f0, b1, b2, b3, b4⟩ := q k hk
    exact ⟨f0, by rw [ea _ _ (by omega)]; exact b1, b2, b3.mv (fun i _ _ => ea _ _ (by omega)), by rw [ea _ _ (by omega)]; exact b4⟩
  · show _ = if (i : Int) = b then c else dd.1 i
    by_cases w : i = j
    · rw [if_pos (by omega), w, f, f1, hup1]
      exact hy
    · rw [if_neg (by omega), ea _ _ (by omega)]
      exact c1 i hi
theorem hcM.fld {x : Int32} (h : hcM V T A ns dd fl zz) (hk : k = 6 ∨ k = 7) (e : A'.1 = hs_up A.1 T k x) (f : A'.2 = A.2) (hx : x.toInt = v) : hcM V T A' ns (dd.1, (if k = 6 then v else dd.2.1), (if k = 7 then v else dd.2.2.1), dd.2.2.2) fl zz := by
  obtain ⟨a, q, ⟨c1, c2, c3⟩, c4⟩ := h
  have ee : ∀ i q, ¬ (i = T ∧ q = k) → A'.1 i q = A.1 i q := fun i q w => by rw [e, hup2 w]
  refine ⟨by rw [ee _ _ (by omega), ee _ _ (by omega), f]; exact a, by rw [f]; exact q, ⟨fun j hj => by rw [f]; exact c1 j hj, ?_, ?_⟩, c4.mv (fun i _ => ⟨by rw [f], by rw [f]⟩)⟩
  · show (A'.1 T 6).toInt = if k = 6 then v else dd.2.1
    by_cases w : k = 6
    · rw [if_pos w, ← w, e, hup1]; exact hx
    · rw [if_neg w, ee _ _ (by omega)]; exact c2
  · show (A'.1 T 7).toInt = if k = 7 then v else dd.2.2.1
    by_cases w : k = 7
    · rw [if_pos w, ← w, e, hup1]; exact hx
    · rw [if_neg w, ee _ _ (by omega)]; exact c3
/-! both at once -/
def hcR2 (V S : Nat → Int) (T : Nat) (A : hs_A) (ns : List Nat) (p : Option Nat) (sn : Nat) (o : Option (Nat × Nat)) (dd : hg_D) (fl : hg_C) (zz : Nat) : Prop := (A.1 T 4).toInt = (ns.length : Int) ∧ (A.1 T 5).toInt = (sn : Int) ∧ hcN A ns ∧ (∀ u, p = some u → A.2.2.1 25 ns.length = A.2.2.1 23 u) ∧ hcL S (A.1 20 7).toInt (A.1 20 8).toInt o ∧ hcM V T A ns dd fl zz
theorem hcR2.r (h : hcR2 V S T A ns p sn o dd fl zz) : hcR S T A ns p sn o := ⟨h.1, h.2.1, h.2.2.1, h.2.2.2.1, h.2.2.2.2.1⟩
theorem hcR2.m (h : hcR2 V S T A ns p sn o dd fl zz) : hcM V T A ns dd fl zz := h.2.2.2.2.2
theorem hcR2.of (h : hcR S T A ns p sn o) (m : hcM V T A ns dd fl zz) : hcR2 V S T A ns p sn o dd fl zz := ⟨h.1, h.2.1, h.2.2.1, h.2.2.2.1, h.2.2.2.2, m⟩
theorem hcR2.up {i q : Nat} {x : Int32} (h : hcR2 V S T A ns p sn o dd fl zz) (e : A'.1 = hs_up A.1 i q x) (f : A'.2 = A.2) (h1 : T + 8 < i) (h2 : ¬ (i = 20 ∧ (q = 7 ∨ q = 8))) : hcR2 V S T A' ns p sn o dd fl zz := .of (h.r.up e f (by omega) h2) (h.m.mv (fun a b _ _ _ => by rw [e, hup2 (by omega)]) (fun a _ _ => by rw [f]))
theorem hcR2.late {x y : Int32} {c t : Nat} (h : hcR2 V S T A ns p sn o dd fl zz) (hT : T ≤ 11) (e : A1.1 = hs_up A.1 20 7 x) (f : A1.2 = A.2) (e' : A'.1 = hs_up A1.1 20 8 y) (f' : A'.2 = A1.2) (h0 : (A.1 20 7).toInt = 0) (hx : x.toInt = (c : Int)) (hy : y.toInt = S t) (hc : c ≠ 0) : hcR2 V S T A' ns p sn (hq_late c t o) dd fl zz := .of (h.r.late hT e f e' f' h0 hx hy hc) (h.m.mv (fun a b _ _ _ => by rw [e', hup2 (by omega), e, hup2 (by omega)]) (fun a _ _ => by rw [f', f]))
theorem hcR2.late0 {c t : Nat} (h : hcR2 V S T A ns p sn o dd fl zz) (h0 : ¬ (A.1 20 7).toInt = 0) : hcR2 V S T A ns p sn (hq_late c t o) dd fl zz := .of (h.r.late0 h0) h.m
theorem hcR2.name {j t : Nat} {x : Int64} (h : hcR2 V S T A ns p sn o dd fl zz) (e : A'.1 = A.1) (f : A'.2.1 = A.2.1) (g : A'.2.2.1 = hs_upL A.2.2.1 25 j x) (hj : ns.length = j) (hx : x = A.2.2.1 23 t) : hcR2 V S T A' ns (some t) sn o dd fl zz := .of (h.r.name e g hj hx) (h.m.mv (fun a b _ _ _ => by rw [e]) (fun a _ _ => by rw [f]))
theorem hcR2.addN {x y : Int32} (h : hcR2 V S T A ns p sn o dd fl zz) (hT : T ≤ 11) (hk : ¬ k = 1) (e1 : A1.1 = A.1) (f1 : A1.2.1 = hs_up A.2.1 (T + 5) zz x) (g1 : A1.2.2 = A.2.2) (e2 : A'.1 = hs_up A1.1 (T + 4) 4 y) (f2 : A'.2 = A1.2) (hx : x.toInt = 8 * v + (k : Int)) (hy : y.toInt = (zz : Int) + 1) : hcR2 V S T A' ns p sn o dd (fl ++ [(k, v)]) (zz + 1) := by
  have ee : ∀ i q, ¬ (i = T + 4 ∧ q = 4) → A'.1 i q = A.1 i q := fun i q w => by rw [e2, hup2 w, e1]
  have ea : ∀ i q, ¬ (i = T + 5 ∧ q = zz) → A'.2.1 i q = A.2.1 i q := fun i q w => by rw [f2, f1, hup2 w]
  refine .of (h.r.fr (ee _ _ (by omega)) (ee _ _ (by omega)) (by rw [f2, g1]) (by rw [f2, g1]) (ee _ _ (by omega)) (ee _ _ (by omega))) (h.m.add ?_ (fun i q _ _ _ w => ee i q (by omega)) (fun i _ _ w => funext (fun j => ea i j (by omega))) (fun j w => ea _ j (by omega)) ?_ ?_)
  · rw [e2, hup1]; exact hy
  · rw [f2, f1, hup1]; exact hx
  · rw [ee _ _ (by omega)]; exact h.m.1.2.2.2.app hk
theorem hcR2.addV {a x y : Int32} (h : hcR2 V S T A ns p sn o dd fl zz) (hT : T ≤ 11) (ha : a.toInt = v) (h0 : 0 ≤ v) (h8 : v ≤ 8) (e0 : A0.1 = hs_up A.1 (T + 4) 5 (A.1 (T + 4) 5 ||| (Int32.ofNat 1 <<< (a &&& 31)))) (f0 : A0.2 = A.2) (e1 : A1.1 = A0.1) (f1 : A1.2.1 = hs_up A0.2.1 (T + 5) zz x) (g1 : A1.2.2 = A0.2.2) (e2 : A'.1 = hs_up A1.1 (T + 4) 4 y) (f2 : A'.2 = A1.2) (hx : x.toInt = 8 * v + ((1 : Nat) : Int)) (hy : y.toInt = (zz : Int) + 1) : hcR2 V S T A' ns p sn o dd (fl ++ [(1, v)]) (zz + 1) := by
  have ee : ∀ i q, ¬ (i = T + 4 ∧ (q = 4 ∨ q = 5)) → A'.1 i q = A.1 i q := fun i q w => by rw [e2, hup2 (by omega), e1, e0, hup2 (by omega)]
  have ea : ∀ i q, ¬ (i = T + 5 ∧ q = zz) → A'.2.1 i q = A.2.1 i q := fun i q w => by rw [f2, f1, hup2 w, f0]
  refine .of (h.r.fr (ee _ _ (by omega)) (ee _ _ (by omega)) (by rw [f2, g1, f0]) (by rw [f2, g1, f0]) (ee _ _ (by omega)) (ee _ _ (by omega))) (h.m.add ?_ (fun i q _ _ _ w => ee i q (by omega)) (fun i _ _ w => funext (fun j => ea i j (by omega))) (fun j w => ea _ j (by omega)) ?_ ?_)
  · rw [e2, hup1]; exact hy
  · rw [f2, f1, hup1]; exact hx
  · rw [e2, hup2 (by omega), e1, e0, hup1]
    exact h.m.1.2.2.2.var ha h0 h8 rfl
theorem hcR2.W0 {dd' : hg_D} {fl' : hg_C} {zz' : Nat} (h : hcR2 V S T A ns p sn o dd fl zz) (hT : T ≤ 11) (w : hcW T A A') (m : hcM V T A' ns dd' fl' zz') : hcR2 V S T A' ns p sn o dd' fl' zz' := .of (h.r.W hT w) m
end HCM2
def hcOK2 (K V S : Nat → Int) (E : Nat → Nat → Bool) (T : Nat) (A : hs_A) (t : Nat) : Prop := ∃ (t' a b c : Nat) (ns : List Nat) (nm sn : Nat) (o : Option (Nat × Nat)) (zz : Nat), t < t' ∧ hcB K V S E T A t' (0, a, b, c, ns, nm, sn, o) ∧ hcR2 V S T A ns none sn o (hg_q K V E t').1 [] zz ∧ zz ≤ 8 + t'
theorem hg_as {l1 c : hg_C} {x y : Nat × Int} : ((l1 ++ [x]) ++ c) ++ [y] = l1 ++ x :: (c ++ [y]) := by
  simp only [List.append_assoc, List.singleton_append, List.cons_append, List.nil_append]
theorem hg_ln {l : hg_C} {x : Nat × Int} : (l ++ [x]).length = l.length + 1 := List.length_append
theorem hg_as2 {a b c d : hg_C} : ((a ++ b) ++ c) ++ d = a ++ (b ++ (c ++ d)) := by rw [List.append_assoc, List.append_assoc]
theorem hg_nil : ([] : hg_C).length = 0 := rfl
theorem hW78 {g d f : Nat} {A : hs_A} (a1 a2 a3 : Int32) {P : Option Value → hs_A → Prop} (hP : ∀ (r : Option Value) (A' : hs_A), (A = A' ∧ ∃ z : Int32, r = some (.int z) ∧ ((z.toInt = 1 ∧ a2.toInt ≤ a1.toInt ∧ a1.toInt ≤ a3.toInt) ∨ (z.toInt = 0 ∧ ¬ (a2.toInt ≤ a1.toInt ∧ a1.toInt ≤ a3.toInt)))) → P r A') : hpa (f, g) d (some (.boolean)) hm_t78 0 [.int a1, .int a2, .int a3] [] A P := by
  have k0 := hk_0
  have k1 := hk_1
  refine hpa_iload_n (by rfl) rfl ?_
  refine hpa_iload_n (by rfl) rfl ?_
  refine hpj_clt (by rfl) rfl rfl (fun q1 => ?_) (fun q1 => ?_)
  ·
    refine hpa_iconst (by rfl) rfl ?_
    exact hpa_ireturn (by rfl) (by rfl) (hP _ _ ⟨rfl, _, rfl, Or.inr ⟨hk_0, by omega⟩⟩)
  ·
    refine hpa_iload_n (by rfl) rfl ?_
    refine hpa_iload_n (by rfl) rfl ?_
    refine hpj_cgt (by rfl) rfl rfl (fun q2 => ?_) (fun q2 => ?_)
    ·
      refine hpa_iconst (by rfl) rfl ?_
      exact hpa_ireturn (by rfl) (by rfl) (hP _ _ ⟨rfl, _, rfl, Or.inr ⟨hk_0, by omega⟩⟩)
    ·
      refine hpa_iconst (by rfl) rfl ?_
      refine hpa_goto (by rfl) ?_
      exact hpa_ireturn (by rfl) (by rfl) (hP _ _ ⟨rfl, _, rfl, Or.inl ⟨hk_1, by omega, by omega⟩⟩)
theorem hP78 {g d : Nat} {A : hs_A} (a1 a2 a3 : Int32) : hpC g d 78 hm_m78 [.int a1, .int a2, .int a3] A (fun r A' => A = A' ∧ ∃ z : Int32, r = some (.int z) ∧ ((z.toInt = 1 ∧ a2.toInt ≤ a1.toInt ∧ a1.toInt ≤ a3.toInt) ∨ (z.toInt = 0 ∧ ¬ (a2.toInt ≤ a1.toInt ∧ a1.toInt ≤ a3.toInt)))) := hpC.all (fun f d => hW78 a1 a2 a3 (fun r A' h => h))
theorem hW38 {g d f : Nat} {A : hs_A} {K V S : Nat → Int} {E : Nat → Nat → Bool} {T : Nat} {t : Nat} {s : hq_S} (hT : hTT T) (hB : hcB K V S E T A t s) {P : Option Value → hs_A → Prop} (hP : ∀ (r : Option Value) (A' : hs_A), (A = A' ∧ ∃ z : Int32, r = some (.int z) ∧ z.toInt = K t) → P r A') : hpa (f, g) d (some (.int)) hm_t38 0 [.ref 21] [] A P := by
  have hT9 : T ≤ 11 := by rcases hT with rfl | rfl <;> omega
  obtain ⟨h400, hpre, hix, hkk, hss, hsz, hvv⟩ := hB.at
  have hnx := hB.2.2.1
  have hqq := hB.2.2.2.1
  refine hpa_aload_n (by rfl) rfl ?_
  refine hpj_getK (by rfl) (by rfl) (by rfl) rfl ?_
  refine hpa_aload_n (by rfl) rfl ?_
  refine hpa_get (v := .ref 22) (by rfl) (by rfl) (by rfl) rfl ?_
  refine hpj_getK (by rfl) (by rfl) (by rfl) rfl ?_
  refine hpj_cge (by rfl) rfl rfl (fun q1 => False.elim (by omega)) (fun q1 => ?_)
  refine hpa_aload_n (by rfl) rfl ?_
  refine hpa_get (v := .ref 22) (by rfl) (by rfl) (by rfl) rfl ?_
  refine hpa_get (v := .ref 23) (by rfl) (by rfl) (by rfl) rfl ?_
  refine hpa_aload_n (by rfl) rfl ?_
  refine hpj_getK (by rfl) (by rfl) (by rfl) rfl ?_
  refine hpx_iald (by rfl) (by rfl) (fun h0v2 h1v2 v2 ev2 => ?_)
  rw [hix] at ev2
  refine hpa_goto (by rfl) ?_
  exact hpa_ireturn (by rfl) rfl (hP _ _ ⟨rfl, _, rfl, by rw [← ev2]; exact hkk⟩)
theorem hP38 {g d : Nat} {A : hs_A} {K V S : Nat → Int} {E : Nat → Nat → Bool} {T : Nat} {t : Nat} {s : hq_S} (hT : hTT T) (hB : hcB K V S E T A t s) : hpC g d 38 hm_m38 [.ref 21] A (fun r A' => A = A' ∧ ∃ z : Int32, r = some (.int z) ∧ z.toInt = K t) := hpC.all (fun f d => hW38 hT hB (fun r A' h => h))
theorem hW39 {g d f : Nat} {A : hs_A} {K V S : Nat → Int} {E : Nat → Nat → Bool} {T : Nat} {t k : Nat} {s : hq_S} (hT : hTT T) (a1 : Int32) (hB : hcB K V S E T A t s) (hf : hq_f K V E t k) (hk0 : k ≠ 0) (ha : a1.toInt = (k : Int)) {P : Option Value → hs_A → Prop} (hP : ∀ (r : Option Value) (A' : hs_A), (∃ z : Int32, r = some (.int z) ∧ z.toInt = 0 ∧ hcF K V S E T A') → P r A') : hpa (f, g) d (some (.boolean)) hm_t39 0 [.ref 21, .int a1] [] A P := by
  have k0 := hk_0
  have k400 := hk_400
  have hT9 : T ≤ 11 := by rcases hT with rfl | rfl <;> omega
  obtain ⟨h400, hpre, hix, hkk, hss, hsz, hvv⟩ := hB.at
  have hnx := hB.2.2.1
  have hqq := hB.2.2.2.1
  refine hpa_aload_n (by rfl) rfl ?_
  refine hpa_iload_n (by rfl) rfl ?_
  refine hpj_putI (by rfl) (by rfl) (by rfl) (by rfl) (fun A1 eA1 fA1 => ?_)
  refine hpa_aload_n (by rfl) rfl ?_
  refine hpa_aload_n (by rfl) rfl ?_
  refine hpj_getK (by rfl) (by rfl) (by rfl) (hkF eA1 (by omega) rfl) ?_
  refine hpa_sipush (by rfl) rfl ?_
  refine hpj_cgt (by rfl) rfl hk_400 (fun q2 => False.elim (by omega)) (fun q2 => ?_)
  refine hpa_aload_n (by rfl) rfl ?_
  refine hpa_get (v := .ref 22) (by rfl) (by rfl) (by rfl) rfl ?_
  refine hpa_get (v := .ref 25) (by rfl) (by rfl) (by rfl) rfl ?_
  refine hpa_aload_n (by rfl) rfl ?_
  refine hpj_getK (by rfl) (by rfl) (by rfl) (hkF eA1 (by omega) rfl) ?_
  refine hpx_iald (by rfl) (by rfl) (fun h0v3 h1v3 v3 ev3 => ?_)
  rw [fA1, hix] at ev3
  refine hpa_goto (by rfl) ?_
  refine hpj_putI (by rfl) (by rfl) (by rfl) (by rfl) (fun A4 eA4 fA4 => ?_)
  refine hpa_iconst (by rfl) rfl ?_
  exact hpa_ireturn (by rfl) (by rfl) (hP _ _ ⟨_, rfl, hk_0, by rw [fA4, fA1]; exact hB.1, hB.2.1.2.2.fr (by rw [fA4, fA1]), _, _, hf, hk0, (congrArg Int32.toInt (show A4.1 20 5 = a1 from (hkF eA4 (by omega) (hkS eA1)))).trans ha, (congrArg Int32.toInt (show A4.1 20 6 = v3 from (hkS eA4))).trans (by rw [← ev3]; exact hss)⟩)
theorem hP39 {g d : Nat} {A : hs_A} {K V S : Nat → Int} {E : Nat → Nat → Bool} {T : Nat} {t k : Nat} {s : hq_S} (hT : hTT T) (a1 : Int32) (hB : hcB K V S E T A t s) (hf : hq_f K V E t k) (hk0 : k ≠ 0) (ha : a1.toInt = (k : Int)) : hpC g d 39 hm_m39 [.ref 21, .int a1] A (fun r A' => ∃ z : Int32, r = some (.int z) ∧ z.toInt = 0 ∧ hcF K V S E T A') := hpC.all (fun f d => hW39 hT a1 hB hf hk0 ha (fun r A' h => h))
theorem hW40 {g d f : Nat} {A : hs_A} {K V S : Nat → Int} {E : Nat → Nat → Bool} {T : Nat} {t : Nat} {s : hq_S} {ns : List Nat} {p : Option Nat} {sn : Nat} {o : Option (Nat × Nat)} {dd : hg_D} {fl : hg_C} {zz : Nat} {c : Nat} (hT : hTT T) (a1 : Int32) (hB : hcB K V S E T A t s) (hR : hcR2 V S T A ns p sn o dd fl zz) (hc : c ≠ 0) (ha : a1.toInt = (c : Int)) {P : Option Value → hs_A → Prop} (hP : ∀ (r : Option Value) (A' : hs_A), (r = none ∧ (hcB K V S E T A' t s ∧ hcR2 V S T A' ns p sn (hq_late c t o) dd fl zz ∧ A'.2.2.1 = A.2.2.1 ∧ A'.1 20 4 = A.1 20 4)) → P r A') : hpa (f, g) d none hm_t40 0 [.ref 21, .int a1] [] A P := by
  have k400 := hk_400
  have hT9 : T ≤ 11 := by rcases hT with rfl | rfl <;> omega
  obtain ⟨h400, hpre, hix, hkk, hss, hsz, hvv⟩ := hB.at
  have hnx := hB.2.2.1
  have hqq := hB.2.2.2.1
  refine hpa_aload_n (by rfl) rfl ?_
  refine hpj_getK (by rfl) (by rfl) (by rfl) rfl ?_
  refine hpj_zne (by rfl) rfl (fun q1 => ?_) (fun q1 => ?_)
  ·
    exact hpa_return (by rfl) rfl (hP _ _ ⟨rfl, hB, hR.late0 q1, rfl, rfl⟩)
  ·
    refine hpa_aload_n (by rfl) rfl ?_
    refine hpj_getK (by rfl) (by rfl) (by rfl) rfl ?_
    refine hpa_sipush (by rfl) rfl ?_
    refine hpj_cgt (by rfl) rfl hk_400 (fun q2 => False.elim (by omega)) (fun q2 => ?_)
    refine hpa_aload_n (by rfl) rfl ?_
    refine hpa_iload_n (by rfl) rfl ?_
    refine hpj_putI (by rfl) (by rfl) (by rfl) (by rfl) (fun A3 eA3 fA3 => ?_)
    refine hpa_aload_n (by rfl) rfl ?_
    refine hpa_aload_n (by rfl) rfl ?_
    refine hpa_get (v := .ref 22) (by rfl) (by rfl) (by rfl) rfl ?_
    refine hpa_get (v := .ref 25) (by rfl) (by rfl) (by rfl) rfl ?_
    refine hpa_aload_n (by rfl) rfl ?_
    refine hpj_getK (by rfl) (by rfl) (by rfl) (hkF eA3 (by omega) rfl) ?_
    refine hpx_iald (by rfl) (by rfl) (fun h0v4 h1v4 v4 ev4 => ?_)
    rw [fA3, hix] at ev4
    refine hpj_putI (by rfl) (by rfl) (by rfl) (by rfl) (fun A5 eA5 fA5 => ?_)
    exact hpa_return (by rfl) rfl (hP _ _ ⟨rfl, (hB.up eA3 fA3 (by omega) (by omega) (by omega)).up eA5 fA5 (by omega) (by omega) (by omega), hR.late hT9 eA3 fA3 eA5 fA5 q1 ha (by rw [← ev4]; exact hss) hc, by rw [fA5, fA3], by rw [eA5, hup2 (by omega), eA3, hup2 (by omega)]⟩)
theorem hP40 {g d : Nat} {A : hs_A} {K V S : Nat → Int} {E : Nat → Nat → Bool} {T : Nat} {t : Nat} {s : hq_S} {ns : List Nat} {p : Option Nat} {sn : Nat} {o : Option (Nat × Nat)} {dd : hg_D} {fl : hg_C} {zz : Nat} {c : Nat} (hT : hTT T) (a1 : Int32) (hB : hcB K V S E T A t s) (hR : hcR2 V S T A ns p sn o dd fl zz) (hc : c ≠ 0) (ha : a1.toInt = (c : Int)) : hpC g d 40 hm_m40 [.ref 21, .int a1] A (fun r A' => r = none ∧ (hcB K V S E T A' t s ∧ hcR2 V S T A' ns p sn (hq_late c t o) dd fl zz ∧ A'.2.2.1 = A.2.2.1 ∧ A'.1 20 4 = A.1 20 4)) := hpC.all (fun f d => hW40 hT a1 hB hR hc ha (fun r A' h => h))
theorem hW41 {g d f : Nat} {A : hs_A} {K V S : Nat → Int} {E : Nat → Nat → Bool} {T : Nat} {t : Nat} {s s' : hq_S} {ns : List Nat} {p : Option Nat} {sn : Nat} {o : Option (Nat × Nat)} {dd : hg_D} {fl : hg_C} {zz : Nat} (hT : hTT T) (hB : hcB K V S E T A t s) (hR : hcR2 V S T A ns p sn o dd fl zz) (hd : hq_dl K V E t s = hq_go t s') {P : Option Value → hs_A → Prop} (hP : ∀ (r : Option Value) (A' : hs_A), (∃ z : Int32, r = some (.int z) ∧ ((z.toInt = 1 ∧ hcB K V S E T A' (t + 1) s' ∧ hcR2 V S T A' ns p sn o dd fl zz ∧ hg_q K V E (t + 1) = hg_dl K V t s (hg_q K V E t) ∧ A'.1 20 4 = A.1 20 4) ∨ (z.toInt = 0 ∧ hcF K V S E T A'))) → P r A') : hpa (f, g) d (some (.boolean)) hm_t41 0 [.ref 21] [] A P := by
  have k0 := hk_0
  have k1 := hk_1
  have k2 := hk_2
  have k400 := hk_400
  have hT9 : T ≤ 11 := by rcases hT with rfl | rfl <;> omega
  obtain ⟨h400, hpre, hix, hkk, hss, hsz, hvv⟩ := hB.at
  have hnx := hB.2.2.1
  have hqq := hB.2.2.2.1
  refine hpa_aload_n (by rfl) rfl ?_
  refine hpj_getK (by rfl) (by rfl) (by rfl) rfl ?_
  refine hpa_sipush (by rfl) rfl ?_
  refine hpj_clt (by rfl) rfl hk_400 (fun q1 => ?_) (fun q1 => ?_)
  ·
    refine hpa_aload_n (by rfl) rfl ?_
    refine hpa_dupR (by rfl) ?_
    refine hpj_getK (by rfl) (by rfl) (by rfl) rfl ?_
    refine hpa_iconst (by rfl) rfl ?_
    refine hpj_iadd (by rfl) rfl hk_1 (by omega) (by omega) (fun z2 ez2 => ?_)
    refine hpj_putI (by rfl) (by rfl) (by rfl) (by rfl) (fun A3 eA3 fA3 => ?_)
    refine hpa_iconst (by rfl) rfl ?_
    exact hpa_ireturn (by rfl) (by rfl) (hP _ _ ⟨_, rfl, Or.inl ⟨hk_1, hB.step (hd.trans (hq_go_lt (by omega))) eA3 fA3 (by omega), hR.up eA3 fA3 (by omega) (by omega), hg_next hqq, by rw [eA3, hup2 (by omega)]⟩⟩)
  ·
    refine hpa_aload_n (by rfl) rfl ?_
    refine hpa_iconst (by rfl) rfl ?_
    refine hpj_putI (by rfl) (by rfl) (by rfl) (by rfl) (fun A4 eA4 fA4 => ?_)
    refine hpa_aload_n (by rfl) rfl ?_
    refine hpa_aload_n (by rfl) rfl ?_
    refine hpa_get (v := .ref 22) (by rfl) (by rfl) (by rfl) rfl ?_
    refine hpa_get (v := .ref 25) (by rfl) (by rfl) (by rfl) rfl ?_
    refine hpa_sipush (by rfl) rfl ?_
    refine hpx_iald (by rfl) (by rfl) (fun h0v5 h1v5 v5 ev5 => ?_)
    have h4t : (Int32.ofNat 400).toNatClampNeg = t := by
      have : (Int32.ofNat 400).toNatClampNeg = 400 := by decide
      omega
    rw [fA4, h4t] at ev5
    refine hpj_putI (by rfl) (by rfl) (by rfl) (by rfl) (fun A6 eA6 fA6 => ?_)
    refine hpa_iconst (by rfl) rfl ?_
    exact hpa_ireturn (by rfl) (by rfl) (hP _ _ ⟨_, rfl, Or.inr ⟨hk_0, by rw [fA6, fA4]; exact hB.1, hB.2.1.2.2.fr (by rw [fA6, fA4]), t, 2, ⟨s, hqq, hd.trans (hq_go_ge (by omega))⟩, by decide, (congrArg Int32.toInt (show A6.1 20 5 = (Int32.ofNat 2) from (hkF eA6 (by omega) (hkS eA4)))).trans hk_2, (congrArg Int32.toInt (show A6.1 20 6 = v5 from (hkS eA6))).trans (by rw [← ev5]; exact hss)⟩⟩)
theorem hP41 {g d : Nat} {A : hs_A} {K V S : Nat → Int} {E : Nat → Nat → Bool} {T : Nat} {t : Nat} {s s' : hq_S} {ns : List Nat} {p : Option Nat} {sn : Nat} {o : Option (Nat × Nat)} {dd : hg_D} {fl : hg_C} {zz : Nat} (hT : hTT T) (hB : hcB K V S E T A t s) (hR : hcR2 V S T A ns p sn o dd fl zz) (hd : hq_dl K V E t s = hq_go t s') : hpC g d 41 hm_m41 [.ref 21] A (fun r A' => ∃ z : Int32, r = some (.int z) ∧ ((z.toInt = 1 ∧ hcB K V S E T A' (t + 1) s' ∧ hcR2 V S T A' ns p sn o dd fl zz ∧ hg_q K V E (t + 1) = hg_dl K V t s (hg_q K V E t) ∧ A'.1 20 4 = A.1 20 4) ∨ (z.toInt = 0 ∧ hcF K V S E T A'))) := hpC.all (fun f d => hW41 hT hB hR hd (fun r A' h => h))
theorem hW42 {g d f : Nat} {A : hs_A} {K V S : Nat → Int} {E : Nat → Nat → Bool} {T : Nat} {t : Nat} {s s' : hq_S} {ns : List Nat} {p : Option Nat} {sn : Nat} {o : Option (Nat × Nat)} {dd : hg_D} {fl : hg_C} {zz : Nat} {w : Int} (hT : hTT T) (a1 : Int32) (hB : hcB K V S E T A t s) (hR : hcR2 V S T A ns p sn o dd fl zz) (ha : a1.toInt = w) (hd : hq_dl K V E t s = hq_must K w t s') {P : Option Value → hs_A → Prop} (hP : ∀ (r : Option Value) (A' : hs_A), (∃ z : Int32, r = some (.int z) ∧ ((z.toInt = 1 ∧ hcB K V S E T A' (t + 1) s' ∧ hcR2 V S T A' ns p sn o dd fl zz ∧ hg_q K V E (t + 1) = hg_dl K V t s (hg_q K V E t) ∧ A'.1 20 4 = A.1 20 4) ∨ (z.toInt = 0 ∧ hcF K V S E T A'))) → P r A') : hpa (f, g) d (some (.boolean)) hm_t42 0 [.ref 21, .int a1] [] A P := by
  have k1 := hk_1
  have hT9 : T ≤ 11 := by rcases hT with rfl | rfl <;> omega
  obtain ⟨h400, hpre, hix, hkk, hss, hsz, hvv⟩ := hB.at
  have hnx := hB.2.2.1
  have hqq := hB.2.2.2.1
  refine hpa_aload_n (by rfl) rfl ?_
  refine hpa_call0 (by rfl) (by rfl) (by rfl) (by rfl) (by rfl) (by rfl) (hP38 hT hB) ?_
  rintro _ _ ⟨rfl, z2, rfl, fz_A1⟩
  refine hpa_iload_n (by rfl) rfl ?_
  refine hpj_cne (by rfl) rfl rfl (fun q3 => ?_) (fun q3 => ?_)
  ·
    refine hpa_aload_n (by rfl) rfl ?_
    refine hpa_iconst (by rfl) rfl ?_
    refine hpa_call0 (by rfl) (by rfl) (by rfl) (by rfl) (by rfl) (by rfl) (hP39 hT (Int32.ofNat 1) hB ⟨s, hqq, hd.trans (hq_must_no (by omega))⟩ (by decide) hk_1) ?_
    rintro _ A4 ⟨z5, rfl, fz_A4, F_A4⟩
    exact hpa_ireturn (by rfl) (hn_fitB (by omega) (by omega)) (hP _ _ ⟨_, rfl, Or.inr ⟨fz_A4, F_A4⟩⟩)
  ·
    refine hpa_aload_n (by rfl) rfl ?_
    refine hpa_call0 (by rfl) (by rfl) (by rfl) (by rfl) (by rfl) (by rfl) (hP41 hT hB hR (hd.trans (hq_must_ok (by omega)))) ?_
    rintro _ A6 ⟨z7, rfl, (⟨fz_A6, B_A6, R_A6, G_A6, N_A6⟩ | ⟨fz_A6, F_A6⟩)⟩
    ·
      refine hpa_goto (by rfl) ?_
      exact hpa_ireturn (by rfl) (hn_fitB (by omega) (by omega)) (hP _ _ ⟨_, rfl, Or.inl ⟨fz_A6, B_A6, R_A6, G_A6, N_A6⟩⟩)
    ·
      refine hpa_goto (by rfl) ?_
      exact hpa_ireturn (by rfl) (hn_fitB (by omega) (by omega)) (hP _ _ ⟨_, rfl, Or.inr ⟨fz_A6, F_A6⟩⟩)
theorem hP42 {g d : Nat} {A : hs_A} {K V S : Nat → Int} {E : Nat → Nat → Bool} {T : Nat} {t : Nat} {s s' : hq_S} {ns : List Nat} {p : Option Nat} {sn : Nat} {o : Option (Nat × Nat)} {dd : hg_D} {fl : hg_C} {zz : Nat} {w : Int} (hT : hTT T) (a1 : Int32) (hB : hcB K V S E T A t s) (hR : hcR2 V S T A ns p sn o dd fl zz) (ha : a1.toInt = w) (hd : hq_dl K V E t s = hq_must K w t s') : hpC g d 42 hm_m42 [.ref 21, .int a1] A (fun r A' => ∃ z : Int32, r = some (.int z) ∧ ((z.toInt = 1 ∧ hcB K V S E T A' (t + 1) s' ∧ hcR2 V S T A' ns p sn o dd fl zz ∧ hg_q K V E (t + 1) = hg_dl K V t s (hg_q K V E t) ∧ A'.1 20 4 = A.1 20 4) ∨ (z.toInt = 0 ∧ hcF K V S E T A'))) := hpC.all (fun f d => hW42 hT a1 hB hR ha hd (fun r A' h => h))
theorem hW43 {g d f : Nat} {A : hs_A} {K V S : Nat → Int} {E : Nat → Nat → Bool} {T : Nat} {t : Nat} {s s' : hq_S} {ns : List Nat} {p : Option Nat} {sn : Nat} {o : Option (Nat × Nat)} {dd : hg_D} {fl : hg_C} {zz : Nat} {lo hi : Int} (hT : hTT T) (a1 a2 : Int32) (ha1 : a1.toInt = lo) (ha2 : a2.toInt = hi) (hB : hcB K V S E T A t s) (hR : hcR2 V S T A ns p sn o dd fl zz) (hd : hq_dl K V E t s = hq_must K 21 t s') {P : Option Value → hs_A → Prop} (hP : ∀ (r : Option Value) (A' : hs_A), (∃ z : Int32, r = some (.int z) ∧ ((z.toInt = 1 ∧ hcB K V S E T A' (t + 1) s' ∧ hcR2 V S T A' ns p sn (hq_rng V lo hi t o) dd fl zz ∧ hg_q K V E (t + 1) = hg_dl K V t s (hg_q K V E t) ∧ (A'.1 20 4).toInt = V t ∧ K t = 21) ∨ (z.toInt = 0 ∧ hcF K V S E T A'))) → P r A') : hpa (f, g) d (some (.boolean)) hm_t43 0 [.ref 21, .int a1, .int a2] [] A P := by
  have k1 := hk_1
  have k21 := hk_21
  have k5 := hk_5
  have hT9 : T ≤ 11 := by rcases hT with rfl | rfl <;> omega
  obtain ⟨h400, hpre, hix, hkk, hss, hsz, hvv⟩ := hB.at
  have hnx := hB.2.2.1
  have hqq := hB.2.2.2.1
  refine hpa_aload_n (by rfl) rfl ?_
  refine hpa_call0 (by rfl) (by rfl) (by rfl) (by rfl) (by rfl) (by rfl) (hP38 hT hB) ?_
  rintro _ _ ⟨rfl, z2, rfl, fz_A1⟩
  refine hpa_bipush (by rfl) rfl ?_
  refine hpj_ceq (by rfl) rfl hk_21 (fun q3 => ?_) (fun q3 => ?_)
  ·
    refine hpa_aload_n (by rfl) rfl ?_
    refine hpa_aload_n (by rfl) rfl ?_
    refine hpa_get (v := .ref 22) (by rfl) (by rfl) (by rfl) rfl ?_
    refine hpa_get (v := .ref 24) (by rfl) (by rfl) (by rfl) rfl ?_
    refine hpa_aload_n (by rfl) rfl ?_
    refine hpj_getK (by rfl) (by rfl) (by rfl) rfl ?_
    refine hpx_lald (by rfl) (by rfl) (fun h0v4 h1v4 v4 ev4 => ?_)
    rw [hix] at ev4
    have hval : (v4).toInt32.toInt = V t := by rw [← ev4]; exact hvv (by omega)
    refine hpa_l2i (by rfl) ?_
    refine hpj_putI (by rfl) (by rfl) (by rfl) (by rfl) (fun A5 eA5 fA5 => ?_)
    have BA5 := hB.up eA5 fA5 (by omega) (by omega) (by omega)
    have RA5 := hR.up eA5 fA5 (by omega) (by omega)
    refine hpa_aload_n (by rfl) rfl ?_
    refine hpj_getK (by rfl) (by rfl) (by rfl) (hkS eA5) ?_
    refine hpa_iload_n (by rfl) rfl ?_
    refine hpa_iload_n (by rfl) rfl ?_
    refine hpa_call2 (by rfl) (by decide) (by rfl) (by rfl) (by rfl) (hP78 (v4).toInt32 a1 a2) ?_
    rintro _ _ ⟨rfl, z7, rfl, (⟨fz_A6, lo_A6, hi_A6⟩ | ⟨fz_A6, no_A6⟩)⟩
    ·
      have hrg : hq_rng V lo hi t o = o := by unfold hq_rng; rw [if_pos ⟨by omega, by omega⟩]
      refine hpj_zne (by rfl) rfl (fun q8 => ?_) (fun q8 => False.elim (by omega))
      refine hpa_aload_n (by rfl) rfl ?_
      refine hpa_call0 (by rfl) (by rfl) (by rfl) (by rfl) (by rfl) (by rfl) (hP41 hT BA5 RA5 (hd.trans (hq_must_ok (by omega)))) ?_
      rintro _ A9 ⟨z10, rfl, (⟨fz_A9, B_A9, R_A9, G_A9, N_A9⟩ | ⟨fz_A9, F_A9⟩)⟩
      ·
        exact hpa_ireturn (by rfl) (hn_fitB (by omega) (by omega)) (hP _ _ ⟨_, rfl, Or.inl ⟨fz_A9, B_A9, by rw [hrg]; exact R_A9, G_A9, by rw [N_A9, eA5, hup1]; exact hval, by omega⟩⟩)
      ·
        exact hpa_ireturn (by rfl) (hn_fitB (by omega) (by omega)) (hP _ _ ⟨_, rfl, Or.inr ⟨fz_A9, F_A9⟩⟩)
    ·
      have hrg : hq_rng V lo hi t o = hq_late 5 t o := by unfold hq_rng; rw [if_neg (fun q => by omega)]
      refine hpj_zne (by rfl) rfl (fun q11 => False.elim (by omega)) (fun q11 => ?_)
      refine hpa_aload_n (by rfl) rfl ?_
      refine hpa_iconst (by rfl) rfl ?_
      refine hpa_call0 (by rfl) (by rfl) (by rfl) (by rfl) (by rfl) (by rfl) (hP40 hT (Int32.ofNat 5) BA5 RA5 (by decide) hk_5) ?_
      rintro _ A12 ⟨rfl, B_A12, R_A12, L_A12, N_A12⟩
      refine hpa_aload_n (by rfl) rfl ?_
      refine hpa_call0 (by rfl) (by rfl) (by rfl) (by rfl) (by rfl) (by rfl) (hP41 hT B_A12 R_A12 (hd.trans (hq_must_ok (by omega)))) ?_
      rintro _ A13 ⟨z14, rfl, (⟨fz_A13, B_A13, R_A13, G_A13, N_A13⟩ | ⟨fz_A13, F_A13⟩)⟩
      ·
        exact hpa_ireturn (by rfl) (hn_fitB (by omega) (by omega)) (hP _ _ ⟨_, rfl, Or.inl ⟨fz_A13, B_A13, by rw [hrg]; exact R_A13, G_A13, by rw [N_A13, N_A12, eA5, hup1]; exact hval, by omega⟩⟩)
      ·
        exact hpa_ireturn (by rfl) (hn_fitB (by omega) (by omega)) (hP _ _ ⟨_, rfl, Or.inr ⟨fz_A13, F_A13⟩⟩)
  ·
    refine hpa_aload_n (by rfl) rfl ?_
    refine hpa_iconst (by rfl) rfl ?_
    refine hpa_call0 (by rfl) (by rfl) (by rfl) (by rfl) (by rfl) (by rfl) (hP39 hT (Int32.ofNat 1) hB ⟨s, hqq, hd.trans (hq_must_no (by omega))⟩ (by decide) hk_1) ?_
    rintro _ A15 ⟨z16, rfl, fz_A15, F_A15⟩
    exact hpa_ireturn (by rfl) (hn_fitB (by omega) (by omega)) (hP _ _ ⟨_, rfl, Or.inr ⟨fz_A15, F_A15⟩⟩)
theorem hP43 {g d : Nat} {A : hs_A} {K V S : Nat → Int} {E : Nat → Nat → Bool} {T : Nat} {t : Nat} {s s' : hq_S} {ns : List Nat} {p : Option Nat} {sn : Nat} {o : Option (Nat × Nat)} {dd : hg_D} {fl : hg_C} {zz : Nat} {lo hi : Int} (hT : hTT T) (a1 a2 : Int32) (ha1 : a1.toInt = lo) (ha2 : a2.toInt = hi) (hB : hcB K V S E T A t s) (hR : hcR2 V S T A ns p sn o dd fl zz) (hd : hq_dl K V E t s = hq_must K 21 t s') : hpC g d 43 hm_m43 [.ref 21, .int a1, .int a2] A (fun r A' => ∃ z : Int32, r = some (.int z) ∧ ((z.toInt = 1 ∧ hcB K V S E T A' (t + 1) s' ∧ hcR2 V S T A' ns p sn (hq_rng V lo hi t o) dd fl zz ∧ hg_q K V E (t + 1) = hg_dl K V t s (hg_q K V E t) ∧ (A'.1 20 4).toInt = V t ∧ K t = 21) ∨ (z.toInt = 0 ∧ hcF K V S E T A'))) := hpC.all (fun f d => hW43 hT a1 a2 ha1 ha2 hB hR hd (fun r A' h => h))
theorem hW55 {g d f : Nat} {A : hs_A} {K V S : Nat → Int} {E : Nat → Nat → Bool} {T : Nat} {t : Nat} {s : hq_S} {ns : List Nat} {sn : Nat} {o : Option (Nat × Nat)} {dd : hg_D} {fl : hg_C} {zz : Nat} {u : Nat} (hT : hTT T) (a1 a2 : Int32) (hB : hcB K V S E T A t s) (hR : hcR2 V S T A ns (some u) sn o dd fl zz) (hl : ns.length < 10) (h1 : a1.toInt = V (u + 1)) (h2 : a2.toInt = V (u + 2)) {P : Option Value → hs_A → Prop} (hP : ∀ (r : Option Value) (A' : hs_A), (r = none ∧ (hcB K V S E T A' t s ∧ hcR2 V S T A' (u :: ns) none sn o dd fl zz)) → P r A') : hpa (f, g) d none hm_t55 0 [.ref (T + 1), .int a1, .int a2] [] A P := by
  have k1 := hk_1
  have k10 := hk_10
  have hT9 : T ≤ 11 := by rcases hT with rfl | rfl <;> omega
  have hl4 := hR.1
  refine hpa_aload_n (by rfl) rfl ?_
  refine hpj_getK (by rfl) (hsT hT) (by rfl) rfl ?_
  refine hpa_bipush (by rfl) rfl ?_
  refine hpj_cge (by rfl) rfl hk_10 (fun q1 => False.elim (by omega)) (fun q1 => ?_)
  refine hpa_aload_n (by rfl) rfl ?_
  refine hpa_get (v := .ref (T + 2)) (by rfl) (hsT hT) (by rfl) (hvT hT (by omega)) ?_
  refine hpa_aload_n (by rfl) rfl ?_
  refine hpj_getK (by rfl) (hsT hT) (by rfl) rfl ?_
  refine hpa_iload_n (by rfl) rfl ?_
  refine hpx_iast (by rfl) (hsT1 hT) (fun A2 h0A2 h1A2 eA2 fA2 gA2 => ?_)
  refine hpa_aload_n (by rfl) rfl ?_
  refine hpa_get (v := .ref (T + 3)) (by rfl) (hsT hT) (by rfl) (hvT hT (by omega)) ?_
  refine hpa_aload_n (by rfl) rfl ?_
  refine hpj_getK (by rfl) (hsT hT) (by rfl) (hkA eA2 rfl) ?_
  refine hpa_iload_n (by rfl) rfl ?_
  refine hpx_iast (by rfl) (hsT2 hT) (fun A3 h0A3 h1A3 eA3 fA3 gA3 => ?_)
  refine hpa_aload_n (by rfl) rfl ?_
  refine hpa_dupR (by rfl) ?_
  refine hpj_getK (by rfl) (hsT hT) (by rfl) (hkA eA3 (hkA eA2 rfl)) ?_
  refine hpa_iconst (by rfl) rfl ?_
  refine hpj_iadd (by rfl) rfl hk_1 (by omega) (by omega) (fun z4 ez4 => ?_)
  refine hpj_putI (by rfl) (hsT hT) (by rfl) (by rfl) (fun A5 eA5 fA5 => ?_)
  have hj : (A.1 T 4).toNatClampNeg = ns.length := by have := hn_cn (j := A.1 T 4) (by omega); omega
  exact hpa_return (by rfl) rfl (hP _ _ ⟨rfl, ((hB.ar eA2 fA2 gA2 (by omega)).ar eA3 fA3 gA3 (by omega)).up eA5 fA5 (by omega) (by omega) (by omega), .of (((hR.r.ar eA2 fA2 gA2).ar eA3 fA3 gA3).house hT9 eA5 fA5 (by omega)) (hR.m.house hj eA2 fA2 eA3 fA3 eA5 fA5 h1 h2)⟩)
theorem hP55 {g d : Nat} {A : hs_A} {K V S : Nat → Int} {E : Nat → Nat → Bool} {T : Nat} {t : Nat} {s : hq_S} {ns : List Nat} {sn : Nat} {o : Option (Nat × Nat)} {dd : hg_D} {fl : hg_C} {zz : Nat} {u : Nat} (hT : hTT T) (a1 a2 : Int32) (hB : hcB K V S E T A t s) (hR : hcR2 V S T A ns (some u) sn o dd fl zz) (hl : ns.length < 10) (h1 : a1.toInt = V (u + 1)) (h2 : a2.toInt = V (u + 2)) : hpC g d 55 hm_m55 [.ref (T + 1), .int a1, .int a2] A (fun r A' => r = none ∧ (hcB K V S E T A' t s ∧ hcR2 V S T A' (u :: ns) none sn o dd fl zz)) := hpC.all (fun f d => hW55 hT a1 a2 hB hR hl h1 h2 (fun r A' h => h))
theorem hW56 {g d f : Nat} {A : hs_A} {K V S : Nat → Int} {E : Nat → Nat → Bool} {T : Nat} {t : Nat} {s : hq_S} {ns : List Nat} {p : Option Nat} {sn : Nat} {o : Option (Nat × Nat)} {dd : hg_D} {fl : hg_C} {zz : Nat} {b c : Int} (hT : hTT T) (a1 a2 : Int32) (hB : hcB K V S E T A t s) (hR : hcR2 V S T A ns p sn o dd fl zz) (hl : sn < 9) (h1 : a1.toInt = b) (h2 : a2.toInt = c) {P : Option Value → hs_A → Prop} (hP : ∀ (r : Option Value) (A' : hs_A), (r = none ∧ (hcB K V S E T A' t s ∧ hcR2 V S T A' ns p (sn + 1) o (fun h => if (h : Int) = b then c else dd.1 h, dd.2) fl zz)) → P r A') : hpa (f, g) d none hm_t56 0 [.ref (T + 1), .int a1, .int a2] [] A P := by
  have k0 := hk_0
  have k1 := hk_1
  have k23 := hk_23
  have hT9 : T ≤ 11 := by rcases hT with rfl | rfl <;> omega
  have hl4 := hR.2.1
  refine hpa_iload_n (by rfl) rfl ?_
  refine hpa_iconst (by rfl) rfl ?_
  refine hpa_bipush (by rfl) rfl ?_
  refine hpa_call2 (by rfl) (by decide) (by rfl) (by rfl) (by rfl) (hP78 a1 (Int32.ofNat 0) (Int32.ofNat 23)) ?_
  rintro _ _ ⟨rfl, z2, rfl, (⟨fz_A1, lo_A1, hi_A1⟩ | ⟨fz_A1, no_A1⟩)⟩
  ·
    refine hpj_zeq (by rfl) rfl (fun q3 => False.elim (by omega)) (fun q3 => ?_)
    refine hpa_aload_n (by rfl) rfl ?_
    refine hpa_get (v := .ref (T + 4)) (by rfl) (hsT hT) (by rfl) (hvT hT (by omega)) ?_
    refine hpa_iload_n (by rfl) rfl ?_
    refine hpa_iload_n (by rfl) rfl ?_
    refine hpx_iast (by rfl) (hsT3 hT) (fun A4 h0A4 h1A4 eA4 fA4 gA4 => ?_)
    refine hpa_aload_n (by rfl) rfl ?_
    refine hpa_dupR (by rfl) ?_
    refine hpj_getK (by rfl) (hsT hT) (by rfl) (hkA eA4 rfl) ?_
    refine hpa_iconst (by rfl) rfl ?_
    refine hpj_iadd (by rfl) rfl hk_1 (by omega) (by omega) (fun z5 ez5 => ?_)
    refine hpj_putI (by rfl) (hsT hT) (by rfl) (by rfl) (fun A6 eA6 fA6 => ?_)
    have hj := hn_cn (j := a1) (by omega)
    exact hpa_return (by rfl) rfl (hP _ _ ⟨rfl, (hB.ar eA4 fA4 gA4 (by omega)).up eA6 fA6 (by omega) (by omega) (by omega), .of ((hR.r.ar eA4 fA4 gA4).send hT9 eA6 fA6 (by omega)) (hR.m.sendY (j := a1.toNatClampNeg) (by omega) eA4 fA4 h2 eA6 fA6)⟩)
  ·
    refine hpj_zeq (by rfl) rfl (fun q7 => ?_) (fun q7 => False.elim (by omega))
    refine hpa_aload_n (by rfl) rfl ?_
    refine hpa_dupR (by rfl) ?_
    refine hpj_getK (by rfl) (hsT hT) (by rfl) rfl ?_
    refine hpa_iconst (by rfl) rfl ?_
    refine hpj_iadd (by rfl) rfl hk_1 (by omega) (by omega) (fun z8 ez8 => ?_)
    refine hpj_putI (by rfl) (hsT hT) (by rfl) (by rfl) (fun A9 eA9 fA9 => ?_)
    exact hpa_return (by rfl) rfl (hP _ _ ⟨rfl, hB.up eA9 fA9 (by omega) (by omega) (by omega), .of (hR.r.send hT9 eA9 fA9 (by omega)) (hR.m.sendN (by omega) eA9 fA9)⟩)
theorem hP56 {g d : Nat} {A : hs_A} {K V S : Nat → Int} {E : Nat → Nat → Bool} {T : Nat} {t : Nat} {s : hq_S} {ns : List Nat} {p : Option Nat} {sn : Nat} {o : Option (Nat × Nat)} {dd : hg_D} {fl : hg_C} {zz : Nat} {b c : Int} (hT : hTT T) (a1 a2 : Int32) (hB : hcB K V S E T A t s) (hR : hcR2 V S T A ns p sn o dd fl zz) (hl : sn < 9) (h1 : a1.toInt = b) (h2 : a2.toInt = c) : hpC g d 56 hm_m56 [.ref (T + 1), .int a1, .int a2] A (fun r A' => r = none ∧ (hcB K V S E T A' t s ∧ hcR2 V S T A' ns p (sn + 1) o (fun h => if (h : Int) = b then c else dd.1 h, dd.2) fl zz)) := hpC.all (fun f d => hW56 hT a1 a2 hB hR hl h1 h2 (fun r A' h => h))
theorem hW9 {g d f : Nat} {A : hs_A} {ns : List Nat} {p : Option Nat} {sn : Nat} {o : Option (Nat × Nat)} {V S : Nat → Int} {dd : hg_D} {zz : Nat} {T : Nat} (hT : hTT T) (hR : hcR2 V S T A ns p sn o dd [] zz) {P : Option Value → hs_A → Prop} (hP : ∀ (r : Option Value) (A' : hs_A), (∃ z : Int32, r = some (.int z) ∧ hcW T A A' ∧ z.toInt = (zz : Int) ∧ hcR2 V S T A' ns p sn o dd [] zz) → P r A') : hpa (f, g) d (some (.int)) hm_t9 0 [.ref (T + 5)] [] A P := by
  have k0 := hk_0
  have hT9 : T ≤ 11 := by rcases hT with rfl | rfl <;> omega
  refine hpa_aload_n (by rfl) rfl ?_
  refine hpa_iconst (by rfl) rfl ?_
  refine hpj_putI (by rfl) (hsT4 hT) (by rfl) (by rfl) (fun A1 eA1 fA1 => ?_)
  have WA1 := hcW.f (k := 5) hcW.rfl (T := T) (A := A) eA1 fA1
  refine hpa_aload_n (by rfl) rfl ?_
  refine hpj_getK (by rfl) (hsT4 hT) (by rfl) (hkF eA1 (by omega) rfl) ?_
  exact hpa_ireturn (by rfl) rfl (hP _ _ ⟨_, rfl, WA1, hR.m.1.1, hR.W0 hT9 WA1 (hR.m.start eA1 fA1)⟩)
theorem hP9 {g d : Nat} {A : hs_A} {ns : List Nat} {p : Option Nat} {sn : Nat} {o : Option (Nat × Nat)} {V S : Nat → Int} {dd : hg_D} {zz : Nat} {T : Nat} (hT : hTT T) (hR : hcR2 V S T A ns p sn o dd [] zz) : hpC g d 9 hm_m9 [.ref (T + 5)] A (fun r A' => ∃ z : Int32, r = some (.int z) ∧ hcW T A A' ∧ z.toInt = (zz : Int) ∧ hcR2 V S T A' ns p sn o dd [] zz) := hpC.all (fun f d => hW9 hT hR (fun r A' h => h))
theorem hW10 {g d f : Nat} {A : hs_A} {ns : List Nat} {p : Option Nat} {sn : Nat} {o : Option (Nat × Nat)} {V S : Nat → Int} {dd : hg_D} {zz : Nat} {T : Nat} {s q : Nat} {l : hg_L} (hT : hTT T) (a1 a2 : Int32) (hR : hcR2 V S T A ns p sn o dd (hg_law s l) zz) (hs : s + (hg_law s l).length = zz) (hq : q < 4) (h1 : a1.toInt = (q : Int)) (h2 : a2.toInt = (s : Int)) {P : Option Value → hs_A → Prop} (hP : ∀ (r : Option Value) (A' : hs_A), (r = none ∧ (hcW T A A' ∧ hcR2 V S T A' ns p sn o (dd.1, dd.2.1, dd.2.2.1, fun k => if k = q then l else dd.2.2.2 k) [] zz)) → P r A') : hpa (f, g) d none hm_t10 0 [.ref (T + 5), .int a1, .int a2] [] A P := by
  have hT9 : T ≤ 11 := by rcases hT with rfl | rfl <;> omega
  have hiq : a1.toNatClampNeg = q := by have := hn_cn (j := a1) (by omega); omega
  refine hpa_aload_n (by rfl) rfl ?_
  refine hpa_get (v := .ref (T + 7)) (by rfl) (hsT4 hT) (by rfl) (hvT hT (by omega)) ?_
  refine hpa_iload_n (by rfl) rfl ?_
  refine hpa_iload_n (by rfl) rfl ?_
  refine hpx_iast (by rfl) (hsT6 hT) (fun A1 h0A1 h1A1 eA1 fA1 gA1 => ?_)
  have WA1 := (hcW.rfl (T := T) (A := A)).a eA1 fA1 gA1 (by omega)
  refine hpa_aload_n (by rfl) rfl ?_
  refine hpa_get (v := .ref (T + 8)) (by rfl) (hsT4 hT) (by rfl) (hvT hT (by omega)) ?_
  refine hpa_iload_n (by rfl) rfl ?_
  refine hpa_aload_n (by rfl) rfl ?_
  refine hpj_getK (by rfl) (hsT4 hT) (by rfl) (hkA eA1 rfl) ?_
  refine hpx_iast (by rfl) (hsT7 hT) (fun A2 h0A2 h1A2 eA2 fA2 gA2 => ?_)
  have WA2 := (WA1).a eA2 fA2 gA2 (by omega)
  rw [hiq] at fA1 fA2
  exact hpa_return (by rfl) rfl (hP _ _ ⟨rfl, WA2, hR.W0 hT9 WA2 (hR.m.put hs hq h2 eA1 fA1 eA2 fA2)⟩)
theorem hP10 {g d : Nat} {A : hs_A} {ns : List Nat} {p : Option Nat} {sn : Nat} {o : Option (Nat × Nat)} {V S : Nat → Int} {dd : hg_D} {zz : Nat} {T : Nat} {s q : Nat} {l : hg_L} (hT : hTT T) (a1 a2 : Int32) (hR : hcR2 V S T A ns p sn o dd (hg_law s l) zz) (hs : s + (hg_law s l).length = zz) (hq : q < 4) (h1 : a1.toInt = (q : Int)) (h2 : a2.toInt = (s : Int)) : hpC g d 10 hm_m10 [.ref (T + 5), .int a1, .int a2] A (fun r A' => r = none ∧ (hcW T A A' ∧ hcR2 V S T A' ns p sn o (dd.1, dd.2.1, dd.2.2.1, fun k => if k = q then l else dd.2.2.2 k) [] zz)) := hpC.all (fun f d => hW10 hT a1 a2 hR hs hq h1 h2 (fun r A' h => h))
theorem hW12 {g d f : Nat} {A : hs_A} {ns : List Nat} {p : Option Nat} {sn : Nat} {o : Option (Nat × Nat)} {V S : Nat → Int} {dd : hg_D} {fl : hg_C} {zz : Nat} {T : Nat} {k : Nat} {v : Int} (hT : hTT T) (a1 a2 : Int32) (hR : hcR2 V S T A ns p sn o dd fl zz) (h1 : a1.toInt = (k : Int)) (h2 : a2.toInt = v) (hk8 : k < 8) (hv0 : 0 ≤ v) (hv1 : v < 134217728) (hk1 : k = 1 → v ≤ 8) (hz : zz < 408) {P : Option Value → hs_A → Prop} (hP : ∀ (r : Option Value) (A' : hs_A), (∃ z : Int32, r = some (.int z) ∧ hcW T A A' ∧ z.toInt = (zz : Int) ∧ hcR2 V S T A' ns p sn o dd (fl ++ [(k, v)]) (zz + 1)) → P r A') : hpa (f, g) d (some (.int)) hm_t12 0 [.ref (T + 5), .int a1, .int a2] [] A P := by
  have k1 := hk_1
  have k3 := hk_3
  have k408 := hk_408
  have hT9 : T ≤ 11 := by rcases hT with rfl | rfl <;> omega
  have hzz := hR.m.1.1
  have hzi : (A.1 (T + 4) 4).toNatClampNeg = zz := by have := hn_cn (j := A.1 (T + 4) 4) (by omega); omega
  refine hpa_iload_n (by rfl) rfl ?_
  refine hpa_iconst (by rfl) rfl ?_
  refine hpj_cne (by rfl) rfl hk_1 (fun q1 => ?_) (fun q1 => ?_)
  ·
    refine hpa_aload_n (by rfl) rfl ?_
    refine hpj_getK (by rfl) (hsT4 hT) (by rfl) rfl ?_
    refine hpa_sipush (by rfl) rfl ?_
    refine hpj_cge (by rfl) rfl hk_408 (fun q2 => False.elim (by omega)) (fun q2 => ?_)
    refine hpa_aload_n (by rfl) rfl ?_
    refine hpa_get (v := .ref (T + 6)) (by rfl) (hsT4 hT) (by rfl) (hvT hT (by omega)) ?_
    refine hpa_aload_n (by rfl) rfl ?_
    refine hpj_getK (by rfl) (hsT4 hT) (by rfl) rfl ?_
    refine hpa_iload_n (by rfl) rfl ?_
    refine hpa_iconst (by rfl) rfl ?_
    refine hpa_ishl (by rfl) ?_
    refine hpa_iload_n (by rfl) rfl ?_
    refine hpa_ior (by rfl) ?_
    refine hpx_iast (by rfl) (hsT5 hT) (fun A3 h0A3 h1A3 eA3 fA3 gA3 => ?_)
    have WA3 := (hcW.rfl (T := T) (A := A)).a eA3 fA3 gA3 (by omega)
    rw [hzi] at fA3
    refine hpa_aload_n (by rfl) rfl ?_
    refine hpa_dupR (by rfl) ?_
    refine hpj_getK (by rfl) (hsT4 hT) (by rfl) (hkA eA3 rfl) ?_
    refine hpa_iconst (by rfl) rfl ?_
    refine hpj_iadd (by rfl) rfl hk_1 (by omega) (by omega) (fun z4 ez4 => ?_)
    refine hpj_putI (by rfl) (hsT4 hT) (by rfl) (by rfl) (fun A5 eA5 fA5 => ?_)
    have WA5 := hcW.f (k := 4) WA3 eA5 fA5
    refine hpa_aload_n (by rfl) rfl ?_
    refine hpj_getK (by rfl) (hsT4 hT) (by rfl) (hkS eA5) ?_
    refine hpa_iconst (by rfl) rfl ?_
    refine hpj_isub (by rfl) rfl hk_1 (by omega) (by omega) (fun z6 ez6 => ?_)
    exact hpa_ireturn (by rfl) rfl (hP _ _ ⟨_, rfl, WA5, by omega, hR.addN hT9 (by omega) eA3 fA3 gA3 eA5 fA5 (hg_k8 h2 h1 hv0 hv1 hk8) (by omega)⟩)
  ·
    refine hpa_aload_n (by rfl) rfl ?_
    refine hpa_dupR (by rfl) ?_
    refine hpj_getK (by rfl) (hsT4 hT) (by rfl) rfl ?_
    refine hpa_iconst (by rfl) rfl ?_
    refine hpa_iload_n (by rfl) rfl ?_
    refine hpa_ishl (by rfl) ?_
    refine hpa_ior (by rfl) ?_
    refine hpj_putI (by rfl) (hsT4 hT) (by rfl) (by rfl) (fun A7 eA7 fA7 => ?_)
    have WA7 := hcW.f (k := 5) hcW.rfl (T := T) (A := A) eA7 fA7
    refine hpa_aload_n (by rfl) rfl ?_
    refine hpj_getK (by rfl) (hsT4 hT) (by rfl) (hkF eA7 (by omega) rfl) ?_
    refine hpa_sipush (by rfl) rfl ?_
    refine hpj_cge (by rfl) rfl hk_408 (fun q8 => False.elim (by omega)) (fun q8 => ?_)
    refine hpa_aload_n (by rfl) rfl ?_
    refine hpa_get (v := .ref (T + 6)) (by rfl) (hsT4 hT) (by rfl) (hvT hT (by omega)) ?_
    refine hpa_aload_n (by rfl) rfl ?_
    refine hpj_getK (by rfl) (hsT4 hT) (by rfl) (hkF eA7 (by omega) rfl) ?_
    refine hpa_iload_n (by rfl) rfl ?_
    refine hpa_iconst (by rfl) rfl ?_
    refine hpa_ishl (by rfl) ?_
    refine hpa_iload_n (by rfl) rfl ?_
    refine hpa_ior (by rfl) ?_
    refine hpx_iast (by rfl) (hsT5 hT) (fun A9 h0A9 h1A9 eA9 fA9 gA9 => ?_)
    have WA9 := (WA7).a eA9 fA9 gA9 (by omega)
    rw [hzi] at fA9
    refine hpa_aload_n (by rfl) rfl ?_
    refine hpa_dupR (by rfl) ?_
    refine hpj_getK (by rfl) (hsT4 hT) (by rfl) (hkA eA9 (hkF eA7 (by omega) rfl)) ?_
    refine hpa_iconst (by rfl) rfl ?_
    refine hpj_iadd (by rfl) rfl hk_1 (by omega) (by omega) (fun z10 ez10 => ?_)
    refine hpj_putI (by rfl) (hsT4 hT) (by rfl) (by rfl) (fun A11 eA11 fA11 => ?_)
    have WA11 := hcW.f (k := 4) WA9 eA11 fA11
    refine hpa_aload_n (by rfl) rfl ?_
    refine hpj_getK (by rfl) (hsT4 hT) (by rfl) (hkS eA11) ?_
    refine hpa_iconst (by rfl) rfl ?_
    refine hpj_isub (by rfl) rfl hk_1 (by omega) (by omega) (fun z12 ez12 => ?_)
    obtain rfl : k = 1 := by omega
    exact hpa_ireturn (by rfl) rfl (hP _ _ ⟨_, rfl, WA11, by omega, hR.addV hT9 h2 hv0 (hk1 rfl) eA7 fA7 eA9 fA9 gA9 eA11 fA11 (hg_k8 h2 h1 hv0 hv1 hk8) (by omega)⟩)
theorem hP12 {g d : Nat} {A : hs_A} {ns : List Nat} {p : Option Nat} {sn : Nat} {o : Option (Nat × Nat)} {V S : Nat → Int} {dd : hg_D} {fl : hg_C} {zz : Nat} {T : Nat} {k : Nat} {v : Int} (hT : hTT T) (a1 a2 : Int32) (hR : hcR2 V S T A ns p sn o dd fl zz) (h1 : a1.toInt = (k : Int)) (h2 : a2.toInt = v) (hk8 : k < 8) (hv0 : 0 ≤ v) (hv1 : v < 134217728) (hk1 : k = 1 → v ≤ 8) (hz : zz < 408) : hpC g d 12 hm_m12 [.ref (T + 5), .int a1, .int a2] A (fun r A' => ∃ z : Int32, r = some (.int z) ∧ hcW T A A' ∧ z.toInt = (zz : Int) ∧ hcR2 V S T A' ns p sn o dd (fl ++ [(k, v)]) (zz + 1)) := hpC.all (fun f d => hW12 hT a1 a2 hR h1 h2 hk8 hv0 hv1 hk1 hz (fun r A' h => h))
theorem hW13 {g d f : Nat} {A : hs_A} {ns : List Nat} {p : Option Nat} {sn : Nat} {o : Option (Nat × Nat)} {V S : Nat → Int} {dd : hg_D} {zz : Nat} {T : Nat} {l1 l2 : hg_C} {v : Int} {j : Nat} (hT : hTT T) (a1 : Int32) (hR : hcR2 V S T A ns p sn o dd (l1 ++ (6, v) :: l2) zz) (h1 : a1.toInt = (j : Int)) (hj : j + (l2.length + 1) = zz) (hz : zz < 1000) {P : Option Value → hs_A → Prop} (hP : ∀ (r : Option Value) (A' : hs_A), (r = none ∧ (hcW T A A' ∧ hcR2 V S T A' ns p sn o dd (l1 ++ (6, (zz : Int)) :: l2) zz)) → P r A') : hpa (f, g) d none hm_t13 0 [.ref (T + 5), .int a1] [] A P := by
  have k3 := hk_3
  have k6 := hk_6
  have hT9 : T ≤ 11 := by rcases hT with rfl | rfl <;> omega
  have hzz := hR.m.1.1
  have hij : a1.toNatClampNeg = j := by have := hn_cn (j := a1) (by omega); omega
  refine hpa_iload_n (by rfl) rfl ?_
  refine hpj_zlt (by rfl) rfl (fun q1 => False.elim (by omega)) (fun q1 => ?_)
  refine hpa_iload_n (by rfl) rfl ?_
  refine hpa_aload_n (by rfl) rfl ?_
  refine hpj_getK (by rfl) (hsT4 hT) (by rfl) rfl ?_
  refine hpj_cge (by rfl) rfl rfl (fun q2 => False.elim (by omega)) (fun q2 => ?_)
  refine hpa_aload_n (by rfl) rfl ?_
  refine hpa_get (v := .ref (T + 6)) (by rfl) (hsT4 hT) (by rfl) (hvT hT (by omega)) ?_
  refine hpa_iload_n (by rfl) rfl ?_
  refine hpa_aload_n (by rfl) rfl ?_
  refine hpj_getK (by rfl) (hsT4 hT) (by rfl) rfl ?_
  refine hpa_iconst (by rfl) rfl ?_
  refine hpa_ishl (by rfl) ?_
  refine hpa_bipush (by rfl) rfl ?_
  refine hpa_ior (by rfl) ?_
  refine hpx_iast (by rfl) (hsT5 hT) (fun A3 h0A3 h1A3 eA3 fA3 gA3 => ?_)
  have WA3 := (hcW.rfl (T := T) (A := A)).a eA3 fA3 gA3 (by omega)
  rw [hij] at fA3
  exact hpa_return (by rfl) rfl (hP _ _ ⟨rfl, WA3, hR.W0 hT9 WA3 (hR.m.land hj (hg_k8 (k := 6) (hzz) hk_6 (by omega) (by omega) (by omega)) eA3 fA3)⟩)
theorem hP13 {g d : Nat} {A : hs_A} {ns : List Nat} {p : Option Nat} {sn : Nat} {o : Option (Nat × Nat)} {V S : Nat → Int} {dd : hg_D} {zz : Nat} {T : Nat} {l1 l2 : hg_C} {v : Int} {j : Nat} (hT : hTT T) (a1 : Int32) (hR : hcR2 V S T A ns p sn o dd (l1 ++ (6, v) :: l2) zz) (h1 : a1.toInt = (j : Int)) (hj : j + (l2.length + 1) = zz) (hz : zz < 1000) : hpC g d 13 hm_m13 [.ref (T + 5), .int a1] A (fun r A' => r = none ∧ (hcW T A A' ∧ hcR2 V S T A' ns p sn o dd (l1 ++ (6, (zz : Int)) :: l2) zz)) := hpC.all (fun f d => hW13 hT a1 hR h1 hj hz (fun r A' h => h))
