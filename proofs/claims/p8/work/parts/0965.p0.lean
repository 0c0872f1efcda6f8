/-! WHAT HOLDS IF A METHOD ENDS (no bounds, no rank is asked for): hpa at a place in a method, hpC of a method; fg = (fuel of the frame, fuel of the calls) -/
def hy (fg : Nat × Nat) (d : Nat) (ret : Option FieldType) (tb : hc_K) (pc : Nat) (l st : List Value) (h : hc_H) (P : Option Value → hc_H → Prop) : Prop :=
  ∀ f, f ≤ fg.1 → ∀ R, hc_run (0, fun _ => none) hm_pg (hx_call fg.2 d) ret tb f (pc, l, st, hs_n, h, 0, 0) = some R → ∃ (r : Option Value) (h' : hc_H), R = (r, hs_n, h', 0, 0) ∧ P r h'
theorem hy_stepS {f g : Nat} {d : Nat} {ret : Option FieldType} {tb : hc_K} {pc : Nat} {l st : List Value} {h : hc_H} {P : Option Value → hc_H → Prop} {pc' : Nat} {l' st' : List Value} {h' : hc_H} (hs : hc_step1 (0, fun _ => none) hm_pg (hx_call g d) ret tb (pc, l, st, hs_n, h, 0, 0) = some (.inl (pc', l', st', hs_n, h', 0, 0))) (k : hy (f, g) d ret tb pc' l' st' h' P) : hy (f + 1, g) d ret tb pc l st h P := by
  intro f1 hf1 R hR
  match f1, hf1, hR with
  | 0, _, hR => cases hR
  | f1 + 1, hf1, hR =>
    have e : (match hc_step1 (0, fun _ => none) hm_pg (hx_call g d) ret tb (pc, l, st, hs_n, h, 0, 0) with
      | none => none
      | some (.inl S') => hc_run (0, fun _ => none) hm_pg (hx_call g d) ret tb f1 S'
      | some (.inr r) => some (r, hs_n, h, 0, 0)) = some R := hR
    rw [hs] at e
    exact k f1 (Nat.le_of_succ_le_succ hf1) R e
theorem hy_mono {f f' g : Nat} {d : Nat} {ret : Option FieldType} {tb : hc_K} {pc : Nat} {l st : List Value} {h : hc_H} {P : Option Value → hc_H → Prop} (hf : f ≤ f') (k : hy (f', g) d ret tb pc l st h P) : hy (f, g) d ret tb pc l st h P := fun f1 h1 => k f1 (Nat.le_trans h1 hf)
theorem hy_stepG {fg : Nat × Nat} {d : Nat} {ret : Option FieldType} {tb : hc_K} {pc : Nat} {l st : List Value} {h : hc_H} {P : Option Value → hc_H → Prop} {pc' : Nat} {l' st' : List Value} {h' : hc_H} (hs : hc_step1 (0, fun _ => none) hm_pg (hx_call fg.2 d) ret tb (pc, l, st, hs_n, h, 0, 0) = some (.inl (pc', l', st', hs_n, h', 0, 0))) (k : hy fg d ret tb pc' l' st' h' P) : hy fg d ret tb pc l st h P := hy_mono (Nat.le_succ fg.1) (hy_stepS hs k)
theorem hy_step {fg : Nat × Nat} {d : Nat} {ret : Option FieldType} {tb : hc_K} {pc : Nat} {l st : List Value} {h : hc_H} {P : Option Value → hc_H → Prop} {pc' : Nat} {l' st' : List Value} {h' : hc_H} (hs : ∀ g, 0 ≤ g → hc_step1 (0, fun _ => none) hm_pg (hx_call g d) ret tb (pc, l, st, hs_n, h, 0, 0) = some (.inl (pc', l', st', hs_n, h', 0, 0))) (k : hy fg d ret tb pc' l' st' h' P) : hy fg d ret tb pc l st h P := hy_stepG (hs _ (Nat.zero_le _)) k
theorem hy_none {fg : Nat × Nat} {d : Nat} {ret : Option FieldType} {tb : hc_K} {pc : Nat} {l st : List Value} {h : hc_H} {P : Option Value → hc_H → Prop} (hs : hc_step1 (0, fun _ => none) hm_pg (hx_call fg.2 d) ret tb (pc, l, st, hs_n, h, 0, 0) = none) : hy fg d ret tb pc l st h P := by
  intro f1 hf1 R hR
  match f1, hR with
  | 0, hR => cases hR
  | f1 + 1, hR =>
    have e : (match hc_step1 (0, fun _ => none) hm_pg (hx_call fg.2 d) ret tb (pc, l, st, hs_n, h, 0, 0) with
      | none => none
      | some (.inl S') => hc_run (0, fun _ => none) hm_pg (hx_call fg.2 d) ret tb f1 S'
      | some (.inr r) => some (r, hs_n, h, 0, 0)) = some R := hR
    rw [hs] at e
    cases e
theorem hy_ret {fg : Nat × Nat} {d : Nat} {ret : Option FieldType} {tb : hc_K} {pc : Nat} {l st : List Value} {h : hc_H} {P : Option Value → hc_H → Prop} {r : Option Value} (hs : ∀ g, hc_step1 (0, fun _ => none) hm_pg (hx_call g d) ret tb (pc, l, st, hs_n, h, 0, 0) = some (.inr r)) (hP : P r h) : hy fg d ret tb pc l st h P := by
  intro f1 hf1 R hR
  match f1, hR with
  | 0, hR => cases hR
  | f1 + 1, hR =>
    have e : (match hc_step1 (0, fun _ => none) hm_pg (hx_call fg.2 d) ret tb (pc, l, st, hs_n, h, 0, 0) with
      | none => none
      | some (.inl S') => hc_run (0, fun _ => none) hm_pg (hx_call fg.2 d) ret tb f1 S'
      | some (.inr r) => some (r, hs_n, h, 0, 0)) = some R := hR
    rw [hs] at e
    cases e
    exact ⟨_, _, rfl, hP⟩
def hpa (fg : Nat × Nat) (d : Nat) (ret : Option FieldType) (tb : hc_K) (pc : Nat) (l st : List Value) (A : hs_A) (P : Option Value → hs_A → Prop) : Prop := ∀ h, hs_Rep h A → hy fg d ret tb pc l st h (fun r h' => ∃ A', hs_Rep h' A' ∧ P r A')
def hpC (g d k : Nat) (e : hc_M) (as : List Value) (A : hs_A) (P : Option Value → hs_A → Prop) : Prop := ∀ h, hs_Rep h A → ∀ R, hx_call g d k e as hs_n h = some R → ∃ (r : Option Value) (h' : hc_H), R = (r, hs_n, h', 0, 0) ∧ ∃ A', hs_Rep h' A' ∧ P r A'
theorem hpC.zero {g k : Nat} {e : hc_M} {as : List Value} {A : hs_A} {P : Option Value → hs_A → Prop} : hpC g 0 k e as A P := fun h hR R hc => by cases hc
theorem hpC.of {g d k : Nat} {e : hc_M} {as : List Value} {A : hs_A} {P : Option Value → hs_A → Prop} (w : ∀ f, hpa (f, g) d e.2.2.2.1 e.2.2.2.2.2.2 0 (hc_ent as e.2.2.1) [] A P) : hpC g (d + 1) k e as A P := by
  intro h hR R hc
  have e1 : (match Nat.ble (hc_cat as) e.2.2.1 with
    | false => none
    | true => hc_run (0, fun _ => none) hm_pg (hx_call g d) e.2.2.2.1 e.2.2.2.2.2.2 g (0, hc_ent as e.2.2.1, [], hs_n, h, 0, 0)) = some R := hc
  cases hb : Nat.ble (hc_cat as) e.2.2.1 with
  | false => rw [hb] at e1; cases e1
  | true =>
    rw [hb] at e1
    exact w g h hR g (Nat.le_refl _) R e1
theorem hpC.all {g d k : Nat} {e : hc_M} {as : List Value} {A : hs_A} {P : Option Value → hs_A → Prop} (w : ∀ f d, hpa (f, g) d e.2.2.2.1 e.2.2.2.2.2.2 0 (hc_ent as e.2.2.1) [] A P) : hpC g d k e as A P := by
  cases d with
  | zero => exact hpC.zero
  | succ d => exact hpC.of (fun f => w f d)
theorem hpC.imp {g d k : Nat} {e : hc_M} {as : List Value} {A : hs_A} {P P' : Option Value → hs_A → Prop} (w : hpC g d k e as A P) (hP : ∀ r A', P r A' → P' r A') : hpC g d k e as A P' := fun h hR R hc => by
  obtain ⟨r, h', e, A', hR', hp⟩ := w h hR R hc
  exact ⟨r, h', e, A', hR', hP _ _ hp⟩
/-- two worlds of one heap show the same -/
def hs_vis (A A' : hs_A) : Prop := ∃ h, hs_Rep h A ∧ hs_Rep h A'
/-- a method that ends, and what holds if it ends -/
theorem hxC.and {g d k : Nat} {e : hc_M} {as : List Value} {A : hs_A} {P P' : Option Value → hs_A → Prop} (w : hxC d k e as A P) (w' : ∀ g, hpC g d k e as A P') : hxC d k e as A (fun r A' => P r A' ∧ ∃ A2, hs_vis A' A2 ∧ P' r A2) := by
  intro h hR
  obtain ⟨F, r, h', hc, A', hR', hp⟩ := w h hR
  refine ⟨F, r, h', hc, A', hR', hp, ?_⟩
  obtain ⟨r2, h2, e2, A2, hR2, hp2⟩ := w' F h hR _ (hc F (Nat.le_refl _))
  cases e2
  exact ⟨A2, ⟨h', hR', hR2⟩, hp2⟩
section HPA
variable {fg : Nat × Nat} {d : Nat} {ret : Option FieldType} {tb : hc_K} {pc len r1 r2 : Nat} {l st : List Value} {A : hs_A} {P : Option Value → hs_A → Prop}
theorem hpa.zero {g : Nat} : hpa (0, g) d ret tb pc l st A P := fun h hR f hf R hr => by
  have : f = 0 := Nat.le_zero.mp hf
  subst this
  cases hr
theorem hpa.post {P' : Option Value → hs_A → Prop} (w : hpa fg d ret tb pc l st A P) (hP : ∀ r A', P r A' → P' r A') : hpa fg d ret tb pc l st A P' := fun h hR f hf R hr => by
  obtain ⟨r, h', e, A', hR', hp⟩ := w h hR f hf R hr
  exact ⟨r, h', e, A', hR', hP _ _ hp⟩
theorem hpa_iadd {x y : Int32} (hI : hc_get tb pc = some (.iadd, len, r1, r2))  (k : hpa fg d ret tb (pc + 1) l (.int (x + y) :: st) A P) : hpa fg d ret tb pc l (.int y :: .int x :: st) A P := fun h hR => hy_step (fun g _ => by unfold hc_step1; simp only [hI]; rfl) (k h hR)
theorem hpa_isub {x y : Int32} (hI : hc_get tb pc = some (.isub, len, r1, r2))  (k : hpa fg d ret tb (pc + 1) l (.int (x - y) :: st) A P) : hpa fg d ret tb pc l (.int y :: .int x :: st) A P := fun h hR => hy_step (fun g _ => by unfold hc_step1; simp only [hI]; rfl) (k h hR)
theorem hpa_imul {x y : Int32} (hI : hc_get tb pc = some (.imul, len, r1, r2))  (k : hpa fg d ret tb (pc + 1) l (.int (x * y) :: st) A P) : hpa fg d ret tb pc l (.int y :: .int x :: st) A P := fun h hR => hy_step (fun g _ => by unfold hc_step1; simp only [hI]; rfl) (k h hR)
theorem hpa_iand {x y : Int32} (hI : hc_get tb pc = some (.iand, len, r1, r2))  (k : hpa fg d ret tb (pc + 1) l (.int (x &&& y) :: st) A P) : hpa fg d ret tb pc l (.int y :: .int x :: st) A P := fun h hR => hy_step (fun g _ => by unfold hc_step1; simp only [hI]; rfl) (k h hR)
theorem hpa_ior {x y : Int32} (hI : hc_get tb pc = some (.ior, len, r1, r2))  (k : hpa fg d ret tb (pc + 1) l (.int (x ||| y) :: st) A P) : hpa fg d ret tb pc l (.int y :: .int x :: st) A P := fun h hR => hy_step (fun g _ => by unfold hc_step1; simp only [hI]; rfl) (k h hR)
theorem hpa_ixor {x y : Int32} (hI : hc_get tb pc = some (.ixor, len, r1, r2))  (k : hpa fg d ret tb (pc + 1) l (.int (x ^^^ y) :: st) A P) : hpa fg d ret tb pc l (.int y :: .int x :: st) A P := fun h hR => hy_step (fun g _ => by unfold hc_step1; simp only [hI]; rfl) (k h hR)
theorem hpa_ishl {x y : Int32} (hI : hc_get tb pc = some (.ishl, len, r1, r2))  (k : hpa fg d ret tb (pc + 1) l (.int (x <<< (y &&& 31)) :: st) A P) : hpa fg d ret tb pc l (.int y :: .int x :: st) A P := fun h hR => hy_step (fun g _ => by unfold hc_step1; simp only [hI]; rfl) (k h hR)
theorem hpa_ishr {x y : Int32} (hI : hc_get tb pc = some (.ishr, len, r1, r2))  (k : hpa fg d ret tb (pc + 1) l (.int (x >>> (y &&& 31)) :: st) A P) : hpa fg d ret tb pc l (.int y :: .int x :: st) A P := fun h hR => hy_step (fun g _ => by unfold hc_step1; simp only [hI]; rfl) (k h hR)
theorem hpa_iushr {x y : Int32} (hI : hc_get tb pc = some (.iushr, len, r1, r2))  (k : hpa fg d ret tb (pc + 1) l (.int ((x.toUInt32 >>> (y.toUInt32 &&& Int32.toUInt32 31)).toInt32) :: st) A P) : hpa fg d ret tb pc l (.int y :: .int x :: st) A P := fun h hR => hy_step (fun g _ => by unfold hc_step1; simp only [hI]; rfl) (k h hR)
theorem hpa_iconst {z : Int} {v : Int32} (hI : hc_get tb pc = some (.iconst z, len, r1, r2)) (hv : Int32.ofNat r1 = v) (k : hpa fg d ret tb (pc + 1) l (.int v :: st) A P) : hpa fg d ret tb pc l st A P := fun h hR => hy_step (fun g _ => by unfold hc_step1; simp only [hI]; subst hv; rfl) (k h hR)
theorem hpa_bipush {z : Int} {v : Int32} (hI : hc_get tb pc = some (.bipush z, len, r1, r2)) (hv : Int32.ofNat r1 = v) (k : hpa fg d ret tb (pc + 2) l (.int v :: st) A P) : hpa fg d ret tb pc l st A P := fun h hR => hy_step (fun g _ => by unfold hc_step1; simp only [hI]; subst hv; rfl) (k h hR)
theorem hpa_sipush {z : Int} {v : Int32} (hI : hc_get tb pc = some (.sipush z, len, r1, r2)) (hv : Int32.ofNat r1 = v) (k : hpa fg d ret tb (pc + 3) l (.int v :: st) A P) : hpa fg d ret tb pc l st A P := fun h hR => hy_step (fun g _ => by unfold hc_step1; simp only [hI]; subst hv; rfl) (k h hR)
theorem hpa_iload_n {z : Fin 4} {x : Int32} (hI : hc_get tb pc = some (.iload_n z, len, r1, r2)) (hl : hc_nth l r1 = some (.int x)) (k : hpa fg d ret tb (pc + 1) l (.int x :: st) A P) : hpa fg d ret tb pc l st A P := fun h hR => hy_step (fun g _ => by unfold hc_step1; simp only [hI]; show hi_iload_n r1 pc l st hs_n h 0 0 = _; unfold hi_iload_n; rw [hl]; rfl) (k h hR)
theorem hpa_iload {z : Nat} {x : Int32} (hI : hc_get tb pc = some (.iload z, len, r1, r2)) (hl : hc_nth l r1 = some (.int x)) (k : hpa fg d ret tb (pc + 2) l (.int x :: st) A P) : hpa fg d ret tb pc l st A P := fun h hR => hy_step (fun g _ => by unfold hc_step1; simp only [hI]; show hi_iload r1 pc l st hs_n h 0 0 = _; unfold hi_iload; rw [hl]; rfl) (k h hR)
theorem hpa_aload_n {z : Fin 4} {x : Nat} (hI : hc_get tb pc = some (.aload_n z, len, r1, r2)) (hl : hc_nth l r1 = some (.ref x)) (k : hpa fg d ret tb (pc + 1) l (.ref x :: st) A P) : hpa fg d ret tb pc l st A P := fun h hR => hy_step (fun g _ => by unfold hc_step1; simp only [hI]; show hi_aload_n r1 pc l st hs_n h 0 0 = _; unfold hi_aload_n; rw [hl]; rfl) (k h hR)
theorem hpa_aload {z : Nat} {x : Nat} (hI : hc_get tb pc = some (.aload z, len, r1, r2)) (hl : hc_nth l r1 = some (.ref x)) (k : hpa fg d ret tb (pc + 2) l (.ref x :: st) A P) : hpa fg d ret tb pc l st A P := fun h hR => hy_step (fun g _ => by unfold hc_step1; simp only [hI]; show hi_aload r1 pc l st hs_n h 0 0 = _; unfold hi_aload; rw [hl]; rfl) (k h hR)
theorem hpa_get {z i c : Nat} {ks : List Nat} {v : Value} (hI : hc_get tb pc = some (.getfield z, len, r1, r2)) (hs : hc_get hs_sh i = some (3, r1, ks)) (hk : hc_nth ks r2 = some c) (hv : hs_val A i r2 c = v) (k : hpa fg d ret tb (pc + 3) l (v :: st) A P) : hpa fg d ret tb pc l (.ref (i + 1) :: st) A P := fun h hR => hy_step (fun g _ => by
  unfold hc_step1
  simp only [hI]
  show hi_getfield r1 r2 pc l (.ref (i + 1) :: st) hs_n h 0 0 = _
  unfold hi_getfield
  dsimp only
  rw [hR i _ hs, hs_cell3, hc_objS]
  dsimp only
  rw [hs_fs_at hk, hv]
  rfl) (k h hR)
theorem hpa_putI {z i : Nat} {ks : List Nat} {x : Int32} (hI : hc_get tb pc = some (.putfield z, len, r1, r2)) (hs : hc_get hs_sh i = some (3, r1, ks)) (hk : hc_nth ks r2 = some 0) (hf : hc_fit (hc_tyX r1 r2) (.int x) = true) (k : hpa fg d ret tb (pc + 3) l st (hs_up A.1 i r2 x, A.2) P) : hpa fg d ret tb pc l (.int x :: .ref (i + 1) :: st) A P := fun h hR => by
  obtain ⟨h', hp, hR'⟩ := hs_putI (x := x) hR hs hk
  refine hy_step (fun g _ => ?_) (k h' hR')
  unfold hc_step1
  simp only [hI]
  show hi_putfield r1 r2 pc l (.int x :: .ref (i + 1) :: st) hs_n h 0 0 = _
  unfold hi_putfield
  dsimp only
  rw [hR i _ hs, hs_cell3, hc_objS]
  dsimp only
  rw [hf]
  dsimp only
  rw [hs_fs_at hk]
  dsimp only
  rw [hp]
  rfl
theorem hpa_iald {i m : Nat} {j : Int32} (hI : hc_get tb pc = some (.iaload, len, r1, r2)) (hs : hc_get hs_sh i = some (0, 1, [m])) (h0 : ¬ j < 0) (h1 : j.toNatClampNeg < m) (k : hpa fg d ret tb (pc + 1) l (.int (A.2.1 i j.toNatClampNeg) :: st) A P) : hpa fg d ret tb pc l (.int j :: .ref (i + 1) :: st) A P := fun h hR => hy_step (fun g _ => by
  unfold hc_step1
  simp only [hI]
  show hi_iaload (0, fun _ => none) pc l (.int j :: .ref (i + 1) :: st) hs_n h 0 0 = _
  unfold hi_iaload
  exact hs_ald ((hR i _ hs).trans (congrArg some (hs_cell0 A i 1 m))) (hs_el h0 (hs_ar_at h1))) (k h hR)
theorem hpa_iast {i m : Nat} {j x : Int32} (hI : hc_get tb pc = some (.iastore, len, r1, r2)) (hs : hc_get hs_sh i = some (0, 1, [m])) (h0 : ¬ j < 0) (h1 : j.toNatClampNeg < m) (k : hpa fg d ret tb (pc + 1) l st (A.1, hs_up A.2.1 i j.toNatClampNeg x, A.2.2) P) : hpa fg d ret tb pc l (.int x :: .int j :: .ref (i + 1) :: st) A P := fun h hR => by
  obtain ⟨h', hp, hR'⟩ := hs_setI (x := x) hR hs h1
  refine hy_step (fun g _ => ?_) (k h' hR')
  unfold hc_step1
  simp only [hI]
  show hi_iastore pc l (.int x :: .int j :: .ref (i + 1) :: st) hs_n h 0 0 = _
  unfold hi_iastore
  exact hs_ast ((hR i _ hs).trans (congrArg some (hs_cell0 A i 1 m))) (hs_el h0 (hs_ar_at h1)) hp
theorem hpa_if {op : Jvm.ClassFile.Cond} {off : Int} {x : Int32} (hI : hc_get tb pc = some (.ifCond op off, len, r1, r2)) (kt : hc_cmp op x 0 = true → hpa fg d ret tb r1 l st A P) (kf : hc_cmp op x 0 = false → hpa fg d ret tb (pc + 3) l st A P) : hpa fg d ret tb pc l (.int x :: st) A P := fun h hR => by
  by_cases hb : hc_cmp op x 0 = true
  · refine hy_step (fun g _ => ?_) (kt hb h hR)
    unfold hc_step1
    simp only [hI]
    show hi_ifCond (0, fun _ => none) op r1 pc l (.int x :: st) hs_n h 0 0 = _
    unfold hi_ifCond
    dsimp only
    rw [hb]
    rfl
  · have hb' : hc_cmp op x 0 = false := by cases hq : hc_cmp op x 0 <;> simp_all
    refine hy_step (fun g _ => ?_) (kf hb' h hR)
    unfold hc_step1
    simp only [hI]
    show hi_ifCond (0, fun _ => none) op r1 pc l (.int x :: st) hs_n h 0 0 = _
    unfold hi_ifCond
    dsimp only
    rw [hb']
    rfl
theorem hpa_icmp {op : Jvm.ClassFile.Cond} {off : Int} {x y : Int32} (hI : hc_get tb pc = some (.if_icmp op off, len, r1, r2)) (kt : hc_cmp op x y = true → hpa fg d ret tb r1 l st A P) (kf : hc_cmp op x y = false → hpa fg d ret tb (pc + 3) l st A P) : hpa fg d ret tb pc l (.int y :: .int x :: st) A P := fun h hR => by
  by_cases hb : hc_cmp op x y = true
  · refine hy_step (fun g _ => ?_) (kt hb h hR)
    unfold hc_step1
    simp only [hI]
    show hi_if_icmp op r1 pc l (.int y :: .int x :: st) hs_n h 0 0 = _
    unfold hi_if_icmp
    dsimp only
    rw [hb]
    rfl
  · have hb' : hc_cmp op x y = false := by cases hq : hc_cmp op x y <;> simp_all
    refine hy_step (fun g _ => ?_) (kf hb' h hR)
    unfold hc_step1
    simp only [hI]
    show hi_if_icmp op r1 pc l (.int y :: .int x :: st) hs_n h 0 0 = _
    unfold hi_if_icmp
    dsimp only
    rw [hb']
    rfl
theorem hpa_goto {off : Int} (hI : hc_get tb pc = some (.goto off, len, r1, r2)) (k : hpa fg d ret tb r1 l st A P) : hpa fg d ret tb pc l st A P := fun h hR => hy_step (fun g _ => by
  unfold hc_step1
  simp only [hI]
  rfl) (k h hR)
theorem hpa_s1 {ii : Instr} {x : Int32} {l' : List Value} (hI : hc_get tb pc = some (ii, len, r1, r2)) (hii : (∃ z, ii = .istore_n z ∧ len = 1) ∨ (∃ z, ii = .istore z ∧ len = 2)) (hl : hc_s1 l r1 (.int x) = some l') (k : hpa fg d ret tb (pc + len) l' st A P) : hpa fg d ret tb pc l (.int x :: st) A P := fun h hR => hy_step (fun g _ => by
  unfold hc_step1
  simp only [hI]
  rcases hii with ⟨z, rfl, rfl⟩ | ⟨z, rfl, rfl⟩
  · show hi_istore_n r1 pc l (.int x :: st) hs_n h 0 0 = _
    unfold hi_istore_n
    dsimp only
    rw [hl]
    rfl
  · show hi_istore r1 pc l (.int x :: st) hs_n h 0 0 = _
    unfold hi_istore
    dsimp only
    rw [hl]
    rfl) (k h hR)
theorem hpa_iinc {z : Nat} {w : Int} {x : Int32} {l' : List Value} (hI : hc_get tb pc = some (.iinc z w, len, r1, r2)) (hx : hc_nth l r1 = some (.int x)) (hl : hc_s1 l r1 (.int (x + Int32.ofNat r2)) = some l') (k : hpa fg d ret tb (pc + 3) l' st A P) : hpa fg d ret tb pc l st A P := fun h hR => hy_step (fun g _ => by
  unfold hc_step1
  simp only [hI]
  show hi_iinc r1 r2 pc l st hs_n h 0 0 = _
  unfold hi_iinc
  rw [hx]
  dsimp only
  rw [hl]
  rfl) (k h hR)
theorem hpa_ireturn {v : Value} (hI : hc_get tb pc = some (.ireturn, len, r1, r2)) (hv : hc_rtv ret v = true) (hP : P (some v) A) : hpa fg d ret tb pc l [v] A P := fun h hR => hy_ret (fun g => by
  unfold hc_step1
  simp only [hI]
  show hi_ireturn ret pc l [v] hs_n h 0 0 = _
  unfold hi_ireturn
  dsimp only
  rw [hv]) ⟨A, hR, hP⟩
theorem hpa_return (hI : hc_get tb pc = some (.return_, len, r1, r2)) (hv : ret = none) (hP : P none A) : hpa fg d ret tb pc l [] A P := fun h hR => hy_ret (fun g => by
  subst hv
  unfold hc_step1
  simp only [hI]
  rfl) ⟨A, hR, hP⟩
theorem hpa_ldcS {z : Nat} {k : Nat} (hI : hc_get tb pc = some (.ldc z, len, r1, 1)) (hk : r1 = k) (K : hpa fg d ret tb (pc + 2) l (.retAddr k :: st) A P) : hpa fg d ret tb pc l st A P := fun h hR => hy_step (fun g _ => by
  subst hk
  unfold hc_step1
  simp only [hI]
  rfl) (K h hR)
theorem hpa_strLen {z : Nat} {k : Nat} (hI : hc_get tb pc = some (.invokevirtual z, len, 0, 7)) (hcat : Nat.ble (hc_cat st) 8 = true) (K : hpa fg d ret tb (pc + 3) l (.int (Int32.ofNat (hc_txt k).length) :: st) A P) : hpa fg d ret tb pc l (.retAddr k :: st) A P := fun h hR => hy_step (fun g _ => by
  unfold hc_step1
  simp only [hI]
  show hi_str 0 pc l (.retAddr k :: st) hs_n h 0 0 = _
  unfold hi_str
  dsimp only
  rw [hcat]
  rfl) (K h hR)
theorem hpa_strChar {z b : Nat} {k : Nat} {i : Int32} (hI : hc_get tb pc = some (.invokevirtual z, len, 1, 7)) (hcat : Nat.ble (hc_cat st) 8 = true) (h0 : ¬ i < 0) (hb : (hc_txt k)[i.toNatClampNeg]? = some b) (K : hpa fg d ret tb (pc + 3) l (.int (Int32.ofNat b) :: st) A P) : hpa fg d ret tb pc l (.int i :: .retAddr k :: st) A P := fun h hR => hy_step (fun g _ => by
  unfold hc_step1
  simp only [hI]
  show hi_str 1 pc l (.int i :: .retAddr k :: st) hs_n h 0 0 = _
  unfold hi_str
  dsimp only
  rw [hcat, decide_eq_false h0, hc_nth_eq, hb]
  rfl) (K h hR)
theorem hpa_strIdx {z : Nat} {k : Nat} {x : Int32} (hI : hc_get tb pc = some (.invokevirtual z, len, 2, 7)) (hcat : Nat.ble (hc_cat st) 8 = true) (K : hpa fg d ret tb (pc + 3) l (.int (hc_ixf x (hc_txt k) 0) :: st) A P) : hpa fg d ret tb pc l (.int x :: .retAddr k :: st) A P := fun h hR => hy_step (fun g _ => by
  unfold hc_step1
  simp only [hI]
  show hi_str 2 pc l (.int x :: .retAddr k :: st) hs_n h 0 0 = _
  unfold hi_str
  dsimp only
  rw [hcat]
  rfl) (K h hR)
theorem hpa_ladd {x y : Int64} (hI : hc_get tb pc = some (.ladd, len, r1, r2))  (k : hpa fg d ret tb (pc + 1) l (.long (x + y) :: st) A P) : hpa fg d ret tb pc l (.long y :: .long x :: st) A P := fun h hR => hy_step (fun g _ => by
  unfold hc_step1
  simp only [hI]
  rfl) (k h hR)
theorem hpa_lsub {x y : Int64} (hI : hc_get tb pc = some (.lsub, len, r1, r2))  (k : hpa fg d ret tb (pc + 1) l (.long (x - y) :: st) A P) : hpa fg d ret tb pc l (.long y :: .long x :: st) A P := fun h hR => hy_step (fun g _ => by
  unfold hc_step1
  simp only [hI]
  rfl) (k h hR)
theorem hpa_lmul {x y : Int64} (hI : hc_get tb pc = some (.lmul, len, r1, r2))  (k : hpa fg d ret tb (pc + 1) l (.long (x * y) :: st) A P) : hpa fg d ret tb pc l (.long y :: .long x :: st) A P := fun h hR => hy_step (fun g _ => by
  unfold hc_step1
  simp only [hI]
  rfl) (k h hR)
theorem hpa_lor {x y : Int64} (hI : hc_get tb pc = some (.lor, len, r1, r2))  (k : hpa fg d ret tb (pc + 1) l (.long (x ||| y) :: st) A P) : hpa fg d ret tb pc l (.long y :: .long x :: st) A P := fun h hR => hy_step (fun g _ => by
  unfold hc_step1
  simp only [hI]
  rfl) (k h hR)
theorem hpa_lshl {x : Int64} {y : Int32} (hI : hc_get tb pc = some (.lshl, len, r1, r2))  (k : hpa fg d ret tb (pc + 1) l (.long (x <<< (y.toInt64 &&& 63)) :: st) A P) : hpa fg d ret tb pc l (.int y :: .long x :: st) A P := fun h hR => hy_step (fun g _ => by
  unfold hc_step1
  simp only [hI]
  rfl) (k h hR)
theorem hpa_lcmp {x y : Int64} (hI : hc_get tb pc = some (.lcmp, len, r1, r2))  (k : hpa fg d ret tb (pc + 1) l (.int (lg_cmp x y) :: st) A P) : hpa fg d ret tb pc l (.long y :: .long x :: st) A P := fun h hR => hy_step (fun g _ => by
  unfold hc_step1
  simp only [hI]
  rfl) (k h hR)
theorem hpa_i2l {x : Int32} (hI : hc_get tb pc = some (.i2l, len, r1, r2))  (k : hpa fg d ret tb (pc + 1) l (.long x.toInt64 :: st) A P) : hpa fg d ret tb pc l (.int x :: st) A P := fun h hR => hy_step (fun g _ => by
  unfold hc_step1
  simp only [hI]
  rfl) (k h hR)
theorem hpa_l2i {x : Int64} (hI : hc_get tb pc = some (.l2i, len, r1, r2))  (k : hpa fg d ret tb (pc + 1) l (.int x.toInt32 :: st) A P) : hpa fg d ret tb pc l (.long x :: st) A P := fun h hR => hy_step (fun g _ => by
  unfold hc_step1
  simp only [hI]
  rfl) (k h hR)
theorem hpa_i2b {x : Int32} (hI : hc_get tb pc = some (.i2b, len, r1, r2))  (k : hpa fg d ret tb (pc + 1) l (.int x.toInt8.toInt32 :: st) A P) : hpa fg d ret tb pc l (.int x :: st) A P := fun h hR => hy_step (fun g _ => by
  unfold hc_step1
  simp only [hI]
  rfl) (k h hR)
theorem hpa_i2c {x : Int32} (hI : hc_get tb pc = some (.i2c, len, r1, r2))  (k : hpa fg d ret tb (pc + 1) l (.int (x.toUInt32 % 65536).toInt32 :: st) A P) : hpa fg d ret tb pc l (.int x :: st) A P := fun h hR => hy_step (fun g _ => by
  unfold hc_step1
  simp only [hI]
  rfl) (k h hR)
theorem hpa_idiv {x y : Int32} (hI : hc_get tb pc = some (.idiv, len, r1, r2)) (hy : ¬ y = 0) (k : hpa fg d ret tb (pc + 1) l (.int (x / y) :: st) A P) : hpa fg d ret tb pc l (.int y :: .int x :: st) A P := fun h hR => hy_step (fun g _ => by
  unfold hc_step1
  simp only [hI]
  show hi_idiv pc l (.int y :: .int x :: st) hs_n h 0 0 = _
  unfold hi_idiv
  dsimp only
  rw [decide_eq_false hy]
  rfl) (k h hR)
theorem hpa_irem {x y : Int32} (hI : hc_get tb pc = some (.irem, len, r1, r2)) (hy : ¬ y = 0) (k : hpa fg d ret tb (pc + 1) l (.int (x - x / y * y) :: st) A P) : hpa fg d ret tb pc l (.int y :: .int x :: st) A P := fun h hR => hy_step (fun g _ => by
  unfold hc_step1
  simp only [hI]
  show hi_irem pc l (.int y :: .int x :: st) hs_n h 0 0 = _
  unfold hi_irem
  dsimp only
  rw [decide_eq_false hy]
  rfl) (k h hR)
theorem hpa_dupI {x : Int32} (hI : hc_get tb pc = some (.dup, len, r1, r2))  (k : hpa fg d ret tb (pc + 1) l (.int x :: .int x :: st) A P) : hpa fg d ret tb pc l (.int x :: st) A P := fun h hR => hy_step (fun g _ => by
  unfold hc_step1
  simp only [hI]
  rfl) (k h hR)
theorem hpa_dupR {x : Nat} (hI : hc_get tb pc = some (.dup, len, r1, r2))  (k : hpa fg d ret tb (pc + 1) l (.ref x :: .ref x :: st) A P) : hpa fg d ret tb pc l (.ref x :: st) A P := fun h hR => hy_step (fun g _ => by
  unfold hc_step1
  simp only [hI]
  rfl) (k h hR)
theorem hpa_popI {x : Int32} (hI : hc_get tb pc = some (.pop, len, r1, r2))  (k : hpa fg d ret tb (pc + 1) l st A P) : hpa fg d ret tb pc l (.int x :: st) A P := fun h hR => hy_step (fun g _ => by
  unfold hc_step1
  simp only [hI]
  rfl) (k h hR)
theorem hpa_popR {x : Nat} (hI : hc_get tb pc = some (.pop, len, r1, r2))  (k : hpa fg d ret tb (pc + 1) l st A P) : hpa fg d ret tb pc l (.ref x :: st) A P := fun h hR => hy_step (fun g _ => by
  unfold hc_step1
  simp only [hI]
  rfl) (k h hR)
theorem hpa_dup2IR {x : Int32} {y : Nat} (hI : hc_get tb pc = some (.dup2, len, r1, r2))  (k : hpa fg d ret tb (pc + 1) l (.int x :: .ref y :: .int x :: .ref y :: st) A P) : hpa fg d ret tb pc l (.int x :: .ref y :: st) A P := fun h hR => hy_step (fun g _ => by
  unfold hc_step1
  simp only [hI]
  rfl) (k h hR)
theorem hpa_lconst {z : Fin 2} {v : Int64} (hI : hc_get tb pc = some (.lconst z, len, r1, r2)) (hv : Int64.ofNat r1 = v) (k : hpa fg d ret tb (pc + 1) l (.long v :: st) A P) : hpa fg d ret tb pc l st A P := fun h hR => hy_step (fun g _ => by
  unfold hc_step1
  simp only [hI]
  subst hv
  rfl) (k h hR)
theorem hpa_ldc {z : Nat} {v : Int32} (hI : hc_get tb pc = some (.ldc z, len, r1, 0)) (hv : Int32.ofNat r1 = v) (k : hpa fg d ret tb (pc + 2) l (.int v :: st) A P) : hpa fg d ret tb pc l st A P := fun h hR => hy_step (fun g _ => by
  unfold hc_step1
  simp only [hI]
  subst hv
  rfl) (k h hR)
theorem hpa_ldc_w {z : Nat} {v : Int32} (hI : hc_get tb pc = some (.ldc_w z, len, r1, r2)) (hv : Int32.ofNat r1 = v) (k : hpa fg d ret tb (pc + 3) l (.int v :: st) A P) : hpa fg d ret tb pc l st A P := fun h hR => hy_step (fun g _ => by
  unfold hc_step1
  simp only [hI]
  subst hv
  rfl) (k h hR)
theorem hpa_ldc2_w {z : Nat} {v : Int64} (hI : hc_get tb pc = some (.ldc2_w z, len, r1, r2)) (hv : Int64.ofNat r1 = v) (k : hpa fg d ret tb (pc + 3) l (.long v :: st) A P) : hpa fg d ret tb pc l st A P := fun h hR => hy_step (fun g _ => by
  unfold hc_step1
  simp only [hI]
  subst hv
  rfl) (k h hR)
theorem hpa_lload_n {z : Fin 4} {x : Int64} (hI : hc_get tb pc = some (.lload_n z, len, r1, r2)) (hl : hc_nth l r1 = some (.long x)) (k : hpa fg d ret tb (pc + 1) l (.long x :: st) A P) : hpa fg d ret tb pc l st A P := fun h hR => hy_step (fun g _ => by
  unfold hc_step1
  simp only [hI]
  show hi_lload_n r1 pc l st hs_n h 0 0 = _
  unfold hi_lload_n
  rw [hl]
  rfl) (k h hR)
theorem hpa_lload {z : Nat} {x : Int64} (hI : hc_get tb pc = some (.lload z, len, r1, r2)) (hl : hc_nth l r1 = some (.long x)) (k : hpa fg d ret tb (pc + 2) l (.long x :: st) A P) : hpa fg d ret tb pc l st A P := fun h hR => hy_step (fun g _ => by
  unfold hc_step1
  simp only [hI]
  show hi_lload r1 pc l st hs_n h 0 0 = _
  unfold hi_lload
  rw [hl]
  rfl) (k h hR)
theorem hpa_lstore_n {z : Fin 4} {x : Int64} {l' : List Value} (hI : hc_get tb pc = some (.lstore_n z, len, r1, r2)) (hl : hc_s2 l r1 (.long x) = some l') (k : hpa fg d ret tb (pc + 1) l' st A P) : hpa fg d ret tb pc l (.long x :: st) A P := fun h hR => hy_step (fun g _ => by
  unfold hc_step1
  simp only [hI]
  show hi_lstore_n r1 pc l (.long x :: st) hs_n h 0 0 = _
  unfold hi_lstore_n
  dsimp only
  rw [hl]
  rfl) (k h hR)
theorem hpa_lstore {z : Nat} {x : Int64} {l' : List Value} (hI : hc_get tb pc = some (.lstore z, len, r1, r2)) (hl : hc_s2 l r1 (.long x) = some l') (k : hpa fg d ret tb (pc + 2) l' st A P) : hpa fg d ret tb pc l (.long x :: st) A P := fun h hR => hy_step (fun g _ => by
  unfold hc_step1
  simp only [hI]
  show hi_lstore r1 pc l (.long x :: st) hs_n h 0 0 = _
  unfold hi_lstore
  dsimp only
  rw [hl]
  rfl) (k h hR)
theorem hpa_astore_n {z : Fin 4} {x : Nat} {l' : List Value} (hI : hc_get tb pc = some (.astore_n z, len, r1, r2)) (hl : hc_s1 l r1 (.ref x) = some l') (k : hpa fg d ret tb (pc + 1) l' st A P) : hpa fg d ret tb pc l (.ref x :: st) A P := fun h hR => hy_step (fun g _ => by
  unfold hc_step1
  simp only [hI]
  show hi_astore_n r1 pc l (.ref x :: st) hs_n h 0 0 = _
  unfold hi_astore_n
  dsimp only
  rw [hl]
  rfl) (k h hR)
theorem hpa_astore {z : Nat} {x : Nat} {l' : List Value} (hI : hc_get tb pc = some (.astore z, len, r1, r2)) (hl : hc_s1 l r1 (.ref x) = some l') (k : hpa fg d ret tb (pc + 2) l' st A P) : hpa fg d ret tb pc l (.ref x :: st) A P := fun h hR => hy_step (fun g _ => by
  unfold hc_step1
  simp only [hI]
  show hi_astore r1 pc l (.ref x :: st) hs_n h 0 0 = _
  unfold hi_astore
  dsimp only
  rw [hl]
  rfl) (k h hR)
theorem hpa_lald {i m : Nat} {j : Int32} (hI : hc_get tb pc = some (.laload, len, r1, r2)) (hs : hc_get hs_sh i = some (1, 2, [m])) (h0 : ¬ j < 0) (h1 : j.toNatClampNeg < m) (k : hpa fg d ret tb (pc + 1) l (.long (A.2.2.1 i j.toNatClampNeg) :: st) A P) : hpa fg d ret tb pc l (.int j :: .ref (i + 1) :: st) A P := fun h hR => hy_step (fun g _ => by
  unfold hc_step1
  simp only [hI]
  show hi_laload pc l (.int j :: .ref (i + 1) :: st) hs_n h 0 0 = _
  unfold hi_laload
  exact hs_ald ((hR i _ hs).trans (congrArg some (hs_cell1 A i 2 m))) (hs_el h0 (hs_al_at h1))) (k h hR)
theorem hpa_bald {i m : Nat} {j : Int32} (hI : hc_get tb pc = some (.baload, len, r1, r2)) (hs : hc_get hs_sh i = some (0, 0, [m])) (h0 : ¬ j < 0) (h1 : j.toNatClampNeg < m) (k : hpa fg d ret tb (pc + 1) l (.int (A.2.1 i j.toNatClampNeg) :: st) A P) : hpa fg d ret tb pc l (.int j :: .ref (i + 1) :: st) A P := fun h hR => hy_step (fun g _ => by
  unfold hc_step1
  simp only [hI]
  show hi_baload pc l (.int j :: .ref (i + 1) :: st) hs_n h 0 0 = _
  unfold hi_baload
  rw [hs_ald ((hR i _ hs).trans (congrArg some (hs_cell0 A i 0 m))) (hs_el h0 (hs_ar_at h1))]
  rfl) (k h hR)
theorem hpa_zald {i m : Nat} {j : Int32} (hI : hc_get tb pc = some (.baload, len, r1, r2)) (hs : hc_get hs_sh i = some (0, 3, [m])) (h0 : ¬ j < 0) (h1 : j.toNatClampNeg < m) (k : hpa fg d ret tb (pc + 1) l (.int (A.2.1 i j.toNatClampNeg) :: st) A P) : hpa fg d ret tb pc l (.int j :: .ref (i + 1) :: st) A P := fun h hR => hy_step (fun g _ => by
  unfold hc_step1
  simp only [hI]
  show hi_baload pc l (.int j :: .ref (i + 1) :: st) hs_n h 0 0 = _
  unfold hi_baload
  have hg : hc_get h i = some (.inl (3, hs_ar A i m)) := (hR i _ hs).trans (congrArg some (hs_cell0 A i 3 m))
  have hn : hc_ald 0 pc l (.int j :: .ref (i + 1) :: st) hs_n h 0 0 = none := by
    unfold hc_ald
    dsimp only
    rw [hg, hc_arr_ne rfl]
  rw [hn]
  exact hs_ald hg (hs_el h0 (hs_ar_at h1))) (k h hR)
theorem hpa_bast {i m : Nat} {j x : Int32} (hI : hc_get tb pc = some (.bastore, len, r1, r2)) (hs : hc_get hs_sh i = some (0, 0, [m])) (h0 : ¬ j < 0) (h1 : j.toNatClampNeg < m) (k : hpa fg d ret tb (pc + 1) l st (A.1, hs_up A.2.1 i j.toNatClampNeg x.toInt8.toInt32, A.2.2) P) : hpa fg d ret tb pc l (.int x :: .int j :: .ref (i + 1) :: st) A P := fun h hR => by
  obtain ⟨h', hp, hR'⟩ := hs_setI (x := x.toInt8.toInt32) hR hs h1
  refine hy_step (fun g _ => ?_) (k h' hR')
  unfold hc_step1
  simp only [hI]
  show hi_bastore pc l (.int x :: .int j :: .ref (i + 1) :: st) hs_n h 0 0 = _
  unfold hi_bastore
  dsimp only
  have hg : hc_get h i = some (.inl (0, hs_ar A i m)) := (hR i _ hs).trans (congrArg some (hs_cell0 A i 0 m))
  rw [hg, hc_arrS]
  exact hs_ast hg (hs_el h0 (hs_ar_at h1)) hp
theorem hpa_aald {i m t : Nat} {rs : List Nat} {j : Int32} (hI : hc_get tb pc = some (.aaload, len, r1, r2)) (ht : t = 4 ∨ t = 5) (hs : hc_get hs_sh i = some (2, t, rs)) (h0 : ¬ j < 0) (h1 : rs[j.toNatClampNeg]? = some m) (k : hpa fg d ret tb (pc + 1) l (.ref m :: st) A P) : hpa fg d ret tb pc l (.int j :: .ref (i + 1) :: st) A P := fun h hR => hy_step (fun g _ => by
  unfold hc_step1
  simp only [hI]
  show hi_aaload pc l (.int j :: .ref (i + 1) :: st) hs_n h 0 0 = _
  unfold hi_aaload
  have hg : hc_get h i = some (.inl (t, rs.map (fun r => .ref r))) := (hR i _ hs).trans (congrArg some (hs_cell2 A i t rs))
  have he : hc_el (rs.map (fun r => Value.ref r)) j = some (.ref m) := hs_el h0 (by rw [hc_nth_eq, List.getElem?_map, h1]; rfl)
  rcases ht with rfl | rfl
  · rw [hs_ald hg he]
    rfl
  · have hn : hc_ald 4 pc l (.int j :: .ref (i + 1) :: st) hs_n h 0 0 = none := by
      unfold hc_ald
      dsimp only
      rw [hg, hc_arr_ne rfl]
    rw [hn]
    exact hs_ald hg he) (k h hR)
theorem hpa_areturn {a : Nat} {t : FieldType} (hI : hc_get tb pc = some (.areturn, len, r1, r2)) (hv : ret = some (.array t)) (hP : P (some (.ref a)) A) : hpa fg d ret tb pc l [.ref a] A P := fun h hR => hy_ret (fun g => by
  subst hv
  unfold hc_step1
  simp only [hI]
  rfl) ⟨A, hR, hP⟩
theorem hpa_lreturn {x : Int64} (hI : hc_get tb pc = some (.lreturn, len, r1, r2)) (hv : ret = some .long) (hP : P (some (.long x)) A) : hpa fg d ret tb pc l [.long x] A P := fun h hR => hy_ret (fun g => by
  subst hv
  unfold hc_step1
  simp only [hI]
  rfl) ⟨A, hR, hP⟩
theorem hpa_tabOut {dflt lo hi : Int} {offs : Array Int} {x : Int32} (hI : hc_get tb pc = some (.tableswitch dflt lo hi offs, len, r1, r2)) (hx : x.toInt < lo ∨ hi < x.toInt) {tgt : Nat} (ht : (pc : Int) + dflt = (tgt : Int)) (k : hpa fg d ret tb tgt l st A P) : hpa fg d ret tb pc l (.int x :: st) A P := fun h hR => hy_step (fun g _ => by
  unfold hc_step1
  simp only [hI]
  show hi_tableswitch (0, fun _ => none) dflt lo hi offs pc l (.int x :: st) hs_n h 0 0 = _
  unfold hi_tableswitch
  dsimp only
  have h1 : (decide (x.toInt < lo) || decide (hi < x.toInt)) = true := by simp [hx]
  rw [h1]
  dsimp only
  rw [ht, decide_eq_true (by omega : (0 : Int) ≤ (tgt : Int))]
  rfl) (k h hR)
theorem hpa_tabIn {dflt lo hi off : Int} {offs : Array Int} {x : Int32} (hI : hc_get tb pc = some (.tableswitch dflt lo hi offs, len, r1, r2)) (h1 : ¬ x.toInt < lo) (h2 : ¬ hi < x.toInt) (ho : offs.toList[(x.toInt - lo).toNat]? = some off) {tgt : Nat} (ht : (pc : Int) + off = (tgt : Int)) (k : hpa fg d ret tb tgt l st A P) : hpa fg d ret tb pc l (.int x :: st) A P := fun h hR => hy_step (fun g _ => by
  unfold hc_step1
  simp only [hI]
  show hi_tableswitch (0, fun _ => none) dflt lo hi offs pc l (.int x :: st) hs_n h 0 0 = _
  unfold hi_tableswitch
  dsimp only
  have h3 : (decide (x.toInt < lo) || decide (hi < x.toInt)) = false := by simp [h1, h2]
  rw [h3]
  dsimp only
  rw [hc_nth_eq, ho]
  dsimp only
  rw [ht, decide_eq_true (by omega : (0 : Int) ≤ (tgt : Int))]
  rfl) (k h hR)
theorem hpa_alen {i m t : Nat} (hI : hc_get tb pc = some (.arraylength, len, r1, r2)) (ht : Nat.ble 6 t = false) (hs : hc_get hs_sh i = some (0, t, [m])) (k : hpa fg d ret tb (pc + 1) l (.int (Int32.ofNat m) :: st) A P) : hpa fg d ret tb pc l (.ref (i + 1) :: st) A P := fun h hR => hy_step (fun g _ => by
  unfold hc_step1
  simp only [hI]
  show hi_arraylength (0, fun _ => none) pc l (.ref (i + 1) :: st) hs_n h 0 0 = _
  unfold hi_arraylength
  dsimp only
  have hg : hc_get h i = some (.inl (t, hs_ar A i m)) := (hR i _ hs).trans (congrArg some (hs_cell0 A i t m))
  rw [hg]
  dsimp only
  rw [ht]
  dsimp only
  rw [hs_ar_len]
  rfl) (k h hR)
theorem hpa_zast {i m : Nat} {j x : Int32} (hI : hc_get tb pc = some (.bastore, len, r1, r2)) (hx : x = 0 ∨ x = 1) (hs : hc_get hs_sh i = some (0, 3, [m])) (h0 : ¬ j < 0) (h1 : j.toNatClampNeg < m) (k : hpa fg d ret tb (pc + 1) l st (A.1, hs_up A.2.1 i j.toNatClampNeg x, A.2.2) P) : hpa fg d ret tb pc l (.int x :: .int j :: .ref (i + 1) :: st) A P := fun h hR => by
  obtain ⟨h', hp, hR'⟩ := hs_setI (x := x) hR hs h1
  refine hy_step (fun g _ => ?_) (k h' hR')
  unfold hc_step1
  simp only [hI]
  show hi_bastore pc l (.int x :: .int j :: .ref (i + 1) :: st) hs_n h 0 0 = _
  unfold hi_bastore
  dsimp only
  have hg : hc_get h i = some (.inl (3, hs_ar A i m)) := (hR i _ hs).trans (congrArg some (hs_cell0 A i 3 m))
  rw [hg, hc_arr_ne rfl]
  dsimp only
  have hb : (decide (x = 0) || decide (x = 1)) = true := by simp [hx]
  rw [hb]
  exact hs_ast hg (hs_el h0 (hs_ar_at h1)) hp
theorem hpa_copy {z i0 i1 m : Nat} {w : Int32} (hI : hc_get tb pc = some (.invokestatic z, len, r1, 8)) (hs0 : hc_get hs_sh i0 = some (0, 1, [m])) (hs1 : hc_get hs_sh i1 = some (0, 1, [m])) (h0 : ¬ w < 0) (h1 : w.toNatClampNeg = m) (hcat : Nat.ble (hc_cat st) 8 = true) (k : hpa fg d ret tb (pc + 3) l st (A.1, hs_cpy A.2.1 i0 i1, A.2.2) P) : hpa fg d ret tb pc l (.int w :: .int 0 :: .ref (i1 + 1) :: .int 0 :: .ref (i0 + 1) :: st) A P := fun h hR => by
  have hg0 : hc_get h i0 = some (.inl (1, hs_ar A i0 m)) := (hR i0 _ hs0).trans (congrArg some (hs_cell0 A i0 1 m))
  have hg1 : hc_get h i1 = some (.inl (1, hs_ar A i1 m)) := (hR i1 _ hs1).trans (congrArg some (hs_cell0 A i1 1 m))
  obtain ⟨h', hp⟩ := hc_put_some (e := .inl (1, hs_ar A i0 m)) hg1
  have hR' : hs_Rep h' (A.1, hs_cpy A.2.1 i0 i1, A.2.2) := by
    intro q sh hq
    rw [hc_get_put hp q]
    by_cases e : q = i1
    · subst e
      rw [if_pos rfl]
      cases hq.symm.trans hs1
      rw [hs_cell0]
      refine congrArg (fun z => some (Sum.inl (1, z))) ?_
      unfold hs_ar hs_cpy
      simp
    · rw [if_neg e, hR q sh hq]
      exact congrArg some (hs_cell_ne _ _ sh (fun _ => rfl) (fun k => by simp [hs_cpy, e]) (fun _ => rfl) (fun _ => rfl))
  refine hy_step (fun g _ => ?_) (k h' hR')
  unfold hc_step1
  simp only [hI]
  show hi_invokestatic hm_pg (hx_call g d) r1 8 pc l (.int w :: .int 0 :: .ref (i1 + 1) :: .int 0 :: .ref (i0 + 1) :: st) hs_n h 0 0 = _
  unfold hi_invokestatic
  dsimp only
  rw [hg0, hg1, hc_arrS, hc_arrS]
  dsimp only
  have hall : (hs_ar A i0 m).all hc_isI = true := by
    rw [List.all_eq_true]
    intro v hv
    unfold hs_ar at hv
    obtain ⟨j, -, rfl⟩ := List.mem_map.mp hv
    rfl
  have hc : (decide ((0 : Int32) = 0) && (decide ((0 : Int32) = 0) && (!decide (w < 0) && (Nat.beq w.toNatClampNeg (hs_ar A i0 m).length && (Nat.beq (hs_ar A i0 m).length (hs_ar A i1 m).length && ((hs_ar A i0 m).all hc_isI && Nat.ble (hc_cat st) 8)))))) = true := by
    rw [hall, hcat, hs_ar_len, hs_ar_len, h1, Nat.beq_refl, decide_eq_false h0]
    rfl
  rw [hc]
  dsimp only
  rw [hp]
  rfl
theorem hp_top {d : Nat} {ret : Option FieldType} {tb : hc_K} {pc : Nat} {l st : List Value} {A : hs_A} {P : Option Value → hs_A → Prop} {x : Int32} (k : ∀ z : Int32, z = x → hpa fg d ret tb pc l (.int z :: st) A P) : hpa fg d ret tb pc l (.int x :: st) A P := k x rfl
theorem hpj_iadd {x y : Int32} {ex ey : Int} (hI : hc_get tb pc = some (.iadd, len, r1, r2)) (hx : x.toInt = ex) (hy : y.toInt = ey) (h1 : -2147483648 ≤ ex + ey) (h2 : ex + ey ≤ 2147483647) (k : ∀ z : Int32, z.toInt = ex + ey → hpa fg d ret tb (pc + 1) l (.int z :: st) A P) : hpa fg d ret tb pc l (.int y :: .int x :: st) A P := by
  subst hx
  subst hy
  exact hpa_iadd hI (k _ (hn_add rfl h1 h2))
theorem hpj_isub {x y : Int32} {ex ey : Int} (hI : hc_get tb pc = some (.isub, len, r1, r2)) (hx : x.toInt = ex) (hy : y.toInt = ey) (h1 : -2147483648 ≤ ex - ey) (h2 : ex - ey ≤ 2147483647) (k : ∀ z : Int32, z.toInt = ex - ey → hpa fg d ret tb (pc + 1) l (.int z :: st) A P) : hpa fg d ret tb pc l (.int y :: .int x :: st) A P := by
  subst hx
  subst hy
  exact hpa_isub hI (k _ (hn_sub rfl h1 h2))
theorem hpj_imul {x y : Int32} {ex ey : Int} (hI : hc_get tb pc = some (.imul, len, r1, r2)) (hx : x.toInt = ex) (hy : y.toInt = ey) (h1 : -2147483648 ≤ ex * ey) (h2 : ex * ey ≤ 2147483647) (k : ∀ z : Int32, z.toInt = ex * ey → hpa fg d ret tb (pc + 1) l (.int z :: st) A P) : hpa fg d ret tb pc l (.int y :: .int x :: st) A P := by
  subst hx
  subst hy
  exact hpa_imul hI (k _ (hn_mul rfl h1 h2))
theorem hpj_iaddU {x y : Int32} (hI : hc_get tb pc = some (.iadd, len, r1, r2))  (k : ∀ z : Int32, hpa fg d ret tb (pc + 1) l (.int z :: st) A P) : hpa fg d ret tb pc l (.int y :: .int x :: st) A P := hpa_iadd hI (k _)
theorem hpj_isubU {x y : Int32} (hI : hc_get tb pc = some (.isub, len, r1, r2))  (k : ∀ z : Int32, hpa fg d ret tb (pc + 1) l (.int z :: st) A P) : hpa fg d ret tb pc l (.int y :: .int x :: st) A P := hpa_isub hI (k _)
theorem hpj_imulU {x y : Int32} (hI : hc_get tb pc = some (.imul, len, r1, r2))  (k : ∀ z : Int32, hpa fg d ret tb (pc + 1) l (.int z :: st) A P) : hpa fg d ret tb pc l (.int y :: .int x :: st) A P := hpa_imul hI (k _)
theorem hpj_iandU {x y : Int32} (hI : hc_get tb pc = some (.iand, len, r1, r2))  (k : ∀ z : Int32, hpa fg d ret tb (pc + 1) l (.int z :: st) A P) : hpa fg d ret tb pc l (.int y :: .int x :: st) A P := hpa_iand hI (k _)
theorem hpj_iorU {x y : Int32} (hI : hc_get tb pc = some (.ior, len, r1, r2))  (k : ∀ z : Int32, hpa fg d ret tb (pc + 1) l (.int z :: st) A P) : hpa fg d ret tb pc l (.int y :: .int x :: st) A P := hpa_ior hI (k _)
theorem hpj_ixorU {x y : Int32} (hI : hc_get tb pc = some (.ixor, len, r1, r2))  (k : ∀ z : Int32, hpa fg d ret tb (pc + 1) l (.int z :: st) A P) : hpa fg d ret tb pc l (.int y :: .int x :: st) A P := hpa_ixor hI (k _)
theorem hpj_ishlU {x y : Int32} (hI : hc_get tb pc = some (.ishl, len, r1, r2))  (k : ∀ z : Int32, hpa fg d ret tb (pc + 1) l (.int z :: st) A P) : hpa fg d ret tb pc l (.int y :: .int x :: st) A P := hpa_ishl hI (k _)
theorem hpj_ishrU {x y : Int32} (hI : hc_get tb pc = some (.ishr, len, r1, r2))  (k : ∀ z : Int32, hpa fg d ret tb (pc + 1) l (.int z :: st) A P) : hpa fg d ret tb pc l (.int y :: .int x :: st) A P := hpa_ishr hI (k _)
theorem hpj_iushrU {x y : Int32} (hI : hc_get tb pc = some (.iushr, len, r1, r2))  (k : ∀ z : Int32, hpa fg d ret tb (pc + 1) l (.int z :: st) A P) : hpa fg d ret tb pc l (.int y :: .int x :: st) A P := hpa_iushr hI (k _)
theorem hpj_iandR {x y : Int32} {ey : Int} (hI : hc_get tb pc = some (.iand, len, r1, r2)) (hy : y.toInt = ey) (h0 : 0 ≤ ey) (k : ∀ z : Int32, 0 ≤ z.toInt → z.toInt ≤ ey → hpa fg d ret tb (pc + 1) l (.int z :: st) A P) : hpa fg d ret tb pc l (.int y :: .int x :: st) A P := by
  subst hy
  exact hpa_iand hI (k _ (hn_and0 h0) (hn_and1 h0))
theorem hpj_iandL {x y : Int32} {ex : Int} (hI : hc_get tb pc = some (.iand, len, r1, r2)) (hx : x.toInt = ex) (h0 : 0 ≤ ex) (k : ∀ z : Int32, 0 ≤ z.toInt → z.toInt ≤ ex → hpa fg d ret tb (pc + 1) l (.int z :: st) A P) : hpa fg d ret tb pc l (.int y :: .int x :: st) A P := by
  subst hx
  refine hpa_iand hI (k _ ?_ ?_)
  · rw [Int32.and_comm]
    exact hn_and0 h0
  · rw [Int32.and_comm]
    exact hn_and1 h0
theorem hpj_ior255 {x y : Int32} {ex ey : Int} (hI : hc_get tb pc = some (.ior, len, r1, r2)) (hx : x.toInt = ex) (hy : y.toInt = ey) (h0 : 0 ≤ ex) (h1 : ex ≤ 255) (h2 : 0 ≤ ey) (h3 : ey ≤ 255) (k : ∀ z : Int32, 0 ≤ z.toInt → z.toInt ≤ 255 → hpa fg d ret tb (pc + 1) l (.int z :: st) A P) : hpa fg d ret tb pc l (.int y :: .int x :: st) A P := by
  subst hx
  subst hy
  exact hpa_ior hI (k _ (hn_or0 h0 h1 h2 h3) (hn_or1 h0 h1 h2 h3))
theorem hpj_ishl1 {x y : Int32} {ey : Int} (hI : hc_get tb pc = some (.ishl, len, r1, r2)) (hx : x = Int32.ofNat 1) (hy : y.toInt = ey) (h0 : 0 ≤ ey) (h1 : ey ≤ 7) (k : ∀ z : Int32, 1 ≤ z.toInt → z.toInt ≤ 128 → hpa fg d ret tb (pc + 1) l (.int z :: st) A P) : hpa fg d ret tb pc l (.int y :: .int x :: st) A P := by
  subst hx
  subst hy
  exact hpa_ishl hI (k _ (hn_shl1 h0 h1).1 (hn_shl1 h0 h1).2)
theorem hpj_idivP {x y : Int32} {ex ey : Int} (hI : hc_get tb pc = some (.idiv, len, r1, r2)) (hx : x.toInt = ex) (hy : y.toInt = ey) (h0 : 0 ≤ ex) (h1 : 0 < ey) (k : ∀ z : Int32, z.toInt = ex / ey → hpa fg d ret tb (pc + 1) l (.int z :: st) A P) : hpa fg d ret tb pc l (.int y :: .int x :: st) A P := by
  subst hx
  subst hy
  exact hpa_idiv hI (hn_nz (by omega)) (k _ (hn_div h0 h1))
theorem hpj_idivU {x y : Int32} {ey : Int} (hI : hc_get tb pc = some (.idiv, len, r1, r2)) (hy : y.toInt = ey) (h1 : ¬ ey = 0) (k : ∀ z : Int32, hpa fg d ret tb (pc + 1) l (.int z :: st) A P) : hpa fg d ret tb pc l (.int y :: .int x :: st) A P := by
  subst hy
  exact hpa_idiv hI (hn_nz h1) (k _)
theorem hpj_iremP {x y : Int32} {ex ey : Int} (hI : hc_get tb pc = some (.irem, len, r1, r2)) (hx : x.toInt = ex) (hy : y.toInt = ey) (h0 : 0 ≤ ex) (h1 : 0 < ey) (k : ∀ z : Int32, z.toInt = ex % ey → hpa fg d ret tb (pc + 1) l (.int z :: st) A P) : hpa fg d ret tb pc l (.int y :: .int x :: st) A P := by
  subst hx
  subst hy
  exact hpa_irem hI (hn_nz (by omega)) (k _ (hn_rem h0 h1))
theorem hpj_iremU {x y : Int32} {ey : Int} (hI : hc_get tb pc = some (.irem, len, r1, r2)) (hy : y.toInt = ey) (h1 : ¬ ey = 0) (k : ∀ z : Int32, hpa fg d ret tb (pc + 1) l (.int z :: st) A P) : hpa fg d ret tb pc l (.int y :: .int x :: st) A P := by
  subst hy
  exact hpa_irem hI (hn_nz h1) (k _)
theorem hpj_clt {off : Int} {x y : Int32} {ex ey : Int} (hI : hc_get tb pc = some (.if_icmp .lt off, len, r1, r2)) (hx : x.toInt = ex) (hy : y.toInt = ey) (kt : ex < ey → hpa fg d ret tb r1 l st A P) (kf : ey ≤ ex → hpa fg d ret tb (pc + 3) l st A P) : hpa fg d ret tb pc l (.int y :: .int x :: st) A P := by
  subst hx
  subst hy
  refine hpa_icmp hI (fun q => kt (hn_lt.mp q)) (fun q => kf ?_)
  have := hn_f hn_lt q
  omega
theorem hpj_zlt {off : Int} {x : Int32} {ex : Int} (hI : hc_get tb pc = some (.ifCond .lt off, len, r1, r2)) (hx : x.toInt = ex) (kt : ex < 0 → hpa fg d ret tb r1 l st A P) (kf : 0 ≤ ex → hpa fg d ret tb (pc + 3) l st A P) : hpa fg d ret tb pc l (.int x :: st) A P := by
  subst hx
  have h00 : (0 : Int32).toInt = 0 := by decide
  refine hpa_if hI (fun q => kt ?_) (fun q => kf ?_)
  · have := (hn_lt (x := x) (y := 0)).mp q
    rw [h00] at this
    exact this
  · have := hn_f (hn_lt (x := x) (y := 0)) q
    rw [h00] at this
    omega
theorem hpj_cge {off : Int} {x y : Int32} {ex ey : Int} (hI : hc_get tb pc = some (.if_icmp .ge off, len, r1, r2)) (hx : x.toInt = ex) (hy : y.toInt = ey) (kt : ey ≤ ex → hpa fg d ret tb r1 l st A P) (kf : ex < ey → hpa fg d ret tb (pc + 3) l st A P) : hpa fg d ret tb pc l (.int y :: .int x :: st) A P := by
  subst hx
  subst hy
  refine hpa_icmp hI (fun q => kt (hn_ge.mp q)) (fun q => kf ?_)
  have := hn_f hn_ge q
  omega
theorem hpj_zge {off : Int} {x : Int32} {ex : Int} (hI : hc_get tb pc = some (.ifCond .ge off, len, r1, r2)) (hx : x.toInt = ex) (kt : 0 ≤ ex → hpa fg d ret tb r1 l st A P) (kf : ex < 0 → hpa fg d ret tb (pc + 3) l st A P) : hpa fg d ret tb pc l (.int x :: st) A P := by
  subst hx
  have h00 : (0 : Int32).toInt = 0 := by decide
  refine hpa_if hI (fun q => kt ?_) (fun q => kf ?_)
  · have := (hn_ge (x := x) (y := 0)).mp q
    rw [h00] at this
    exact this
  · have := hn_f (hn_ge (x := x) (y := 0)) q
    rw [h00] at this
    omega
theorem hpj_cgt {off : Int} {x y : Int32} {ex ey : Int} (hI : hc_get tb pc = some (.if_icmp .gt off, len, r1, r2)) (hx : x.toInt = ex) (hy : y.toInt = ey) (kt : ey < ex → hpa fg d ret tb r1 l st A P) (kf : ex ≤ ey → hpa fg d ret tb (pc + 3) l st A P) : hpa fg d ret tb pc l (.int y :: .int x :: st) A P := by
  subst hx
  subst hy
  refine hpa_icmp hI (fun q => kt (hn_gt.mp q)) (fun q => kf ?_)
  have := hn_f hn_gt q
  omega
theorem hpj_zgt {off : Int} {x : Int32} {ex : Int} (hI : hc_get tb pc = some (.ifCond .gt off, len, r1, r2)) (hx : x.toInt = ex) (kt : 0 < ex → hpa fg d ret tb r1 l st A P) (kf : ex ≤ 0 → hpa fg d ret tb (pc + 3) l st A P) : hpa fg d ret tb pc l (.int x :: st) A P := by
  subst hx
  have h00 : (0 : Int32).toInt = 0 := by decide
  refine hpa_if hI (fun q => kt ?_) (fun q => kf ?_)
  · have := (hn_gt (x := x) (y := 0)).mp q
    rw [h00] at this
    exact this
  · have := hn_f (hn_gt (x := x) (y := 0)) q
    rw [h00] at this
    omega
theorem hpj_cle {off : Int} {x y : Int32} {ex ey : Int} (hI : hc_get tb pc = some (.if_icmp .le off, len, r1, r2)) (hx : x.toInt = ex) (hy : y.toInt = ey) (kt : ex ≤ ey → hpa fg d ret tb r1 l st A P) (kf : ey < ex → hpa fg d ret tb (pc + 3) l st A P) : hpa fg d ret tb pc l (.int y :: .int x :: st) A P := by
  subst hx
  subst hy
  refine hpa_icmp hI (fun q => kt (hn_le.mp q)) (fun q => kf ?_)
  have := hn_f hn_le q
  omega
theorem hpj_zle {off : Int} {x : Int32} {ex : Int} (hI : hc_get tb pc = some (.ifCond .le off, len, r1, r2)) (hx : x.toInt = ex) (kt : ex ≤ 0 → hpa fg d ret tb r1 l st A P) (kf : 0 < ex → hpa fg d ret tb (pc + 3) l st A P) : hpa fg d ret tb pc l (.int x :: st) A P := by
  subst hx
  have h00 : (0 : Int32).toInt = 0 := by decide
  refine hpa_if hI (fun q => kt ?_) (fun q => kf ?_)
  · have := (hn_le (x := x) (y := 0)).mp q
    rw [h00] at this
    exact this
  · have := hn_f (hn_le (x := x) (y := 0)) q
    rw [h00] at this
    omega
theorem hpj_ceq {off : Int} {x y : Int32} {ex ey : Int} (hI : hc_get tb pc = some (.if_icmp .eq off, len, r1, r2)) (hx : x.toInt = ex) (hy : y.toInt = ey) (kt : ex = ey → hpa fg d ret tb r1 l st A P) (kf : ¬ ex = ey → hpa fg d ret tb (pc + 3) l st A P) : hpa fg d ret tb pc l (.int y :: .int x :: st) A P := by
  subst hx
  subst hy
  refine hpa_icmp hI (fun q => kt (hn_eq.mp q)) (fun q => kf ?_)
  exact hn_f hn_eq q
theorem hpj_zeq {off : Int} {x : Int32} {ex : Int} (hI : hc_get tb pc = some (.ifCond .eq off, len, r1, r2)) (hx : x.toInt = ex) (kt : ex = 0 → hpa fg d ret tb r1 l st A P) (kf : ¬ ex = 0 → hpa fg d ret tb (pc + 3) l st A P) : hpa fg d ret tb pc l (.int x :: st) A P := by
  subst hx
  have h00 : (0 : Int32).toInt = 0 := by decide
  refine hpa_if hI (fun q => kt ?_) (fun q => kf ?_)
  · have := (hn_eq (x := x) (y := 0)).mp q
    rw [h00] at this
    exact this
  · have := hn_f (hn_eq (x := x) (y := 0)) q
    rw [h00] at this
    exact this
theorem hpj_cne {off : Int} {x y : Int32} {ex ey : Int} (hI : hc_get tb pc = some (.if_icmp .ne off, len, r1, r2)) (hx : x.toInt = ex) (hy : y.toInt = ey) (kt : ¬ ex = ey → hpa fg d ret tb r1 l st A P) (kf : ex = ey → hpa fg d ret tb (pc + 3) l st A P) : hpa fg d ret tb pc l (.int y :: .int x :: st) A P := by
  subst hx
  subst hy
  refine hpa_icmp hI (fun q => kt (hn_ne.mp q)) (fun q => kf ?_)
  exact Classical.not_not.mp (hn_f hn_ne q)
theorem hpj_zne {off : Int} {x : Int32} {ex : Int} (hI : hc_get tb pc = some (.ifCond .ne off, len, r1, r2)) (hx : x.toInt = ex) (kt : ¬ ex = 0 → hpa fg d ret tb r1 l st A P) (kf : ex = 0 → hpa fg d ret tb (pc + 3) l st A P) : hpa fg d ret tb pc l (.int x :: st) A P := by
  subst hx
  have h00 : (0 : Int32).toInt = 0 := by decide
  refine hpa_if hI (fun q => kt ?_) (fun q => kf ?_)
  · have := (hn_ne (x := x) (y := 0)).mp q
    rw [h00] at this
    exact this
  · have := hn_f (hn_ne (x := x) (y := 0)) q
    rw [h00] at this
    exact Classical.not_not.mp this
theorem hpj_getI {z i : Nat} {ks : List Nat} (hI : hc_get tb pc = some (.getfield z, len, r1, r2)) (hs : hc_get hs_sh i = some (3, r1, ks)) (hk : hc_nth ks r2 = some 0) (k : ∀ v : Int32, A.1 i r2 = v → hpa fg d ret tb (pc + 3) l (.int v :: st) A P) : hpa fg d ret tb pc l (.ref (i + 1) :: st) A P := hpa_get hI hs hk rfl (k _ rfl)
theorem hpj_getK {z i : Nat} {ks : List Nat} {v : Int32} (hI : hc_get tb pc = some (.getfield z, len, r1, r2)) (hs : hc_get hs_sh i = some (3, r1, ks)) (hk : hc_nth ks r2 = some 0) (hv : A.1 i r2 = v) (k : hpa fg d ret tb (pc + 3) l (.int v :: st) A P) : hpa fg d ret tb pc l (.ref (i + 1) :: st) A P := by
  subst hv
  exact hpa_get hI hs hk rfl k
theorem hpj_getT {z i T : Nat} {ks : List Nat} (hI : hc_get tb pc = some (.getfield z, len, r1, r2)) (hs : hc_get hs_sh i = some (3, r1, ks)) (hk : hc_nth ks r2 = some 100000) (e : A.2.2.2 i r2 = T) (k : hpa fg d ret tb (pc + 3) l (.ref T :: st) A P) : hpa fg d ret tb pc l (.ref (i + 1) :: st) A P := hpa_get hI hs hk (by show Value.ref (A.2.2.2 i r2) = _; rw [e]) k
theorem hpj_iald {i m : Nat} {j : Int32} {ej : Int} (hI : hc_get tb pc = some (.iaload, len, r1, r2)) (hs : hc_get hs_sh i = some (0, 1, [m])) (hj : j.toInt = ej) (h0 : 0 ≤ ej) (h1 : ej < (m : Int)) (k : ∀ v : Int32, A.2.1 i j.toNatClampNeg = v → hpa fg d ret tb (pc + 1) l (.int v :: st) A P) : hpa fg d ret tb pc l (.int j :: .ref (i + 1) :: st) A P := by
  subst hj
  exact hpa_iald hI hs (hn_ix h0 h1).1 (hn_ix h0 h1).2 (k _ rfl)
theorem hpj_bald {i m : Nat} {j : Int32} {ej : Int} (hI : hc_get tb pc = some (.baload, len, r1, r2)) (hs : hc_get hs_sh i = some (0, 0, [m])) (hj : j.toInt = ej) (h0 : 0 ≤ ej) (h1 : ej < (m : Int)) (k : ∀ v : Int32, A.2.1 i j.toNatClampNeg = v → hpa fg d ret tb (pc + 1) l (.int v :: st) A P) : hpa fg d ret tb pc l (.int j :: .ref (i + 1) :: st) A P := by
  subst hj
  exact hpa_bald hI hs (hn_ix h0 h1).1 (hn_ix h0 h1).2 (k _ rfl)
theorem hpj_zald {i m : Nat} {j : Int32} {ej : Int} (hI : hc_get tb pc = some (.baload, len, r1, r2)) (hs : hc_get hs_sh i = some (0, 3, [m])) (hj : j.toInt = ej) (h0 : 0 ≤ ej) (h1 : ej < (m : Int)) (k : ∀ v : Int32, A.2.1 i j.toNatClampNeg = v → hpa fg d ret tb (pc + 1) l (.int v :: st) A P) : hpa fg d ret tb pc l (.int j :: .ref (i + 1) :: st) A P := by
  subst hj
  exact hpa_zald hI hs (hn_ix h0 h1).1 (hn_ix h0 h1).2 (k _ rfl)
theorem hpa_putR {z i x : Nat} {ks : List Nat} (hI : hc_get tb pc = some (.putfield z, len, r1, r2)) (hs : hc_get hs_sh i = some (3, r1, ks)) (hk : hc_nth ks r2 = some 100000) (hf : hc_fit (hc_tyX r1 r2) (.ref x) = true) (k : hpa fg d ret tb (pc + 3) l st (A.1, A.2.1, A.2.2.1, hs_upN A.2.2.2 i r2 x) P) : hpa fg d ret tb pc l (.ref x :: .ref (i + 1) :: st) A P := fun h hR => by
  obtain ⟨h', hp, hR'⟩ := hs_putR (x := x) hR hs hk
  refine hy_step (fun g _ => ?_) (k h' hR')
  unfold hc_step1
  simp only [hI]
  show hi_putfield r1 r2 pc l (.ref x :: .ref (i + 1) :: st) hs_n h 0 0 = _
  unfold hi_putfield
  dsimp only
  rw [hR i _ hs, hs_cell3, hc_objS]
  dsimp only
  rw [hf]
  dsimp only
  rw [hs_fs_at hk]
  dsimp only
  rw [hp]
  rfl
theorem hpa_last {i m : Nat} {j : Int32} {x : Int64} (hI : hc_get tb pc = some (.lastore, len, r1, r2)) (hs : hc_get hs_sh i = some (1, 2, [m])) (h0 : ¬ j < 0) (h1 : j.toNatClampNeg < m) (k : hpa fg d ret tb (pc + 1) l st (A.1, A.2.1, hs_upL A.2.2.1 i j.toNatClampNeg x, A.2.2.2) P) : hpa fg d ret tb pc l (.long x :: .int j :: .ref (i + 1) :: st) A P := fun h hR => by
  obtain ⟨h', hp, hR'⟩ := hs_setL (x := x) hR hs h1
  refine hy_step (fun g _ => ?_) (k h' hR')
  unfold hc_step1
  simp only [hI]
  show hi_lastore pc l (.long x :: .int j :: .ref (i + 1) :: st) hs_n h 0 0 = _
  unfold hi_lastore
  exact hs_ast ((hR i _ hs).trans (congrArg some (hs_cell1 A i 2 m))) (hs_el h0 (hs_al_at h1)) hp
theorem hpj_iinc {z : Nat} {w : Int} {x : Int32} {l' : Int32 → List Value} {ex c : Int} (hI : hc_get tb pc = some (.iinc z w, len, r1, r2)) (hx : hc_nth l r1 = some (.int x)) (he : x.toInt = ex) (hc : (Int32.ofNat r2).toInt = c) (h1 : -2147483648 ≤ ex + c) (h2 : ex + c ≤ 2147483647) (hl : ∀ v, hc_s1 l r1 (.int v) = some (l' v)) (k : ∀ v : Int32, v.toInt = ex + c → hpa fg d ret tb (pc + 3) (l' v) st A P) : hpa fg d ret tb pc l st A P := by
  subst he
  subst hc
  exact hpa_iinc hI hx (hl _) (k _ (hn_add rfl h1 h2))
theorem hpj_iincU {z : Nat} {w : Int} {x : Int32} {l' : Int32 → List Value} (hI : hc_get tb pc = some (.iinc z w, len, r1, r2)) (hx : hc_nth l r1 = some (.int x)) (hl : ∀ v, hc_s1 l r1 (.int v) = some (l' v)) (k : ∀ v : Int32, hpa fg d ret tb (pc + 3) (l' v) st A P) : hpa fg d ret tb pc l st A P := hpa_iinc hI hx (hl _) (k _)
theorem hpj_lald {i m : Nat} {j : Int32} {ej : Int} (hI : hc_get tb pc = some (.laload, len, r1, r2)) (hs : hc_get hs_sh i = some (1, 2, [m])) (hj : j.toInt = ej) (h0 : 0 ≤ ej) (h1 : ej < (m : Int)) (k : ∀ v : Int64, A.2.2.1 i j.toNatClampNeg = v → hpa fg d ret tb (pc + 1) l (.long v :: st) A P) : hpa fg d ret tb pc l (.int j :: .ref (i + 1) :: st) A P := by
  subst hj
  exact hpa_lald hI hs (hn_ix h0 h1).1 (hn_ix h0 h1).2 (k _ rfl)
theorem hpj_strIdx {z : Nat} {x : Int32} (hI : hc_get tb pc = some (.invokevirtual z, len, 2, 7)) (hcat : Nat.ble (hc_cat st) 8 = true) (K : ∀ v : Int32, -1 ≤ v.toInt → v.toInt ≤ 8 → hpa fg d ret tb (pc + 3) l (.int v :: st) A P) : hpa fg d ret tb pc l (.int x :: .retAddr 0 :: st) A P := by
  have h := hixf_rng x (hc_txt 0) 0 (by decide)
  have e : (hc_txt 0).length = 9 := by decide
  exact hpa_strIdx hI hcat (K _ h.1 (by omega))
theorem hpj_strLen {z : Nat} (hI : hc_get tb pc = some (.invokevirtual z, len, 0, 7)) (hcat : Nat.ble (hc_cat st) 8 = true) (K : ∀ v : Int32, v.toInt = 102 → hpa fg d ret tb (pc + 3) l (.int v :: st) A P) : hpa fg d ret tb pc l (.retAddr 1 :: st) A P := hpa_strLen hI hcat (K _ (by decide))
theorem hpj_strChar {z : Nat} {i : Int32} {ei : Int} (hI : hc_get tb pc = some (.invokevirtual z, len, 1, 7)) (hcat : Nat.ble (hc_cat st) 8 = true) (hi : i.toInt = ei) (h0 : 0 ≤ ei) (h1 : ei < 102) (K : ∀ v : Int32, hpa fg d ret tb (pc + 3) l (.int v :: st) A P) : hpa fg d ret tb pc l (.int i :: .retAddr 1 :: st) A P := by
  subst hi
  have e : (hc_txt 1).length = 102 := by decide
  have hlt : i.toNatClampNeg < (hc_txt 1).length := by rw [e]; show i.toInt.toNat < 102; omega
  exact hpa_strChar (k := 1) (b := (hc_txt 1)[i.toNatClampNeg]) hI hcat (hn_ix0 rfl h0) (List.getElem?_eq_getElem hlt) (K _)
theorem hpj_ialdK {i m : Nat} {j v : Int32} {ej : Int} (hI : hc_get tb pc = some (.iaload, len, r1, r2)) (hs : hc_get hs_sh i = some (0, 1, [m])) (hj : j.toInt = ej) (h0 : 0 ≤ ej) (h1 : ej < (m : Int)) (e : A.2.1 i j.toNatClampNeg = v) (k : hpa fg d ret tb (pc + 1) l (.int v :: st) A P) : hpa fg d ret tb pc l (.int j :: .ref (i + 1) :: st) A P := by
  subst hj
  subst e
  exact hpa_iald hI hs (hn_ix h0 h1).1 (hn_ix h0 h1).2 k
theorem hpa_iload_nS {f g1 : Nat} {z : Fin 4} {x : Int32} (hI : hc_get tb pc = some (.iload_n z, len, r1, r2)) (hl : hc_nth l r1 = some (.int x)) (k : hpa (f, g1) d ret tb (pc + 1) l (.int x :: st) A P) : hpa (f + 1, g1) d ret tb pc l st A P := fun h hR => hy_stepS (by unfold hc_step1; simp only [hI]; show hi_iload_n r1 pc l st hs_n h 0 0 = _; unfold hi_iload_n; rw [hl]; rfl) (k h hR)
theorem hpa_iloadS {f g1 : Nat} {z : Nat} {x : Int32} (hI : hc_get tb pc = some (.iload z, len, r1, r2)) (hl : hc_nth l r1 = some (.int x)) (k : hpa (f, g1) d ret tb (pc + 2) l (.int x :: st) A P) : hpa (f + 1, g1) d ret tb pc l st A P := fun h hR => hy_stepS (by unfold hc_step1; simp only [hI]; show hi_iload r1 pc l st hs_n h 0 0 = _; unfold hi_iload; rw [hl]; rfl) (k h hR)
theorem hpa_aload_nS {f g1 : Nat} {z : Fin 4} {x : Nat} (hI : hc_get tb pc = some (.aload_n z, len, r1, r2)) (hl : hc_nth l r1 = some (.ref x)) (k : hpa (f, g1) d ret tb (pc + 1) l (.ref x :: st) A P) : hpa (f + 1, g1) d ret tb pc l st A P := fun h hR => hy_stepS (by unfold hc_step1; simp only [hI]; show hi_aload_n r1 pc l st hs_n h 0 0 = _; unfold hi_aload_n; rw [hl]; rfl) (k h hR)
theorem hpa_aloadS {f g1 : Nat} {z : Nat} {x : Nat} (hI : hc_get tb pc = some (.aload z, len, r1, r2)) (hl : hc_nth l r1 = some (.ref x)) (k : hpa (f, g1) d ret tb (pc + 2) l (.ref x :: st) A P) : hpa (f + 1, g1) d ret tb pc l st A P := fun h hR => hy_stepS (by unfold hc_step1; simp only [hI]; show hi_aload r1 pc l st hs_n h 0 0 = _; unfold hi_aload; rw [hl]; rfl) (k h hR)
theorem hpa_gotoS {f g1 : Nat} {off : Int} (hI : hc_get tb pc = some (.goto off, len, r1, r2)) (k : hpa (f, g1) d ret tb r1 l st A P) : hpa (f + 1, g1) d ret tb pc l st A P := fun h hR => hy_stepS (by
  unfold hc_step1
  simp only [hI]
  rfl) (k h hR)
theorem hpa_call0 {z i ci : Nat} {ks : List Nat} {e : hc_M} {as rest : List Value} {P1 : Option Value → hs_A → Prop} (hI : hc_get tb pc = some (.invokevirtual z, len, r1, 0)) (he : hc_get hm_pg r1 = some e) (hpop : hc_pop e.2.2.2.2.2.1 st [] = some (as, .ref (i + 1) :: rest)) (hs : hc_get hs_sh i = some (3, ci, ks)) (hoc : e.2.2.2.2.1 = ci) (hcat : Nat.ble (hc_cat rest) 8 = true) (hC : hpC fg.2 d r1 e (.ref (i + 1) :: as) A P1) (k : ∀ (r : Option Value) (A' : hs_A), P1 r A' → hpa fg d ret tb (pc + 3) l (hc_app r rest) A' P) : hpa fg d ret tb pc l st A P := fun h hR => by
  cases hc : hx_call fg.2 d r1 e (.ref (i + 1) :: as) hs_n h with
  | none =>
    refine hy_none ?_
    unfold hc_step1
    simp only [hI]
    show hc_inv0 hm_pg (hx_call fg.2 d) r1 pc l st hs_n h 0 0 = _
    unfold hc_inv0
    rw [he]
    dsimp only
    rw [hpop]
    dsimp only
    rw [hR i _ hs, hs_cell3, hoc, hc_objS]
    dsimp only
    rw [hcat]
    dsimp only
    rw [hc]
  | some R1 =>
    obtain ⟨r, h', eR, A', hR', hp⟩ := hC h hR R1 hc
    subst eR
    refine hy_stepG ?_ (k r A' hp h' hR')
    unfold hc_step1
    simp only [hI]
    show hc_inv0 hm_pg (hx_call fg.2 d) r1 pc l st hs_n h 0 0 = _
    unfold hc_inv0
    rw [he]
    dsimp only
    rw [hpop]
    dsimp only
    rw [hR i _ hs, hs_cell3, hoc, hc_objS]
    dsimp only
    rw [hcat]
    dsimp only
    rw [hc]
    rfl
theorem hpa_call2 {z : Nat} {e : hc_M} {as rest : List Value} {P1 : Option Value → hs_A → Prop} (hI : hc_get tb pc = some (.invokestatic z, len, r1, r2)) (h8 : r2 ≠ 8) (he : hc_get hm_pg r1 = some e) (hpop : hc_pop e.2.2.2.2.2.1 st [] = some (as, rest)) (hcat : Nat.ble (hc_cat rest) 8 = true) (hC : hpC fg.2 d r1 e as A P1) (k : ∀ (r : Option Value) (A' : hs_A), P1 r A' → hpa fg d ret tb (pc + 3) l (hc_app r rest) A' P) : hpa fg d ret tb pc l st A P := fun h hR => by
  cases hc : hx_call fg.2 d r1 e as hs_n h with
  | none =>
    refine hy_none ?_
    unfold hc_step1
    simp only [hI]
    show hi_invokestatic hm_pg (hx_call fg.2 d) r1 r2 pc l st hs_n h 0 0 = _
    unfold hi_invokestatic
    split
    · exact absurd rfl h8
    · unfold hc_inv2
      rw [he]
      dsimp only
      rw [hpop]
      dsimp only
      rw [hcat]
      dsimp only
      rw [hc]
  | some R1 =>
    obtain ⟨r, h', eR, A', hR', hp⟩ := hC h hR R1 hc
    subst eR
    refine hy_stepG ?_ (k r A' hp h' hR')
    unfold hc_step1
    simp only [hI]
    show hi_invokestatic hm_pg (hx_call fg.2 d) r1 r2 pc l st hs_n h 0 0 = _
    unfold hi_invokestatic
    split
    · exact absurd rfl h8
    · unfold hc_inv2
      rw [he]
      dsimp only
      rw [hpop]
      dsimp only
      rw [hcat]
      dsimp only
      rw [hc]
      rfl
theorem hpj_putI {z i : Nat} {ks : List Nat} {x : Int32} (hI : hc_get tb pc = some (.putfield z, len, r1, r2)) (hs : hc_get hs_sh i = some (3, r1, ks)) (hk : hc_nth ks r2 = some 0) (hf : hc_fit (hc_tyX r1 r2) (.int x) = true) (k : ∀ A' : hs_A, A'.1 = hs_up A.1 i r2 x → A'.2 = A.2 → hpa fg d ret tb (pc + 3) l st A' P) : hpa fg d ret tb pc l (.int x :: .ref (i + 1) :: st) A P := hpa_putI hI hs hk hf (k _ rfl rfl)
theorem hpj_putR {z i x : Nat} {ks : List Nat} (hI : hc_get tb pc = some (.putfield z, len, r1, r2)) (hs : hc_get hs_sh i = some (3, r1, ks)) (hk : hc_nth ks r2 = some 100000) (hf : hc_fit (hc_tyX r1 r2) (.ref x) = true) (k : ∀ A' : hs_A, A'.1 = A.1 → A'.2.1 = A.2.1 → A'.2.2.1 = A.2.2.1 → A'.2.2.2 = hs_upN A.2.2.2 i r2 x → hpa fg d ret tb (pc + 3) l st A' P) : hpa fg d ret tb pc l (.ref x :: .ref (i + 1) :: st) A P := hpa_putR hI hs hk hf (k _ rfl rfl rfl rfl)
/-! an index out of the row: the method doesn't end -/
theorem hp_elN {a : List Value} {j : Int32} {m : Nat} (hl : a.length = m) (hj : ¬ (0 ≤ j.toInt ∧ j.toInt < (m : Int))) : hc_el a j = none := by
  unfold hc_el
  by_cases q : j < 0
  · rw [decide_eq_true q]
  · rw [decide_eq_false q]
    show hc_nth a j.toNatClampNeg = none
    rw [hc_nth_eq]
    refine List.getElem?_eq_none ?_
    have h0 : (0 : Int32).toInt = 0 := by decide
    have h1 : ¬ j.toInt < 0 := by rw [Int32.lt_iff_toInt_lt, h0] at q; exact q
    show a.length ≤ j.toInt.toNat
    omega
theorem hp_aldN {t i n c s : Nat} {j : Int32} {a : List Value} {h : hc_H} (hg : hc_get h i = some (.inl (t, a))) (hv : hc_el a j = none) : hc_ald t pc l (.int j :: .ref (i + 1) :: st) n h c s = none := by
  unfold hc_ald
  dsimp only
  rw [hg, hc_arrS]
  dsimp only
  rw [hv]
theorem hp_astN {t i n c s : Nat} {j : Int32} {a : List Value} {v : Value} {h : hc_H} (hg : hc_get h i = some (.inl (t, a))) (hv : hc_el a j = none) : hc_ast t i j v pc l st n h c s = none := by
  unfold hc_ast
  rw [hg, hc_arrS]
  dsimp only
  rw [hv]
theorem hpx_iald {i m : Nat} {j : Int32} (hI : hc_get tb pc = some (.iaload, len, r1, r2)) (hs : hc_get hs_sh i = some (0, 1, [m])) (k : 0 ≤ j.toInt → j.toInt < (m : Int) → ∀ v : Int32, A.2.1 i j.toNatClampNeg = v → hpa fg d ret tb (pc + 1) l (.int v :: st) A P) : hpa fg d ret tb pc l (.int j :: .ref (i + 1) :: st) A P := by
  by_cases q : 0 ≤ j.toInt ∧ j.toInt < (m : Int)
  · exact hpj_iald hI hs rfl q.1 q.2 (k q.1 q.2)
  · intro h hR
    refine hy_none ?_
    unfold hc_step1
    simp only [hI]
    show hi_iaload (0, fun _ => none) pc l (.int j :: .ref (i + 1) :: st) hs_n h 0 0 = _
    unfold hi_iaload
    exact hp_aldN ((hR i _ hs).trans (congrArg some (hs_cell0 A i 1 m))) (hp_elN (hs_ar_len A i m) q)
theorem hpx_lald {i m : Nat} {j : Int32} (hI : hc_get tb pc = some (.laload, len, r1, r2)) (hs : hc_get hs_sh i = some (1, 2, [m])) (k : 0 ≤ j.toInt → j.toInt < (m : Int) → ∀ v : Int64, A.2.2.1 i j.toNatClampNeg = v → hpa fg d ret tb (pc + 1) l (.long v :: st) A P) : hpa fg d ret tb pc l (.int j :: .ref (i + 1) :: st) A P := by
  by_cases q : 0 ≤ j.toInt ∧ j.toInt < (m : Int)
  · exact hpj_lald hI hs rfl q.1 q.2 (k q.1 q.2)
  · intro h hR
    refine hy_none ?_
    unfold hc_step1
    simp only [hI]
    show hi_laload pc l (.int j :: .ref (i + 1) :: st) hs_n h 0 0 = _
    unfold hi_laload
    exact hp_aldN ((hR i _ hs).trans (congrArg some (hs_cell1 A i 2 m))) (hp_elN (by unfold hs_al; simp) q)
theorem hpx_bald {i m : Nat} {j : Int32} (hI : hc_get tb pc = some (.baload, len, r1, r2)) (hs : hc_get hs_sh i = some (0, 0, [m])) (k : 0 ≤ j.toInt → j.toInt < (m : Int) → ∀ v : Int32, A.2.1 i j.toNatClampNeg = v → hpa fg d ret tb (pc + 1) l (.int v :: st) A P) : hpa fg d ret tb pc l (.int j :: .ref (i + 1) :: st) A P := by
  by_cases q : 0 ≤ j.toInt ∧ j.toInt < (m : Int)
  · exact hpj_bald hI hs rfl q.1 q.2 (k q.1 q.2)
  · intro h hR
    refine hy_none ?_
    unfold hc_step1
    simp only [hI]
    show hi_baload pc l (.int j :: .ref (i + 1) :: st) hs_n h 0 0 = _
    unfold hi_baload
    have hg : hc_get h i = some (.inl (0, hs_ar A i m)) := (hR i _ hs).trans (congrArg some (hs_cell0 A i 0 m))
    rw [hp_aldN hg (hp_elN (hs_ar_len A i m) q)]
    dsimp only
    unfold hc_ald
    dsimp only
    rw [hg, hc_arr_ne rfl]
theorem hpx_iast {i m : Nat} {j x : Int32} (hI : hc_get tb pc = some (.iastore, len, r1, r2)) (hs : hc_get hs_sh i = some (0, 1, [m])) (k : ∀ A' : hs_A, 0 ≤ j.toInt → j.toInt < (m : Int) → A'.1 = A.1 → A'.2.1 = hs_up A.2.1 i j.toNatClampNeg x → A'.2.2 = A.2.2 → hpa fg d ret tb (pc + 1) l st A' P) : hpa fg d ret tb pc l (.int x :: .int j :: .ref (i + 1) :: st) A P := by
  by_cases q : 0 ≤ j.toInt ∧ j.toInt < (m : Int)
  · exact hpa_iast hI hs (hn_ix q.1 q.2).1 (hn_ix q.1 q.2).2 (k _ q.1 q.2 rfl rfl rfl)
  · intro h hR
    refine hy_none ?_
    unfold hc_step1
    simp only [hI]
    show hi_iastore pc l (.int x :: .int j :: .ref (i + 1) :: st) hs_n h 0 0 = _
    unfold hi_iastore
    exact hp_astN ((hR i _ hs).trans (congrArg some (hs_cell0 A i 1 m))) (hp_elN (hs_ar_len A i m) q)
theorem hpx_bast {i m : Nat} {j x : Int32} (hI : hc_get tb pc = some (.bastore, len, r1, r2)) (hs : hc_get hs_sh i = some (0, 0, [m])) (k : ∀ A' : hs_A, 0 ≤ j.toInt → j.toInt < (m : Int) → A'.1 = A.1 → A'.2.1 = hs_up A.2.1 i j.toNatClampNeg x.toInt8.toInt32 → A'.2.2 = A.2.2 → hpa fg d ret tb (pc + 1) l st A' P) : hpa fg d ret tb pc l (.int x :: .int j :: .ref (i + 1) :: st) A P := by
  by_cases q : 0 ≤ j.toInt ∧ j.toInt < (m : Int)
  · exact hpa_bast hI hs (hn_ix q.1 q.2).1 (hn_ix q.1 q.2).2 (k _ q.1 q.2 rfl rfl rfl)
  · intro h hR
    refine hy_none ?_
    unfold hc_step1
    simp only [hI]
    show hi_bastore pc l (.int x :: .int j :: .ref (i + 1) :: st) hs_n h 0 0 = _
    unfold hi_bastore
    dsimp only
    have hg : hc_get h i = some (.inl (0, hs_ar A i m)) := (hR i _ hs).trans (congrArg some (hs_cell0 A i 0 m))
    rw [hg, hc_arrS]
    exact hp_astN hg (hp_elN (hs_ar_len A i m) q)
theorem hpx_zast {i m : Nat} {j x : Int32} (hI : hc_get tb pc = some (.bastore, len, r1, r2)) (hs : hc_get hs_sh i = some (0, 3, [m])) (hx : x = 0 ∨ x = 1) (k : ∀ A' : hs_A, 0 ≤ j.toInt → j.toInt < (m : Int) → A'.1 = A.1 → A'.2.1 = hs_up A.2.1 i j.toNatClampNeg x → A'.2.2 = A.2.2 → hpa fg d ret tb (pc + 1) l st A' P) : hpa fg d ret tb pc l (.int x :: .int j :: .ref (i + 1) :: st) A P := by
  by_cases q : 0 ≤ j.toInt ∧ j.toInt < (m : Int)
  · exact hpa_zast hI hx hs (hn_ix q.1 q.2).1 (hn_ix q.1 q.2).2 (k _ q.1 q.2 rfl rfl rfl)
  · intro h hR
    refine hy_none ?_
    unfold hc_step1
    simp only [hI]
    show hi_bastore pc l (.int x :: .int j :: .ref (i + 1) :: st) hs_n h 0 0 = _
    unfold hi_bastore
    dsimp only
    have hg : hc_get h i = some (.inl (3, hs_ar A i m)) := (hR i _ hs).trans (congrArg some (hs_cell0 A i 3 m))
    rw [hg, hc_arr_ne rfl]
    dsimp only
    have hb : (decide (x = 0) || decide (x = 1)) = true := by simp [hx]
    rw [hb]
    exact hp_astN hg (hp_elN (hs_ar_len A i m) q)
theorem hpx_last {i m : Nat} {j : Int32} {x : Int64} (hI : hc_get tb pc = some (.lastore, len, r1, r2)) (hs : hc_get hs_sh i = some (1, 2, [m])) (k : ∀ A' : hs_A, 0 ≤ j.toInt → j.toInt < (m : Int) → A'.1 = A.1 → A'.2.1 = A.2.1 → A'.2.2.1 = hs_upL A.2.2.1 i j.toNatClampNeg x → A'.2.2.2 = A.2.2.2 → hpa fg d ret tb (pc + 1) l st A' P) : hpa fg d ret tb pc l (.long x :: .int j :: .ref (i + 1) :: st) A P := by
  by_cases q : 0 ≤ j.toInt ∧ j.toInt < (m : Int)
  · exact hpa_last hI hs (hn_ix q.1 q.2).1 (hn_ix q.1 q.2).2 (k _ q.1 q.2 rfl rfl rfl rfl)
  · intro h hR
    refine hy_none ?_
    unfold hc_step1
    simp only [hI]
    show hi_lastore pc l (.long x :: .int j :: .ref (i + 1) :: st) hs_n h 0 0 = _
    unfold hi_lastore
    exact hp_astN ((hR i _ hs).trans (congrArg some (hs_cell1 A i 2 m))) (hp_elN (by unfold hs_al; simp) q)
end HPA
