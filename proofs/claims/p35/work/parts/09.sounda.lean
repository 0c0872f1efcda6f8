/-! SOUNDNESS: what the evaluator computes, the machine does -/
section HCX
variable {G : hv_G} {p : Program} {l : Launch} {e : Env} {R : Room} {s0 : State} {m : MethodId} {args : Array Value} {below : List Frame} {meth : Method} {cd : Code} {nL : Nat} {Q : State → Prop} {Ts : List Cond} {cc : ByteArray} {oc : Nat} {LS : Nat × (Nat → Option Int32)} {call : Nat → hc_M → List Value → Nat → hc_H → Option hc_R} {fr lo : Nat}
/-- what is known of the script's ints, and the symbols made of them: j shifted by s (10000, 20000), cut to a byte (30000) -/
def hc_LL (G : hv_G) (LS : Nat × (Nat → Option Int32)) : Prop := (LS.1 = 0 ∨ LS.1 = G.1.2.2) ∧ LS.1 < 10000 ∧ (∀ (j : Nat) (x : Int32), LS.2 j = some x → (j < 100000 → G.2.1 j = x) ∧ (100000 ≤ j → j < 200000 → ¬ G.2.1 (j - 100000) = 0) ∧ (200000 ≤ j → G.2.1 (j - 200000) < 0 ∨ x < G.2.1 (j - 200000))) ∧ (∀ (j : Nat) (y : Int32), j < 100 → ¬ y < 0 → y < 32 → G.2.1 (10000 + 100 * j + y.toNatClampNeg) = ((G.2.1 j).toUInt32 >>> (y.toUInt32 &&& Int32.toUInt32 31)).toInt32 ∧ G.2.1 (20000 + 100 * j + y.toNatClampNeg) = (G.2.1 j) >>> (y &&& 31)) ∧ ∀ c : Nat, 10000 ≤ c → c < 30000 → G.2.1 (30000 + c) = (G.2.1 c).toInt8.toInt32
def hc_W (G : hv_G) (p : Program) (l : Launch) (e : Env) (R : Room) (s0 : State) (m : MethodId) (args : Array Value) (below : List Frame) (meth : Method) (cd : Code) (nL : Nat) (Q : State → Prop) (pc : Nat) (lc st : List Value) (n : Nat) (h : hc_H) (c s : Nat) : Prop := hv_W G p l e R s0 m args below meth cd nL Q n (hc_f h) c s pc (hc_lv lc) st
/-- a step that goes on: the counts grow, the locals stay as many, and from there the machine comes here -/
def hc_go (G : hv_G) (p : Program) (l : Launch) (e : Env) (R : Room) (s0 : State) (m : MethodId) (args : Array Value) (below : List Frame) (meth : Method) (cd : Code) (nL : Nat) (pc : Nat) (lc st : List Value) (n : Nat) (h : hc_H) (c s : Nat) (S : hc_S) : Prop := c ≤ S.2.2.2.2.2.1 ∧ s ≤ S.2.2.2.2.2.2 ∧ S.2.1.length = lc.length ∧ (S.2.2.2.2.2.1 ≤ R.cells → S.2.2.2.2.2.2 ≤ R.slots → ∀ Q : State → Prop, hc_W G p l e R s0 m args below meth cd nL Q S.1 S.2.1 S.2.2.1 S.2.2.2.1 S.2.2.2.2.1 S.2.2.2.2.2.1 S.2.2.2.2.2.2 → hc_W G p l e R s0 m args below meth cd nL Q pc lc st n h c s)
def hc_end (G : hv_G) (p : Program) (l : Launch) (e : Env) (R : Room) (s0 : State) (m : MethodId) (args : Array Value) (below : List Frame) (meth : Method) (cd : Code) (nL : Nat) (pc : Nat) (lc st : List Value) (n : Nat) (h : hc_H) (c s : Nat) (r : Option Value) : Prop := hc_W G p l e R s0 m args below meth cd nL (MQ below (hv_Qc G n (hc_f h) r) args s0 c s (fun q => G.1.1 ≤ q)) pc lc st n h c s
def hc_res (G : hv_G) (p : Program) (l : Launch) (e : Env) (R : Room) (s0 : State) (m : MethodId) (args : Array Value) (below : List Frame) (meth : Method) (cd : Code) (nL : Nat) (pc : Nat) (lc st : List Value) (n : Nat) (h : hc_H) (c s : Nat) (r : hc_S ⊕ Option Value) : Prop := match r with
  | .inl S => hc_go G p l e R s0 m args below meth cd nL pc lc st n h c s S
  | .inr r => hc_end G p l e R s0 m args below meth cd nL pc lc st n h c s r
theorem hc_mono {lv lv' : List (Nat × Value)} {n : Nat} {hp : hv_H} {c s pc : Nat} {st : List Value} (h : ∀ q ∈ lv', q ∈ lv) (k : hv_W G p l e R s0 m args below meth cd nL Q n hp c s pc lv' st) : hv_W G p l e R s0 m args below meth cd nL Q n hp c s pc lv st := fun H locs ls h1 h2 h3 h4 => k H locs ls h1 h2 h3 ⟨h4.1, h4.2.1, fun q hq => by
  obtain ⟨q0, hq0, rfl⟩ := List.mem_map.mp hq
  exact h4.2.2 _ (List.mem_map.mpr ⟨q0, h q0 hq0, rfl⟩)⟩
theorem hc_lvm {lc : List Value} {i : Nat} {v : Value} (h : hc_nth lc i = some v) (hv : hc_isV v = true) : (i, v) ∈ hc_lv lc := hc_lv_mem.mpr ⟨by rw [← hc_nth_eq]; exact h, hv⟩
theorem hc_fI {t : hc_H} {i : Nat} {x : hc_C} (h : hc_get t i = some x) : hc_f t i = some (hc_toE x) := by unfold hc_f; rw [h]; rfl
theorem hc_arr_ok {t : Nat} {x : Option hc_C} {a : List Value} (h : hc_arr t x = some a) : x = some (.inl (t, a)) := by
  unfold hc_arr at h
  split at h
  next b =>
    split at h
    next hb =>
      cases h
      have := Nat.eq_of_beq_eq_true hb
      rw [← this]
    · cases h
  · cases h
theorem hc_obj_ok {t : Nat} {x : Option hc_C} {a : List Value} (h : hc_obj t x = some a) : x = some (.inr (t, a)) := by
  unfold hc_obj at h
  split at h
  next b =>
    split at h
    next hb =>
      cases h
      have := Nat.eq_of_beq_eq_true hb
      rw [← this]
    · cases h
  · cases h
theorem hc_el_ok {a : List Value} {j : Int32} {v : Value} (h : hc_el a j = some v) : vp_in j a.length ∧ a.getD j.toNatClampNeg .null = v := by
  unfold hc_el at h
  split at h
  · cases h
  next hj =>
    rw [hc_nth_eq] at h
    have hlt := (List.getElem?_eq_some_iff.mp h).1
    refine ⟨?_, ?_⟩
    · rintro (q | q)
      · exact of_decide_eq_false hj q
      · omega
    · rw [List.getD_eq_getElem?_getD, h]
      rfl
theorem hc_toE_set {a : List Value} {j : Nat} {v : Value} (hj : j < a.length) : (fun i => (a.set j v).getD i .null) = hv_uv (fun i => a.getD i .null) j v := by
  funext i
  unfold hv_uv
  rw [List.getD_eq_getElem?_getD, List.getElem?_set]
  by_cases h : j = i
  · subst h
    simp [hj]
  · have h' : ¬ i = j := fun q => h q.symm
    rw [if_neg h, if_neg h']
    exact (List.getD_eq_getElem?_getD).symm
theorem hc_two_ok {v : Value} (h : hc_two2 v = false) : v.category = 1 := by cases v <;> simp_all [hc_two2, Value.category]

theorem hs_iconst (X : hv_X G p s0 m args cd Ts (hc_own oc) cc nL) (hT : ∀ w ∈ hc_gw, w ∈ Ts) {pc n c s : Nat} {lc st : List Value} {h : hc_H} {r : hc_S ⊕ Option Value} {r1 r2 len : Nat} {ini : Bool} {z : Int} (hd : decode cc pc = .ok (.iconst z, len)) (hk : hc_ok oc ini pc (.iconst z) len r1 r2 = true) (hh : hi_iconst r1 pc lc st n h c s = some r) : hc_res G p l e R s0 m args below meth cd nL pc lc st n h c s r := by
  simp only [hc_ok, Bool.and_eq_true, decide_eq_true_eq] at hk
  have hl : len = 1 := Nat.eq_of_beq_eq_true hk.1
  subst hl
  unfold hi_iconst at hh
  cases hh
  exact ⟨Nat.le_refl _, Nat.le_refl _, rfl, fun _ _ Q k => hw_iconst X hd hk.2 k⟩

theorem hs_bipush (X : hv_X G p s0 m args cd Ts (hc_own oc) cc nL) (hT : ∀ w ∈ hc_gw, w ∈ Ts) {pc n c s : Nat} {lc st : List Value} {h : hc_H} {r : hc_S ⊕ Option Value} {r1 r2 len : Nat} {ini : Bool} {z : Int} (hd : decode cc pc = .ok (.bipush z, len)) (hk : hc_ok oc ini pc (.bipush z) len r1 r2 = true) (hh : hi_bipush r1 pc lc st n h c s = some r) : hc_res G p l e R s0 m args below meth cd nL pc lc st n h c s r := by
  simp only [hc_ok, Bool.and_eq_true, decide_eq_true_eq] at hk
  have hl : len = 2 := Nat.eq_of_beq_eq_true hk.1
  subst hl
  unfold hi_bipush at hh
  cases hh
  exact ⟨Nat.le_refl _, Nat.le_refl _, rfl, fun _ _ Q k => hw_bipush X hd hk.2 k⟩

theorem hs_sipush (X : hv_X G p s0 m args cd Ts (hc_own oc) cc nL) (hT : ∀ w ∈ hc_gw, w ∈ Ts) {pc n c s : Nat} {lc st : List Value} {h : hc_H} {r : hc_S ⊕ Option Value} {r1 r2 len : Nat} {ini : Bool} {z : Int} (hd : decode cc pc = .ok (.sipush z, len)) (hk : hc_ok oc ini pc (.sipush z) len r1 r2 = true) (hh : hi_sipush r1 pc lc st n h c s = some r) : hc_res G p l e R s0 m args below meth cd nL pc lc st n h c s r := by
  simp only [hc_ok, Bool.and_eq_true, decide_eq_true_eq] at hk
  have hl : len = 3 := Nat.eq_of_beq_eq_true hk.1
  subst hl
  unfold hi_sipush at hh
  cases hh
  exact ⟨Nat.le_refl _, Nat.le_refl _, rfl, fun _ _ Q k => hw_sipush X hd hk.2 k⟩

theorem hs_lconst (X : hv_X G p s0 m args cd Ts (hc_own oc) cc nL) (hT : ∀ w ∈ hc_gw, w ∈ Ts) {pc n c s : Nat} {lc st : List Value} {h : hc_H} {r : hc_S ⊕ Option Value} {r1 r2 len : Nat} {ini : Bool} {z : Fin 2} (hd : decode cc pc = .ok (.lconst z, len)) (hk : hc_ok oc ini pc (.lconst z) len r1 r2 = true) (hh : hi_lconst r1 pc lc st n h c s = some r) : hc_res G p l e R s0 m args below meth cd nL pc lc st n h c s r := by
  simp only [hc_ok, Bool.and_eq_true, decide_eq_true_eq] at hk
  have hl : len = 1 := Nat.eq_of_beq_eq_true hk.1
  subst hl
  unfold hi_lconst at hh
  cases hh
  exact ⟨Nat.le_refl _, Nat.le_refl _, rfl, fun _ _ Q k => hw_lconst X hd hk.2 k⟩

theorem hs_ldc_w (X : hv_X G p s0 m args cd Ts (hc_own oc) cc nL) (hT : ∀ w ∈ hc_gw, w ∈ Ts) {pc n c s : Nat} {lc st : List Value} {h : hc_H} {r : hc_S ⊕ Option Value} {r1 r2 len : Nat} {ini : Bool} {z : Nat} (hd : decode cc pc = .ok (.ldc_w z, len)) (hk : hc_ok oc ini pc (.ldc_w z) len r1 r2 = true) (hh : hi_ldc_w r1 pc lc st n h c s = some r) : hc_res G p l e R s0 m args below meth cd nL pc lc st n h c s r := by
  simp only [hc_ok, Bool.and_eq_true] at hk
  have hl : len = 3 := Nat.eq_of_beq_eq_true hk.2
  subst hl
  obtain ⟨pl, hpl⟩ := hc_m4_ok hk.1
  unfold hi_ldc_w at hh
  cases hh
  exact ⟨Nat.le_refl _, Nat.le_refl _, rfl, fun _ _ Q k => hw_ldcw X hd (hT _ (hc_in (hl_CT_ok _ hpl) rfl)) k⟩

theorem hs_ldc2_w (X : hv_X G p s0 m args cd Ts (hc_own oc) cc nL) (hT : ∀ w ∈ hc_gw, w ∈ Ts) {pc n c s : Nat} {lc st : List Value} {h : hc_H} {r : hc_S ⊕ Option Value} {r1 r2 len : Nat} {ini : Bool} {z : Nat} (hd : decode cc pc = .ok (.ldc2_w z, len)) (hk : hc_ok oc ini pc (.ldc2_w z) len r1 r2 = true) (hh : hi_ldc2_w r1 pc lc st n h c s = some r) : hc_res G p l e R s0 m args below meth cd nL pc lc st n h c s r := by
  simp only [hc_ok, Bool.and_eq_true] at hk
  have hl : len = 3 := Nat.eq_of_beq_eq_true hk.2
  subst hl
  obtain ⟨pl, hpl⟩ := hc_m4_ok hk.1
  unfold hi_ldc2_w at hh
  cases hh
  exact ⟨Nat.le_refl _, Nat.le_refl _, rfl, fun _ _ Q k => hw_ldc2 X hd (hT _ (hc_in (hl_CL_ok _ hpl) rfl)) k⟩

theorem hs_ldc (X : hv_X G p s0 m args cd Ts (hc_own oc) cc nL) (hT : ∀ w ∈ hc_gw, w ∈ Ts) {pc n c s : Nat} {lc st : List Value} {h : hc_H} {r : hc_S ⊕ Option Value} {r1 r2 len : Nat} {ini : Bool} {z : Nat} (hd : decode cc pc = .ok (.ldc z, len)) (hk : hc_ok oc ini pc (.ldc z) len r1 r2 = true) (hh : hi_ldc r1 r2 pc lc st n h c s = some r) : hc_res G p l e R s0 m args below meth cd nL pc lc st n h c s r := by
  simp only [hc_ok, Bool.and_eq_true] at hk
  have hl : len = 2 := Nat.eq_of_beq_eq_true hk.1
  subst hl
  obtain ⟨-, hk⟩ := hk
  unfold hi_ldc at hh
  split at hh
  · have hk' : hc_m4 hl_CT oc z r1 = true := hk
    obtain ⟨pl, hpl⟩ := hc_m4_ok hk'
    cases hh
    exact ⟨Nat.le_refl _, Nat.le_refl _, rfl, fun _ _ Q k => hw_ldc X hd (hT _ (hc_in (hl_CT_ok _ hpl) rfl)) k⟩
  next hne =>
    have hk' : (Nat.beq oc 6 && Nat.beq z (hx_ix r1)) = true := by
      split at hk
      · exact absurd rfl hne
      · exact hk
    simp only [Bool.and_eq_true] at hk'
    have e1 := Nat.eq_of_beq_eq_true hk'.1
    have e2 := Nat.eq_of_beq_eq_true hk'.2
    subst e1 e2
    cases hh
    exact ⟨Nat.le_refl _, Nat.le_refl _, rfl, fun _ _ Q k => hw_ldcT X hd k⟩

theorem hs_iload_n (X : hv_X G p s0 m args cd Ts (hc_own oc) cc nL) (hT : ∀ w ∈ hc_gw, w ∈ Ts) {pc n c s : Nat} {lc st : List Value} {h : hc_H} {r : hc_S ⊕ Option Value} {r1 r2 len : Nat} {ini : Bool} {z : Fin 4} (hd : decode cc pc = .ok (.iload_n z, len)) (hk : hc_ok oc ini pc (.iload_n z) len r1 r2 = true) (hh : hi_iload_n r1 pc lc st n h c s = some r) : hc_res G p l e R s0 m args below meth cd nL pc lc st n h c s r := by
  simp only [hc_ok, Bool.and_eq_true, decide_eq_true_eq] at hk
  have hl : len = 1 := Nat.eq_of_beq_eq_true hk.1
  subst hl
  unfold hi_iload_n at hh
  split at hh
  next x hx =>
    cases hh
    exact ⟨Nat.le_refl _, Nat.le_refl _, rfl, fun _ _ Q k => hw_iload_n X hd (Nat.eq_of_beq_eq_true hk.2) (hc_lvm hx rfl) k⟩
  next x hx =>
    cases hh
    exact ⟨Nat.le_refl _, Nat.le_refl _, rfl, fun _ _ Q k => hw_iload_nS X hd (Nat.eq_of_beq_eq_true hk.2) (hc_lvm hx rfl) k⟩
  · cases hh

theorem hs_iload (X : hv_X G p s0 m args cd Ts (hc_own oc) cc nL) (hT : ∀ w ∈ hc_gw, w ∈ Ts) {pc n c s : Nat} {lc st : List Value} {h : hc_H} {r : hc_S ⊕ Option Value} {r1 r2 len : Nat} {ini : Bool} {z : Nat} (hd : decode cc pc = .ok (.iload z, len)) (hk : hc_ok oc ini pc (.iload z) len r1 r2 = true) (hh : hi_iload r1 pc lc st n h c s = some r) : hc_res G p l e R s0 m args below meth cd nL pc lc st n h c s r := by
  simp only [hc_ok, Bool.and_eq_true, decide_eq_true_eq] at hk
  have hl : len = 2 := Nat.eq_of_beq_eq_true hk.1
  subst hl
  have hz := Nat.eq_of_beq_eq_true hk.2
  subst hz
  unfold hi_iload at hh
  split at hh
  next x hx =>
    cases hh
    exact ⟨Nat.le_refl _, Nat.le_refl _, rfl, fun _ _ Q k => hw_iload X hd (hc_lvm hx rfl) k⟩
  next x hx =>
    cases hh
    exact ⟨Nat.le_refl _, Nat.le_refl _, rfl, fun _ _ Q k => hw_iloadS X hd (hc_lvm hx rfl) k⟩
  · cases hh

theorem hs_lload_n (X : hv_X G p s0 m args cd Ts (hc_own oc) cc nL) (hT : ∀ w ∈ hc_gw, w ∈ Ts) {pc n c s : Nat} {lc st : List Value} {h : hc_H} {r : hc_S ⊕ Option Value} {r1 r2 len : Nat} {ini : Bool} {z : Fin 4} (hd : decode cc pc = .ok (.lload_n z, len)) (hk : hc_ok oc ini pc (.lload_n z) len r1 r2 = true) (hh : hi_lload_n r1 pc lc st n h c s = some r) : hc_res G p l e R s0 m args below meth cd nL pc lc st n h c s r := by
  simp only [hc_ok, Bool.and_eq_true, decide_eq_true_eq] at hk
  have hl : len = 1 := Nat.eq_of_beq_eq_true hk.1
  subst hl
  unfold hi_lload_n at hh
  split at hh
  next x hx =>
    cases hh
    exact ⟨Nat.le_refl _, Nat.le_refl _, rfl, fun _ _ Q k => hw_lload_n X hd (Nat.eq_of_beq_eq_true hk.2) (hc_lvm hx rfl) k⟩
  · cases hh

theorem hs_lload (X : hv_X G p s0 m args cd Ts (hc_own oc) cc nL) (hT : ∀ w ∈ hc_gw, w ∈ Ts) {pc n c s : Nat} {lc st : List Value} {h : hc_H} {r : hc_S ⊕ Option Value} {r1 r2 len : Nat} {ini : Bool} {z : Nat} (hd : decode cc pc = .ok (.lload z, len)) (hk : hc_ok oc ini pc (.lload z) len r1 r2 = true) (hh : hi_lload r1 pc lc st n h c s = some r) : hc_res G p l e R s0 m args below meth cd nL pc lc st n h c s r := by
  simp only [hc_ok, Bool.and_eq_true, decide_eq_true_eq] at hk
  have hl : len = 2 := Nat.eq_of_beq_eq_true hk.1
  subst hl
  have hz := Nat.eq_of_beq_eq_true hk.2
  subst hz
  unfold hi_lload at hh
  split at hh
  next x hx =>
    cases hh
    exact ⟨Nat.le_refl _, Nat.le_refl _, rfl, fun _ _ Q k => hw_lload X hd (hc_lvm hx rfl) k⟩
  · cases hh

theorem hs_aload_n (X : hv_X G p s0 m args cd Ts (hc_own oc) cc nL) (hT : ∀ w ∈ hc_gw, w ∈ Ts) {pc n c s : Nat} {lc st : List Value} {h : hc_H} {r : hc_S ⊕ Option Value} {r1 r2 len : Nat} {ini : Bool} {z : Fin 4} (hd : decode cc pc = .ok (.aload_n z, len)) (hk : hc_ok oc ini pc (.aload_n z) len r1 r2 = true) (hh : hi_aload_n r1 pc lc st n h c s = some r) : hc_res G p l e R s0 m args below meth cd nL pc lc st n h c s r := by
  simp only [hc_ok, Bool.and_eq_true, decide_eq_true_eq] at hk
  have hl : len = 1 := Nat.eq_of_beq_eq_true hk.1
  subst hl
  unfold hi_aload_n at hh
  split at hh
  next x hx =>
    cases hh
    exact ⟨Nat.le_refl _, Nat.le_refl _, rfl, fun _ _ Q k => hw_aload_n X hd (Nat.eq_of_beq_eq_true hk.2) (hc_lvm hx rfl) k⟩
  · cases hh

theorem hs_aload (X : hv_X G p s0 m args cd Ts (hc_own oc) cc nL) (hT : ∀ w ∈ hc_gw, w ∈ Ts) {pc n c s : Nat} {lc st : List Value} {h : hc_H} {r : hc_S ⊕ Option Value} {r1 r2 len : Nat} {ini : Bool} {z : Nat} (hd : decode cc pc = .ok (.aload z, len)) (hk : hc_ok oc ini pc (.aload z) len r1 r2 = true) (hh : hi_aload r1 pc lc st n h c s = some r) : hc_res G p l e R s0 m args below meth cd nL pc lc st n h c s r := by
  simp only [hc_ok, Bool.and_eq_true, decide_eq_true_eq] at hk
  have hl : len = 2 := Nat.eq_of_beq_eq_true hk.1
  subst hl
  have hz := Nat.eq_of_beq_eq_true hk.2
  subst hz
  unfold hi_aload at hh
  split at hh
  next x hx =>
    cases hh
    exact ⟨Nat.le_refl _, Nat.le_refl _, rfl, fun _ _ Q k => hw_aload X hd (hc_lvm hx rfl) k⟩
  · cases hh

theorem hs_istore_n (X : hv_X G p s0 m args cd Ts (hc_own oc) cc nL) (hT : ∀ w ∈ hc_gw, w ∈ Ts) {pc n c s : Nat} {lc st : List Value} {h : hc_H} {r : hc_S ⊕ Option Value} {r1 r2 len : Nat} {ini : Bool} {z : Fin 4} (hn : lc.length = nL) (hd : decode cc pc = .ok (.istore_n z, len)) (hk : hc_ok oc ini pc (.istore_n z) len r1 r2 = true) (hh : hi_istore_n r1 pc lc st n h c s = some r) : hc_res G p l e R s0 m args below meth cd nL pc lc st n h c s r := by
  simp only [hc_ok, Bool.and_eq_true, decide_eq_true_eq] at hk
  have hl : len = 1 := Nat.eq_of_beq_eq_true hk.1
  subst hl
  unfold hi_istore_n at hh
  split at hh
  next x st =>
    split at hh
    next l' hl' =>
      cases hh
      obtain ⟨g1, g2, -⟩ := hc_s1_ok hl'
      exact ⟨Nat.le_refl _, Nat.le_refl _, by subst g2; simp, fun _ _ Q k => hw_istore_n X hd (Nat.eq_of_beq_eq_true hk.2) (by rw [← hn]; exact g1) (hc_mono (hc_lv_s1 hl') k)⟩
    · cases hh
  next x st =>
    split at hh
    next l' hl' =>
      cases hh
      obtain ⟨g1, g2, -⟩ := hc_s1_ok hl'
      exact ⟨Nat.le_refl _, Nat.le_refl _, by subst g2; simp, fun _ _ Q k => hw_istore_nS X hd (Nat.eq_of_beq_eq_true hk.2) (by rw [← hn]; exact g1) (hc_mono (hc_lv_s1 hl') k)⟩
    · cases hh
  · cases hh

theorem hs_istore (X : hv_X G p s0 m args cd Ts (hc_own oc) cc nL) (hT : ∀ w ∈ hc_gw, w ∈ Ts) {pc n c s : Nat} {lc st : List Value} {h : hc_H} {r : hc_S ⊕ Option Value} {r1 r2 len : Nat} {ini : Bool} {z : Nat} (hn : lc.length = nL) (hd : decode cc pc = .ok (.istore z, len)) (hk : hc_ok oc ini pc (.istore z) len r1 r2 = true) (hh : hi_istore r1 pc lc st n h c s = some r) : hc_res G p l e R s0 m args below meth cd nL pc lc st n h c s r := by
  simp only [hc_ok, Bool.and_eq_true, decide_eq_true_eq] at hk
  have hl : len = 2 := Nat.eq_of_beq_eq_true hk.1
  subst hl
  have hz := Nat.eq_of_beq_eq_true hk.2
  subst hz
  unfold hi_istore at hh
  split at hh
  next x st =>
    split at hh
    next l' hl' =>
      cases hh
      obtain ⟨g1, g2, -⟩ := hc_s1_ok hl'
      exact ⟨Nat.le_refl _, Nat.le_refl _, by subst g2; simp, fun _ _ Q k => hw_istore X hd (by rw [← hn]; exact g1) (hc_mono (hc_lv_s1 hl') k)⟩
    · cases hh
  next x st =>
    split at hh
    next l' hl' =>
      cases hh
      obtain ⟨g1, g2, -⟩ := hc_s1_ok hl'
      exact ⟨Nat.le_refl _, Nat.le_refl _, by subst g2; simp, fun _ _ Q k => hw_istoreS X hd (by rw [← hn]; exact g1) (hc_mono (hc_lv_s1 hl') k)⟩
    · cases hh
  · cases hh

theorem hs_astore_n (X : hv_X G p s0 m args cd Ts (hc_own oc) cc nL) (hT : ∀ w ∈ hc_gw, w ∈ Ts) {pc n c s : Nat} {lc st : List Value} {h : hc_H} {r : hc_S ⊕ Option Value} {r1 r2 len : Nat} {ini : Bool} {z : Fin 4} (hn : lc.length = nL) (hd : decode cc pc = .ok (.astore_n z, len)) (hk : hc_ok oc ini pc (.astore_n z) len r1 r2 = true) (hh : hi_astore_n r1 pc lc st n h c s = some r) : hc_res G p l e R s0 m args below meth cd nL pc lc st n h c s r := by
  simp only [hc_ok, Bool.and_eq_true, decide_eq_true_eq] at hk
  have hl : len = 1 := Nat.eq_of_beq_eq_true hk.1
  subst hl
  unfold hi_astore_n at hh
  split at hh
  next x st =>
    split at hh
    next l' hl' =>
      cases hh
      obtain ⟨g1, g2, -⟩ := hc_s1_ok hl'
      exact ⟨Nat.le_refl _, Nat.le_refl _, by subst g2; simp, fun _ _ Q k => hw_astore_n X hd (Nat.eq_of_beq_eq_true hk.2) (by rw [← hn]; exact g1) (hc_mono (hc_lv_s1 hl') k)⟩
    · cases hh
  · cases hh

theorem hs_astore (X : hv_X G p s0 m args cd Ts (hc_own oc) cc nL) (hT : ∀ w ∈ hc_gw, w ∈ Ts) {pc n c s : Nat} {lc st : List Value} {h : hc_H} {r : hc_S ⊕ Option Value} {r1 r2 len : Nat} {ini : Bool} {z : Nat} (hn : lc.length = nL) (hd : decode cc pc = .ok (.astore z, len)) (hk : hc_ok oc ini pc (.astore z) len r1 r2 = true) (hh : hi_astore r1 pc lc st n h c s = some r) : hc_res G p l e R s0 m args below meth cd nL pc lc st n h c s r := by
  simp only [hc_ok, Bool.and_eq_true, decide_eq_true_eq] at hk
  have hl : len = 2 := Nat.eq_of_beq_eq_true hk.1
  subst hl
  have hz := Nat.eq_of_beq_eq_true hk.2
  subst hz
  unfold hi_astore at hh
  split at hh
  next x st =>
    split at hh
    next l' hl' =>
      cases hh
      obtain ⟨g1, g2, -⟩ := hc_s1_ok hl'
      exact ⟨Nat.le_refl _, Nat.le_refl _, by subst g2; simp, fun _ _ Q k => hw_astore X hd (by rw [← hn]; exact g1) (hc_mono (hc_lv_s1 hl') k)⟩
    · cases hh
  · cases hh

theorem hs_lstore_n (X : hv_X G p s0 m args cd Ts (hc_own oc) cc nL) (hT : ∀ w ∈ hc_gw, w ∈ Ts) {pc n c s : Nat} {lc st : List Value} {h : hc_H} {r : hc_S ⊕ Option Value} {r1 r2 len : Nat} {ini : Bool} {z : Fin 4} (hn : lc.length = nL) (hd : decode cc pc = .ok (.lstore_n z, len)) (hk : hc_ok oc ini pc (.lstore_n z) len r1 r2 = true) (hh : hi_lstore_n r1 pc lc st n h c s = some r) : hc_res G p l e R s0 m args below meth cd nL pc lc st n h c s r := by
  simp only [hc_ok, Bool.and_eq_true, decide_eq_true_eq] at hk
  have hl : len = 1 := Nat.eq_of_beq_eq_true hk.1
  subst hl
  unfold hi_lstore_n at hh
  split at hh
  next x st =>
    split at hh
    next l' hl' =>
      cases hh
      obtain ⟨g1, g2, -⟩ := hc_s2_ok hl'
      exact ⟨Nat.le_refl _, Nat.le_refl _, by subst g2; simp, fun _ _ Q k => hw_lstore_n X hd (Nat.eq_of_beq_eq_true hk.2) (by rw [← hn]; exact g1) (hc_mono (hc_lv_s2 hl') k)⟩
    · cases hh
  · cases hh

theorem hs_lstore (X : hv_X G p s0 m args cd Ts (hc_own oc) cc nL) (hT : ∀ w ∈ hc_gw, w ∈ Ts) {pc n c s : Nat} {lc st : List Value} {h : hc_H} {r : hc_S ⊕ Option Value} {r1 r2 len : Nat} {ini : Bool} {z : Nat} (hn : lc.length = nL) (hd : decode cc pc = .ok (.lstore z, len)) (hk : hc_ok oc ini pc (.lstore z) len r1 r2 = true) (hh : hi_lstore r1 pc lc st n h c s = some r) : hc_res G p l e R s0 m args below meth cd nL pc lc st n h c s r := by
  simp only [hc_ok, Bool.and_eq_true, decide_eq_true_eq] at hk
  have hl : len = 2 := Nat.eq_of_beq_eq_true hk.1
  subst hl
  have hz := Nat.eq_of_beq_eq_true hk.2
  subst hz
  unfold hi_lstore at hh
  split at hh
  next x st =>
    split at hh
    next l' hl' =>
      cases hh
      obtain ⟨g1, g2, -⟩ := hc_s2_ok hl'
      exact ⟨Nat.le_refl _, Nat.le_refl _, by subst g2; simp, fun _ _ Q k => hw_lstore X hd (by rw [← hn]; exact g1) (hc_mono (hc_lv_s2 hl') k)⟩
    · cases hh
  · cases hh

theorem hs_iinc (X : hv_X G p s0 m args cd Ts (hc_own oc) cc nL) (hT : ∀ w ∈ hc_gw, w ∈ Ts) {pc n c s : Nat} {lc st : List Value} {h : hc_H} {r : hc_S ⊕ Option Value} {r1 r2 len : Nat} {ini : Bool} {z : Nat} {w : Int} (hn : lc.length = nL) (hd : decode cc pc = .ok (.iinc z w, len)) (hk : hc_ok oc ini pc (.iinc z w) len r1 r2 = true) (hh : hi_iinc r1 r2 pc lc st n h c s = some r) : hc_res G p l e R s0 m args below meth cd nL pc lc st n h c s r := by
  simp only [hc_ok, Bool.and_eq_true, decide_eq_true_eq] at hk
  have hl : len = 3 := Nat.eq_of_beq_eq_true hk.1
  subst hl
  have hz := Nat.eq_of_beq_eq_true hk.2.1
  subst hz
  have hw := hk.2.2
  unfold hi_iinc at hh
  split at hh
  next x hx =>
    split at hh
    next l' hl' =>
      cases hh
      obtain ⟨g1, g2, -⟩ := hc_s1_ok hl'
      rw [← hw] at hl'
      exact ⟨Nat.le_refl _, Nat.le_refl _, by subst g2; simp, fun _ _ Q k => hw_iinc X hd (hc_lvm hx rfl) (by rw [← hn]; exact g1) (hc_mono (hc_lv_s1 hl') k)⟩
    · cases hh
  · cases hh

theorem hs_iadd (X : hv_X G p s0 m args cd Ts (hc_own oc) cc nL) (hT : ∀ w ∈ hc_gw, w ∈ Ts) {pc n c s : Nat} {lc st : List Value} {h : hc_H} {r : hc_S ⊕ Option Value} {r1 r2 len : Nat} {ini : Bool} (hd : decode cc pc = .ok (.iadd, len)) (hk : hc_ok oc ini pc (.iadd) len r1 r2 = true) (hh : hi_iadd pc lc st n h c s = some r) : hc_res G p l e R s0 m args below meth cd nL pc lc st n h c s r := by
  simp only [hc_ok] at hk
  have hl : len = 1 := Nat.eq_of_beq_eq_true hk
  subst hl
  unfold hi_iadd at hh
  split at hh
  next y x st =>
    cases hh
    exact ⟨Nat.le_refl _, Nat.le_refl _, rfl, fun _ _ Q k => hw_iadd X hd k⟩
  · cases hh

theorem hs_isub (X : hv_X G p s0 m args cd Ts (hc_own oc) cc nL) (hT : ∀ w ∈ hc_gw, w ∈ Ts) {pc n c s : Nat} {lc st : List Value} {h : hc_H} {r : hc_S ⊕ Option Value} {r1 r2 len : Nat} {ini : Bool} (hd : decode cc pc = .ok (.isub, len)) (hk : hc_ok oc ini pc (.isub) len r1 r2 = true) (hh : hi_isub pc lc st n h c s = some r) : hc_res G p l e R s0 m args below meth cd nL pc lc st n h c s r := by
  simp only [hc_ok] at hk
  have hl : len = 1 := Nat.eq_of_beq_eq_true hk
  subst hl
  unfold hi_isub at hh
  split at hh
  next y x st =>
    cases hh
    exact ⟨Nat.le_refl _, Nat.le_refl _, rfl, fun _ _ Q k => hw_isub X hd k⟩
  · cases hh

theorem hs_imul (X : hv_X G p s0 m args cd Ts (hc_own oc) cc nL) (hT : ∀ w ∈ hc_gw, w ∈ Ts) {pc n c s : Nat} {lc st : List Value} {h : hc_H} {r : hc_S ⊕ Option Value} {r1 r2 len : Nat} {ini : Bool} (hd : decode cc pc = .ok (.imul, len)) (hk : hc_ok oc ini pc (.imul) len r1 r2 = true) (hh : hi_imul pc lc st n h c s = some r) : hc_res G p l e R s0 m args below meth cd nL pc lc st n h c s r := by
  simp only [hc_ok] at hk
  have hl : len = 1 := Nat.eq_of_beq_eq_true hk
  subst hl
  unfold hi_imul at hh
  split at hh
  next y x st =>
    cases hh
    exact ⟨Nat.le_refl _, Nat.le_refl _, rfl, fun _ _ Q k => hw_imul X hd k⟩
  · cases hh

theorem hs_iand (X : hv_X G p s0 m args cd Ts (hc_own oc) cc nL) (hT : ∀ w ∈ hc_gw, w ∈ Ts) {pc n c s : Nat} {lc st : List Value} {h : hc_H} {r : hc_S ⊕ Option Value} {r1 r2 len : Nat} {ini : Bool} (hd : decode cc pc = .ok (.iand, len)) (hk : hc_ok oc ini pc (.iand) len r1 r2 = true) (hh : hi_iand pc lc st n h c s = some r) : hc_res G p l e R s0 m args below meth cd nL pc lc st n h c s r := by
  simp only [hc_ok] at hk
  have hl : len = 1 := Nat.eq_of_beq_eq_true hk
  subst hl
  unfold hi_iand at hh
  split at hh
  next y x st =>
    cases hh
    exact ⟨Nat.le_refl _, Nat.le_refl _, rfl, fun _ _ Q k => hw_iand X hd k⟩
  · cases hh

theorem hs_ior (X : hv_X G p s0 m args cd Ts (hc_own oc) cc nL) (hT : ∀ w ∈ hc_gw, w ∈ Ts) {pc n c s : Nat} {lc st : List Value} {h : hc_H} {r : hc_S ⊕ Option Value} {r1 r2 len : Nat} {ini : Bool} (hd : decode cc pc = .ok (.ior, len)) (hk : hc_ok oc ini pc (.ior) len r1 r2 = true) (hh : hi_ior pc lc st n h c s = some r) : hc_res G p l e R s0 m args below meth cd nL pc lc st n h c s r := by
  simp only [hc_ok] at hk
  have hl : len = 1 := Nat.eq_of_beq_eq_true hk
  subst hl
  unfold hi_ior at hh
  split at hh
  next y x st =>
    cases hh
    exact ⟨Nat.le_refl _, Nat.le_refl _, rfl, fun _ _ Q k => hw_ior X hd k⟩
  · cases hh

theorem hs_ixor (X : hv_X G p s0 m args cd Ts (hc_own oc) cc nL) (hT : ∀ w ∈ hc_gw, w ∈ Ts) {pc n c s : Nat} {lc st : List Value} {h : hc_H} {r : hc_S ⊕ Option Value} {r1 r2 len : Nat} {ini : Bool} (hd : decode cc pc = .ok (.ixor, len)) (hk : hc_ok oc ini pc (.ixor) len r1 r2 = true) (hh : hi_ixor pc lc st n h c s = some r) : hc_res G p l e R s0 m args below meth cd nL pc lc st n h c s r := by
  simp only [hc_ok] at hk
  have hl : len = 1 := Nat.eq_of_beq_eq_true hk
  subst hl
  unfold hi_ixor at hh
  split at hh
  next y x st =>
    cases hh
    exact ⟨Nat.le_refl _, Nat.le_refl _, rfl, fun _ _ Q k => hw_ixor X hd k⟩
  · cases hh

theorem hs_ishl (X : hv_X G p s0 m args cd Ts (hc_own oc) cc nL) (hT : ∀ w ∈ hc_gw, w ∈ Ts) {pc n c s : Nat} {lc st : List Value} {h : hc_H} {r : hc_S ⊕ Option Value} {r1 r2 len : Nat} {ini : Bool} (hd : decode cc pc = .ok (.ishl, len)) (hk : hc_ok oc ini pc (.ishl) len r1 r2 = true) (hh : hi_ishl pc lc st n h c s = some r) : hc_res G p l e R s0 m args below meth cd nL pc lc st n h c s r := by
  simp only [hc_ok] at hk
  have hl : len = 1 := Nat.eq_of_beq_eq_true hk
  subst hl
  unfold hi_ishl at hh
  split at hh
  next y x st =>
    cases hh
    exact ⟨Nat.le_refl _, Nat.le_refl _, rfl, fun _ _ Q k => hw_ishl X hd k⟩
  · cases hh

theorem hs_ladd (X : hv_X G p s0 m args cd Ts (hc_own oc) cc nL) (hT : ∀ w ∈ hc_gw, w ∈ Ts) {pc n c s : Nat} {lc st : List Value} {h : hc_H} {r : hc_S ⊕ Option Value} {r1 r2 len : Nat} {ini : Bool} (hd : decode cc pc = .ok (.ladd, len)) (hk : hc_ok oc ini pc (.ladd) len r1 r2 = true) (hh : hi_ladd pc lc st n h c s = some r) : hc_res G p l e R s0 m args below meth cd nL pc lc st n h c s r := by
  simp only [hc_ok] at hk
  have hl : len = 1 := Nat.eq_of_beq_eq_true hk
  subst hl
  unfold hi_ladd at hh
  split at hh
  next y x st =>
    cases hh
    exact ⟨Nat.le_refl _, Nat.le_refl _, rfl, fun _ _ Q k => hw_ladd X hd k⟩
  · cases hh

theorem hs_lsub (X : hv_X G p s0 m args cd Ts (hc_own oc) cc nL) (hT : ∀ w ∈ hc_gw, w ∈ Ts) {pc n c s : Nat} {lc st : List Value} {h : hc_H} {r : hc_S ⊕ Option Value} {r1 r2 len : Nat} {ini : Bool} (hd : decode cc pc = .ok (.lsub, len)) (hk : hc_ok oc ini pc (.lsub) len r1 r2 = true) (hh : hi_lsub pc lc st n h c s = some r) : hc_res G p l e R s0 m args below meth cd nL pc lc st n h c s r := by
  simp only [hc_ok] at hk
  have hl : len = 1 := Nat.eq_of_beq_eq_true hk
  subst hl
  unfold hi_lsub at hh
  split at hh
  next y x st =>
    cases hh
    exact ⟨Nat.le_refl _, Nat.le_refl _, rfl, fun _ _ Q k => hw_lsub X hd k⟩
  · cases hh

theorem hs_lmul (X : hv_X G p s0 m args cd Ts (hc_own oc) cc nL) (hT : ∀ w ∈ hc_gw, w ∈ Ts) {pc n c s : Nat} {lc st : List Value} {h : hc_H} {r : hc_S ⊕ Option Value} {r1 r2 len : Nat} {ini : Bool} (hd : decode cc pc = .ok (.lmul, len)) (hk : hc_ok oc ini pc (.lmul) len r1 r2 = true) (hh : hi_lmul pc lc st n h c s = some r) : hc_res G p l e R s0 m args below meth cd nL pc lc st n h c s r := by
  simp only [hc_ok] at hk
  have hl : len = 1 := Nat.eq_of_beq_eq_true hk
  subst hl
  unfold hi_lmul at hh
  split at hh
  next y x st =>
    cases hh
    exact ⟨Nat.le_refl _, Nat.le_refl _, rfl, fun _ _ Q k => hw_lmul X hd k⟩
  · cases hh

theorem hs_lor (X : hv_X G p s0 m args cd Ts (hc_own oc) cc nL) (hT : ∀ w ∈ hc_gw, w ∈ Ts) {pc n c s : Nat} {lc st : List Value} {h : hc_H} {r : hc_S ⊕ Option Value} {r1 r2 len : Nat} {ini : Bool} (hd : decode cc pc = .ok (.lor, len)) (hk : hc_ok oc ini pc (.lor) len r1 r2 = true) (hh : hi_lor pc lc st n h c s = some r) : hc_res G p l e R s0 m args below meth cd nL pc lc st n h c s r := by
  simp only [hc_ok] at hk
  have hl : len = 1 := Nat.eq_of_beq_eq_true hk
  subst hl
  unfold hi_lor at hh
  split at hh
  next y x st =>
    cases hh
    exact ⟨Nat.le_refl _, Nat.le_refl _, rfl, fun _ _ Q k => hw_lor X hd k⟩
  · cases hh

theorem hs_lshl (X : hv_X G p s0 m args cd Ts (hc_own oc) cc nL) (hT : ∀ w ∈ hc_gw, w ∈ Ts) {pc n c s : Nat} {lc st : List Value} {h : hc_H} {r : hc_S ⊕ Option Value} {r1 r2 len : Nat} {ini : Bool} (hd : decode cc pc = .ok (.lshl, len)) (hk : hc_ok oc ini pc (.lshl) len r1 r2 = true) (hh : hi_lshl pc lc st n h c s = some r) : hc_res G p l e R s0 m args below meth cd nL pc lc st n h c s r := by
  simp only [hc_ok] at hk
  have hl : len = 1 := Nat.eq_of_beq_eq_true hk
  subst hl
  unfold hi_lshl at hh
  split at hh
  next y x st =>
    cases hh
    exact ⟨Nat.le_refl _, Nat.le_refl _, rfl, fun _ _ Q k => hw_lshl X hd k⟩
  · cases hh

theorem hs_lcmp (X : hv_X G p s0 m args cd Ts (hc_own oc) cc nL) (hT : ∀ w ∈ hc_gw, w ∈ Ts) {pc n c s : Nat} {lc st : List Value} {h : hc_H} {r : hc_S ⊕ Option Value} {r1 r2 len : Nat} {ini : Bool} (hd : decode cc pc = .ok (.lcmp, len)) (hk : hc_ok oc ini pc (.lcmp) len r1 r2 = true) (hh : hi_lcmp pc lc st n h c s = some r) : hc_res G p l e R s0 m args below meth cd nL pc lc st n h c s r := by
  simp only [hc_ok] at hk
  have hl : len = 1 := Nat.eq_of_beq_eq_true hk
  subst hl
  unfold hi_lcmp at hh
  split at hh
  next y x st =>
    cases hh
    exact ⟨Nat.le_refl _, Nat.le_refl _, rfl, fun _ _ Q k => hw_lcmp X hd k⟩
  · cases hh

theorem hs_i2l (X : hv_X G p s0 m args cd Ts (hc_own oc) cc nL) (hT : ∀ w ∈ hc_gw, w ∈ Ts) {pc n c s : Nat} {lc st : List Value} {h : hc_H} {r : hc_S ⊕ Option Value} {r1 r2 len : Nat} {ini : Bool} (hd : decode cc pc = .ok (.i2l, len)) (hk : hc_ok oc ini pc (.i2l) len r1 r2 = true) (hh : hi_i2l pc lc st n h c s = some r) : hc_res G p l e R s0 m args below meth cd nL pc lc st n h c s r := by
  simp only [hc_ok] at hk
  have hl : len = 1 := Nat.eq_of_beq_eq_true hk
  subst hl
  unfold hi_i2l at hh
  split at hh
  next x st =>
    cases hh
    exact ⟨Nat.le_refl _, Nat.le_refl _, rfl, fun _ _ Q k => hw_i2l X hd k⟩
  · cases hh

theorem hs_l2i (X : hv_X G p s0 m args cd Ts (hc_own oc) cc nL) (hT : ∀ w ∈ hc_gw, w ∈ Ts) {pc n c s : Nat} {lc st : List Value} {h : hc_H} {r : hc_S ⊕ Option Value} {r1 r2 len : Nat} {ini : Bool} (hd : decode cc pc = .ok (.l2i, len)) (hk : hc_ok oc ini pc (.l2i) len r1 r2 = true) (hh : hi_l2i pc lc st n h c s = some r) : hc_res G p l e R s0 m args below meth cd nL pc lc st n h c s r := by
  simp only [hc_ok] at hk
  have hl : len = 1 := Nat.eq_of_beq_eq_true hk
  subst hl
  unfold hi_l2i at hh
  split at hh
  next x st =>
    cases hh
    exact ⟨Nat.le_refl _, Nat.le_refl _, rfl, fun _ _ Q k => hw_l2i X hd k⟩
  · cases hh

theorem hs_i2c (X : hv_X G p s0 m args cd Ts (hc_own oc) cc nL) (hT : ∀ w ∈ hc_gw, w ∈ Ts) {pc n c s : Nat} {lc st : List Value} {h : hc_H} {r : hc_S ⊕ Option Value} {r1 r2 len : Nat} {ini : Bool} (hd : decode cc pc = .ok (.i2c, len)) (hk : hc_ok oc ini pc (.i2c) len r1 r2 = true) (hh : hi_i2c pc lc st n h c s = some r) : hc_res G p l e R s0 m args below meth cd nL pc lc st n h c s r := by
  simp only [hc_ok] at hk
  have hl : len = 1 := Nat.eq_of_beq_eq_true hk
  subst hl
  unfold hi_i2c at hh
  split at hh
  next x st =>
    cases hh
    exact ⟨Nat.le_refl _, Nat.le_refl _, rfl, fun _ _ Q k => hw_i2c X hd k⟩
  · cases hh

theorem hs_iushr (X : hv_X G p s0 m args cd Ts (hc_own oc) cc nL) (hT : ∀ w ∈ hc_gw, w ∈ Ts) {pc n c s : Nat} {lc st : List Value} {h : hc_H} {r : hc_S ⊕ Option Value} {r1 r2 len : Nat} {ini : Bool} (hL : hc_LL G LS) (hd : decode cc pc = .ok (.iushr, len)) (hk : hc_ok oc ini pc (.iushr) len r1 r2 = true) (hh : hi_iushr pc lc st n h c s = some r) : hc_res G p l e R s0 m args below meth cd nL pc lc st n h c s r := by
  simp only [hc_ok] at hk
  have hl : len = 1 := Nat.eq_of_beq_eq_true hk
  subst hl
  unfold hi_iushr at hh
  split at hh
  next y x st =>
    cases hh
    exact ⟨Nat.le_refl _, Nat.le_refl _, rfl, fun _ _ Q k => hw_iushr X hd k⟩
  next y j st =>
    split at hh
    next hc =>
      cases hh
      simp only [Bool.and_eq_true, decide_eq_true_eq, Bool.not_eq_true', decide_eq_false_iff_not] at hc
      obtain ⟨c1, c2, c3⟩ := hc
      have c1' := Nat.le_of_ble_eq_true c1
      have hv := (hL.2.2.2.1 j.toNat y (by omega) c2 c3).1
      have hy : y.toNatClampNeg < 32 := by
        have h1 := Int32.lt_iff_toInt_lt.mp c3
        have h2 : (32 : Int32).toInt = 32 := by decide
        show y.toInt.toNat < 32
        omega
      refine ⟨Nat.le_refl _, Nat.le_refl _, rfl, fun _ _ Q k => ?_⟩
      have e1 : (UInt32.ofNat (10000 + 100 * j.toNat + y.toNatClampNeg)).toNat = 10000 + 100 * j.toNat + y.toNatClampNeg := by
        rw [UInt32.toNat_ofNat']
        exact Nat.mod_eq_of_lt (by omega)
      exact hw_iushrS X hd (by rw [e1]; exact hv) k
    · cases hh
  · cases hh

theorem hs_ishr (X : hv_X G p s0 m args cd Ts (hc_own oc) cc nL) (hT : ∀ w ∈ hc_gw, w ∈ Ts) {pc n c s : Nat} {lc st : List Value} {h : hc_H} {r : hc_S ⊕ Option Value} {r1 r2 len : Nat} {ini : Bool} (hL : hc_LL G LS) (hd : decode cc pc = .ok (.ishr, len)) (hk : hc_ok oc ini pc (.ishr) len r1 r2 = true) (hh : hi_ishr pc lc st n h c s = some r) : hc_res G p l e R s0 m args below meth cd nL pc lc st n h c s r := by
  simp only [hc_ok] at hk
  have hl : len = 1 := Nat.eq_of_beq_eq_true hk
  subst hl
  unfold hi_ishr at hh
  split at hh
  next y x st =>
    cases hh
    exact ⟨Nat.le_refl _, Nat.le_refl _, rfl, fun _ _ Q k => hw_ishr X hd k⟩
  next y j st =>
    split at hh
    next hc =>
      cases hh
      simp only [Bool.and_eq_true, decide_eq_true_eq, Bool.not_eq_true', decide_eq_false_iff_not] at hc
      obtain ⟨c1, c2, c3⟩ := hc
      have c1' := Nat.le_of_ble_eq_true c1
      have hv := (hL.2.2.2.1 j.toNat y (by omega) c2 c3).2
      have hy : y.toNatClampNeg < 32 := by
        have h1 := Int32.lt_iff_toInt_lt.mp c3
        have h2 : (32 : Int32).toInt = 32 := by decide
        show y.toInt.toNat < 32
        omega
      refine ⟨Nat.le_refl _, Nat.le_refl _, rfl, fun _ _ Q k => ?_⟩
      have e1 : (UInt32.ofNat (20000 + 100 * j.toNat + y.toNatClampNeg)).toNat = 20000 + 100 * j.toNat + y.toNatClampNeg := by
        rw [UInt32.toNat_ofNat']
        exact Nat.mod_eq_of_lt (by omega)
      exact hw_ishrS X hd (by rw [e1]; exact hv) k
    · cases hh
  · cases hh

theorem hs_i2b (X : hv_X G p s0 m args cd Ts (hc_own oc) cc nL) (hT : ∀ w ∈ hc_gw, w ∈ Ts) {pc n c s : Nat} {lc st : List Value} {h : hc_H} {r : hc_S ⊕ Option Value} {r1 r2 len : Nat} {ini : Bool} (hL : hc_LL G LS) (hd : decode cc pc = .ok (.i2b, len)) (hk : hc_ok oc ini pc (.i2b) len r1 r2 = true) (hh : hi_i2b pc lc st n h c s = some r) : hc_res G p l e R s0 m args below meth cd nL pc lc st n h c s r := by
  simp only [hc_ok] at hk
  have hl : len = 1 := Nat.eq_of_beq_eq_true hk
  subst hl
  unfold hi_i2b at hh
  split at hh
  next x st =>
    cases hh
    exact ⟨Nat.le_refl _, Nat.le_refl _, rfl, fun _ _ Q k => hw_i2b X hd k⟩
  next j st =>
    split at hh
    next hc =>
      cases hh
      simp only [Bool.and_eq_true] at hc
      have c1 := Nat.le_of_ble_eq_true hc.1
      have c2 := Nat.le_of_ble_eq_true hc.2
      refine ⟨Nat.le_refl _, Nat.le_refl _, rfl, fun _ _ Q k => ?_⟩
      have e1 : (UInt32.ofNat (30000 + j.toNat)).toNat = 30000 + j.toNat := by
        rw [UInt32.toNat_ofNat']
        exact Nat.mod_eq_of_lt (by omega)
      exact hw_i2bS X hd (by rw [e1]; exact hL.2.2.2.2 j.toNat c1 (by omega)) k
    · cases hh
  · cases hh

theorem hs_idiv (X : hv_X G p s0 m args cd Ts (hc_own oc) cc nL) (hT : ∀ w ∈ hc_gw, w ∈ Ts) {pc n c s : Nat} {lc st : List Value} {h : hc_H} {r : hc_S ⊕ Option Value} {r1 r2 len : Nat} {ini : Bool} (hd : decode cc pc = .ok (.idiv, len)) (hk : hc_ok oc ini pc (.idiv) len r1 r2 = true) (hh : hi_idiv pc lc st n h c s = some r) : hc_res G p l e R s0 m args below meth cd nL pc lc st n h c s r := by
  simp only [hc_ok] at hk
  have hl : len = 1 := Nat.eq_of_beq_eq_true hk
  subst hl
  unfold hi_idiv at hh
  split at hh
  next y x st =>
    split at hh
    · cases hh
    next hy =>
      cases hh
      exact ⟨Nat.le_refl _, Nat.le_refl _, rfl, fun _ _ Q k => hw_idiv X hd (of_decide_eq_false hy) k⟩
  · cases hh

theorem hs_irem (X : hv_X G p s0 m args cd Ts (hc_own oc) cc nL) (hT : ∀ w ∈ hc_gw, w ∈ Ts) {pc n c s : Nat} {lc st : List Value} {h : hc_H} {r : hc_S ⊕ Option Value} {r1 r2 len : Nat} {ini : Bool} (hd : decode cc pc = .ok (.irem, len)) (hk : hc_ok oc ini pc (.irem) len r1 r2 = true) (hh : hi_irem pc lc st n h c s = some r) : hc_res G p l e R s0 m args below meth cd nL pc lc st n h c s r := by
  simp only [hc_ok] at hk
  have hl : len = 1 := Nat.eq_of_beq_eq_true hk
  subst hl
  unfold hi_irem at hh
  split at hh
  next y x st =>
    split at hh
    · cases hh
    next hy =>
      cases hh
      exact ⟨Nat.le_refl _, Nat.le_refl _, rfl, fun _ _ Q k => hw_irem X hd (of_decide_eq_false hy) k⟩
  · cases hh

theorem hs_dup (X : hv_X G p s0 m args cd Ts (hc_own oc) cc nL) (hT : ∀ w ∈ hc_gw, w ∈ Ts) {pc n c s : Nat} {lc st : List Value} {h : hc_H} {r : hc_S ⊕ Option Value} {r1 r2 len : Nat} {ini : Bool} (hd : decode cc pc = .ok (.dup, len)) (hk : hc_ok oc ini pc (.dup) len r1 r2 = true) (hh : hi_dup pc lc st n h c s = some r) : hc_res G p l e R s0 m args below meth cd nL pc lc st n h c s r := by
  simp only [hc_ok] at hk
  have hl : len = 1 := Nat.eq_of_beq_eq_true hk
  subst hl
  unfold hi_dup at hh
  split at hh
  next v st =>
    split at hh
    · cases hh
    next hy =>
      cases hh
      exact ⟨Nat.le_refl _, Nat.le_refl _, rfl, fun _ _ Q k => hw_dup X hd (hc_two_ok hy) k⟩
  · cases hh

theorem hs_pop (X : hv_X G p s0 m args cd Ts (hc_own oc) cc nL) (hT : ∀ w ∈ hc_gw, w ∈ Ts) {pc n c s : Nat} {lc st : List Value} {h : hc_H} {r : hc_S ⊕ Option Value} {r1 r2 len : Nat} {ini : Bool} (hd : decode cc pc = .ok (.pop, len)) (hk : hc_ok oc ini pc (.pop) len r1 r2 = true) (hh : hi_pop pc lc st n h c s = some r) : hc_res G p l e R s0 m args below meth cd nL pc lc st n h c s r := by
  simp only [hc_ok] at hk
  have hl : len = 1 := Nat.eq_of_beq_eq_true hk
  subst hl
  unfold hi_pop at hh
  split at hh
  next v st =>
    split at hh
    · cases hh
    next hy =>
      cases hh
      exact ⟨Nat.le_refl _, Nat.le_refl _, rfl, fun _ _ Q k => hw_pop X hd (hc_two_ok hy) k⟩
  · cases hh

theorem hs_dup2 (X : hv_X G p s0 m args cd Ts (hc_own oc) cc nL) (hT : ∀ w ∈ hc_gw, w ∈ Ts) {pc n c s : Nat} {lc st : List Value} {h : hc_H} {r : hc_S ⊕ Option Value} {r1 r2 len : Nat} {ini : Bool} (hd : decode cc pc = .ok (.dup2, len)) (hk : hc_ok oc ini pc (.dup2) len r1 r2 = true) (hh : hi_dup2 pc lc st n h c s = some r) : hc_res G p l e R s0 m args below meth cd nL pc lc st n h c s r := by
  simp only [hc_ok] at hk
  have hl : len = 1 := Nat.eq_of_beq_eq_true hk
  subst hl
  unfold hi_dup2 at hh
  split at hh
  next v w st =>
    split at hh
    · cases hh
    next hy =>
      cases hh
      have hy2 := Bool.or_eq_false_iff.mp hy
      exact ⟨Nat.le_refl _, Nat.le_refl _, rfl, fun _ _ Q k => hw_dup2 X hd (hc_two_ok hy2.1) (hc_two_ok hy2.2) k⟩
  · cases hh

theorem hs_ifCond (X : hv_X G p s0 m args cd Ts (hc_own oc) cc nL) (hT : ∀ w ∈ hc_gw, w ∈ Ts) {pc n c s : Nat} {lc st : List Value} {h : hc_H} {r : hc_S ⊕ Option Value} {r1 r2 len : Nat} {ini : Bool} {op : Jvm.ClassFile.Cond} {off : Int} (hL : hc_LL G LS) (hd : decode cc pc = .ok (.ifCond op off, len)) (hk : hc_ok oc ini pc (.ifCond op off) len r1 r2 = true) (hh : hi_ifCond LS op r1 pc lc st n h c s = some r) : hc_res G p l e R s0 m args below meth cd nL pc lc st n h c s r := by
  simp only [hc_ok, Bool.and_eq_true, decide_eq_true_eq] at hk
  have hl : len = 3 := Nat.eq_of_beq_eq_true hk.1
  subst hl
  have ht := hk.2
  unfold hi_ifCond at hh
  split at hh
  next x st =>
    split at hh
    next hc =>
      cases hh
      refine ⟨Nat.le_refl _, Nat.le_refl _, rfl, fun _ _ Q k => ?_⟩
      cases op <;> simp only [hc_cmp, decide_eq_true_eq, Bool.not_eq_true', decide_eq_false_iff_not] at hc
      · exact hw_if_eq X hd ht (fun _ => k) (fun q => absurd hc q)
      · exact hw_if_ne X hd ht (fun _ => k) (fun q => absurd q hc)
      · exact hw_if_lt X hd ht (fun _ => k) (fun q => absurd hc q)
      · exact hw_if_ge X hd ht (fun _ => k) (fun q => absurd hc q)
      · exact hw_if_gt X hd ht (fun _ => k) (fun q => absurd hc q)
      · exact hw_if_le X hd ht (fun _ => k) (fun q => absurd hc q)
    next hc =>
      cases hh
      refine ⟨Nat.le_refl _, Nat.le_refl _, rfl, fun _ _ Q k => ?_⟩
      cases op <;> simp only [hc_cmp, decide_eq_true_eq, Bool.not_eq_false', decide_eq_false_iff_not] at hc
      · exact hw_if_eq X hd ht (fun q => absurd q hc) (fun _ => k)
      · exact hw_if_ne X hd ht (fun q => absurd hc q) (fun _ => k)
      · exact hw_if_lt X hd ht (fun q => absurd q hc) (fun _ => k)
      · exact hw_if_ge X hd ht (fun q => absurd q hc) (fun _ => k)
      · exact hw_if_gt X hd ht (fun q => absurd q hc) (fun _ => k)
      · exact hw_if_le X hd ht (fun q => absurd q hc) (fun _ => k)
  next j st =>
    split at hh
    · split at hh
      · cases hh
      next hb =>
        have hj : j.toNat < 1000 := Nat.not_le.mp (fun q => by rw [Nat.ble_eq_true_of_le q] at hb; cases hb)
        split at hh
        next x hx =>
          cases hh
          have hne := (hL.2.2.1 _ _ hx).2.1 (by omega) (by omega)
          rw [Nat.add_sub_cancel] at hne
          exact ⟨Nat.le_refl _, Nat.le_refl _, rfl, fun _ _ Q k => hw_ifS_eq X hd ht rfl (fun q => absurd q hne) (fun _ => k)⟩
        · cases hh
    · cases hh
  · cases hh
theorem hs_if_icmp (X : hv_X G p s0 m args cd Ts (hc_own oc) cc nL) (hT : ∀ w ∈ hc_gw, w ∈ Ts) {pc n c s : Nat} {lc st : List Value} {h : hc_H} {r : hc_S ⊕ Option Value} {r1 r2 len : Nat} {ini : Bool} {op : Jvm.ClassFile.Cond} {off : Int} (hd : decode cc pc = .ok (.if_icmp op off, len)) (hk : hc_ok oc ini pc (.if_icmp op off) len r1 r2 = true) (hh : hi_if_icmp op r1 pc lc st n h c s = some r) : hc_res G p l e R s0 m args below meth cd nL pc lc st n h c s r := by
  simp only [hc_ok, Bool.and_eq_true, decide_eq_true_eq] at hk
  have hl : len = 3 := Nat.eq_of_beq_eq_true hk.1
  subst hl
  have ht := hk.2
  unfold hi_if_icmp at hh
  split at hh
  next y x st =>
    split at hh
    next hc =>
      cases hh
      refine ⟨Nat.le_refl _, Nat.le_refl _, rfl, fun _ _ Q k => ?_⟩
      cases op <;> simp only [hc_cmp, decide_eq_true_eq, Bool.not_eq_true', decide_eq_false_iff_not] at hc
      · exact hw_icmp_eq X hd ht (fun _ => k) (fun q => absurd hc q)
      · exact hw_icmp_ne X hd ht (fun _ => k) (fun q => absurd q hc)
      · exact hw_icmp_lt X hd ht (fun _ => k) (fun q => absurd hc q)
      · exact hw_icmp_ge X hd ht (fun _ => k) (fun q => absurd hc q)
      · exact hw_icmp_gt X hd ht (fun _ => k) (fun q => absurd hc q)
      · exact hw_icmp_le X hd ht (fun _ => k) (fun q => absurd hc q)
    next hc =>
      cases hh
      refine ⟨Nat.le_refl _, Nat.le_refl _, rfl, fun _ _ Q k => ?_⟩
      cases op <;> simp only [hc_cmp, decide_eq_true_eq, Bool.not_eq_false', decide_eq_false_iff_not] at hc
      · exact hw_icmp_eq X hd ht (fun q => absurd q hc) (fun _ => k)
      · exact hw_icmp_ne X hd ht (fun q => absurd hc q) (fun _ => k)
      · exact hw_icmp_lt X hd ht (fun q => absurd q hc) (fun _ => k)
      · exact hw_icmp_ge X hd ht (fun q => absurd q hc) (fun _ => k)
      · exact hw_icmp_gt X hd ht (fun q => absurd q hc) (fun _ => k)
      · exact hw_icmp_le X hd ht (fun q => absurd q hc) (fun _ => k)
  · cases hh
theorem hs_goto (X : hv_X G p s0 m args cd Ts (hc_own oc) cc nL) (hT : ∀ w ∈ hc_gw, w ∈ Ts) {pc n c s : Nat} {lc st : List Value} {h : hc_H} {r : hc_S ⊕ Option Value} {r1 r2 len : Nat} {ini : Bool} {off : Int} (hd : decode cc pc = .ok (.goto off, len)) (hk : hc_ok oc ini pc (.goto off) len r1 r2 = true) (hh : hi_goto r1 pc lc st n h c s = some r) : hc_res G p l e R s0 m args below meth cd nL pc lc st n h c s r := by
  simp only [hc_ok, Bool.and_eq_true, decide_eq_true_eq] at hk
  have hl : len = 3 := Nat.eq_of_beq_eq_true hk.1
  subst hl
  have ht := hk.2
  unfold hi_goto at hh
  cases hh
  exact ⟨Nat.le_refl _, Nat.le_refl _, rfl, fun _ _ Q k => hw_goto X hd ht k⟩

theorem hs_tableswitch (X : hv_X G p s0 m args cd Ts (hc_own oc) cc nL) (hT : ∀ w ∈ hc_gw, w ∈ Ts) {pc n c s : Nat} {lc st : List Value} {h : hc_H} {r : hc_S ⊕ Option Value} {r1 r2 len : Nat} {ini : Bool} {dflt lo hi : Int} {offs : Array Int} (hL : hc_LL G LS) (hd : decode cc pc = .ok (.tableswitch dflt lo hi offs, len)) (hk : hc_ok oc ini pc (.tableswitch dflt lo hi offs) len r1 r2 = true) (hh : hi_tableswitch LS dflt lo hi offs pc lc st n h c s = some r) : hc_res G p l e R s0 m args below meth cd nL pc lc st n h c s r := by
  unfold hi_tableswitch at hh
  split at hh
  next x st =>
    split at hh
    next hx =>
      split at hh
      next h0 =>
        cases hh
        have h0' := of_decide_eq_true h0
        have hx' : x.toInt < lo ∨ hi < x.toInt := by
          rcases Bool.or_eq_true _ _ ▸ hx with q | q
          · exact Or.inl (of_decide_eq_true q)
          · exact Or.inr (of_decide_eq_true q)
        exact ⟨Nat.le_refl _, Nat.le_refl _, rfl, fun _ _ Q k => hw_tableOut X hd hx' (by omega) k⟩
      · cases hh
    next hx =>
      have hx' := Bool.or_eq_false_iff.mp hx
      split at hh
      · cases hh
      next off ho =>
        split at hh
        next h0 =>
          cases hh
          have h0' := of_decide_eq_true h0
          rw [hc_nth_eq, Array.getElem?_toList] at ho
          exact ⟨Nat.le_refl _, Nat.le_refl _, rfl, fun _ _ Q k => hw_tableIn X hd (of_decide_eq_false hx'.1) (of_decide_eq_false hx'.2) ho (by omega) k⟩
        · cases hh
  next j st =>
    split at hh
    · cases hh
    next x hx =>
      split at hh
      next hc =>
        cases hh
        simp only [Bool.and_eq_true, decide_eq_true_eq] at hc
        have hx2 := (hL.2.2.1 _ _ hx).2.2 (by omega)
        rw [Nat.add_sub_cancel] at hx2
        have hx' : (G.2.1 j.toNat).toInt < lo ∨ hi < (G.2.1 j.toNat).toInt := by
          rcases hx2 with q | q
          · have := Int32.lt_iff_toInt_lt.mp q
            have h0 : (0 : Int32).toInt = 0 := by decide
            left
            omega
          · have := Int32.lt_iff_toInt_lt.mp q
            right
            omega
        exact ⟨Nat.le_refl _, Nat.le_refl _, rfl, fun _ _ Q k => hw_tableOutS X hd hx' (by omega) k⟩
      · cases hh
  · cases hh

end HCX
section HCY
variable {G : hv_G} {p : Program} {l : Launch} {e : Env} {R : Room} {s0 : State} {m : MethodId} {args : Array Value} {below : List Frame} {meth : Method} {cd : Code} {nL : Nat} {Q : State → Prop} {Ts : List Cond} {cc : ByteArray} {oc : Nat} {LS : Nat × (Nat → Option Int32)} {call : Nat → hc_M → List Value → Nat → hc_H → Option hc_R} {fr lo : Nat}
theorem hs_getfield (X : hv_X G p s0 m args cd Ts (hc_own oc) cc nL) (hT : ∀ w ∈ hc_gw, w ∈ Ts) {pc n c s : Nat} {lc st : List Value} {h : hc_H} {r : hc_S ⊕ Option Value} {r1 r2 len z : Nat} {ini : Bool} (hd : decode cc pc = .ok (.getfield z, len)) (hk : hc_ok oc ini pc (.getfield z) len r1 r2 = true) (hh : hi_getfield r1 r2 pc lc st n h c s = some r) : hc_res G p l e R s0 m args below meth cd nL pc lc st n h c s r := by
  simp only [hc_ok, Bool.and_eq_true, Bool.or_eq_true] at hk
  have hl : len = 3 := Nat.eq_of_beq_eq_true hk.1
  subst hl
  have hlk : (Cond.fieldLink (hc_own oc) z (hc_T r1 r2).1 (hc_T r1 r2).2.1 (hc_T r1 r2).2.2.1 ∈ Ts ∨ ∃ host : String, Cond.fieldLinkNest (hc_own oc) z (hc_T r1 r2).1 (hc_T r1 r2).2.1 (hc_T r1 r2).2.2.1 host ∈ Ts) ∧ r1 < 11 ∧ r2 < hc_nf r1 := by
    rcases hk.2 with q | q
    · obtain ⟨pl, hpl⟩ := hc_m5_ok q
      obtain ⟨g1, g2, g3⟩ := hl_FL_ok _ hpl
      exact ⟨Or.inl (hT _ (hc_in g1 rfl)), g2, g3⟩
    · obtain ⟨pl, hpl⟩ := hc_m5_ok q
      obtain ⟨g1, g2, g3⟩ := hl_FN_ok _ hpl
      exact ⟨Or.inr ⟨_, hT _ (hc_in g1 rfl)⟩, g2, g3⟩
  obtain ⟨hlk, hr1, hr2⟩ := hlk
  unfold hi_getfield at hh
  split at hh
  next i st =>
    split at hh
    · cases hh
    next fs hfs =>
      split at hh
      · cases hh
      next v hv =>
        cases hh
        refine ⟨Nat.le_refl _, Nat.le_refl _, rfl, fun _ _ Q k => ?_⟩
        have e1 : (fun j => fs.getD j Value.null) r2 = v := by
          rw [hc_nth_eq] at hv
          show fs.getD r2 .null = v
          rw [List.getD_eq_getElem?_getD, hv]
          rfl
        have k' : hv_W G p l e R s0 m args below meth cd nL Q n (hc_f h) c s (pc + 3) (hc_lv lc) ((fun j => fs.getD j Value.null) r2 :: st) := by rw [e1]; exact k
        exact hw_get X hd (hc_cl hr1) (fun w hw => hT w (hc_u hr1 w hw)) hr2 hlk (hc_fI (hc_obj_ok hfs)) k'
  · cases hh
theorem hc_fit_ok {ty : FieldType} {v : Value} (h : hc_fit ty v = true) : narrow ty (hv_v G v) = hv_v G v ∧ fits ty (hv_v G v) = true := by
  unfold hc_fit at h
  split at h
  · cases v <;> first | exact ⟨rfl, rfl⟩ | cases h
  · split at h
    next x =>
      rcases Bool.or_eq_true _ _ ▸ h with q | q
      · have := of_decide_eq_true q
        subst this
        exact ⟨(by decide : narrow .boolean (.int 0) = .int 0), (by decide : fits .boolean (.int 0) = true)⟩
      · have := of_decide_eq_true q
        subst this
        exact ⟨(by decide : narrow .boolean (.int 1) = .int 1), (by decide : fits .boolean (.int 1) = true)⟩
    · cases h
  · split at h <;> first | exact ⟨rfl, rfl⟩ | cases h
  · split at h <;> first | exact ⟨rfl, rfl⟩ | cases h
  · cases h
theorem hs_putfield (X : hv_X G p s0 m args cd Ts (hc_own oc) cc nL) (hT : ∀ w ∈ hc_gw, w ∈ Ts) {pc n c s : Nat} {lc st : List Value} {h : hc_H} {r : hc_S ⊕ Option Value} {r1 r2 len z : Nat} {ini : Bool} (hin : ini = true → meth.name = "<init>") (hd : decode cc pc = .ok (.putfield z, len)) (hk : hc_ok oc ini pc (.putfield z) len r1 r2 = true) (hh : hi_putfield r1 r2 pc lc st n h c s = some r) : hc_res G p l e R s0 m args below meth cd nL pc lc st n h c s r := by
  simp only [hc_ok, Bool.and_eq_true, Bool.or_eq_true, decide_eq_true_eq, Bool.not_eq_true'] at hk
  have hl : len = 3 := Nat.eq_of_beq_eq_true hk.1
  subst hl
  have hlk : ((Cond.fieldLink (hc_own oc) z (hc_T r1 r2).1 (hc_T r1 r2).2.1 (hc_T r1 r2).2.2.1 ∈ Ts ∧ (hc_T r1 r2).2.2.2 = false) ∨ (∃ host : String, Cond.fieldLinkNest (hc_own oc) z (hc_T r1 r2).1 (hc_T r1 r2).2.1 (hc_T r1 r2).2.2.1 host ∈ Ts ∧ (hc_T r1 r2).2.2.2 = false) ∨ (Cond.fieldLink (hc_own oc) z (hc_T r1 r2).1 (hc_T r1 r2).2.1 (hc_T r1 r2).2.2.1 ∈ Ts ∧ (hc_T r1 r2).2.2.2 = true ∧ meth.name = "<init>" ∧ (hc_T r1 r2).1 = hc_own oc)) ∧ r1 < 11 ∧ r2 < hc_nf r1 := by
    rcases hk.2 with ⟨q, w⟩ | ⟨q, w⟩ | ⟨q, w1, w2, w3⟩
    · obtain ⟨pl, hpl⟩ := hc_m5_ok q
      obtain ⟨g1, g2, g3⟩ := hl_FL_ok _ hpl
      exact ⟨Or.inl ⟨hT _ (hc_in g1 rfl), w⟩, g2, g3⟩
    · obtain ⟨pl, hpl⟩ := hc_m5_ok q
      obtain ⟨g1, g2, g3⟩ := hl_FN_ok _ hpl
      exact ⟨Or.inr (Or.inl ⟨_, hT _ (hc_in g1 rfl), w⟩), g2, g3⟩
    · obtain ⟨pl, hpl⟩ := hc_m5_ok q
      obtain ⟨g1, g2, g3⟩ := hl_FL_ok _ hpl
      exact ⟨Or.inr (Or.inr ⟨hT _ (hc_in g1 rfl), w1, hin w2, w3⟩), g2, g3⟩
  obtain ⟨hlk, hr1, hr2⟩ := hlk
  unfold hi_putfield at hh
  split at hh
  next v i st =>
    split at hh
    · cases hh
    next fs hfs =>
      split at hh
      · cases hh
      next hft =>
        split at hh
        · cases hh
        next w hw =>
          split at hh
          · cases hh
          next h' hp' =>
            cases hh
            refine ⟨Nat.le_refl _, Nat.le_refl _, rfl, fun _ _ Q k => ?_⟩
            have hf := hc_fit_ok (G := G) hft
            rw [hc_nth_eq] at hw
            have hlt := (List.getElem?_eq_some_iff.mp hw).1
            have k' : hv_W G p l e R s0 m args below meth cd nL Q n (hv_up (hc_f h) i (.inr (r1, hv_uv (fun j => fs.getD j .null) r2 v))) c s (pc + 3) (hc_lv lc) st := by
              rw [← hc_toE_set hlt, ← hc_set_eq]
              have := hc_f_put hp'
              unfold hc_W at k
              rw [this] at k
              exact k
            exact hw_put X hd (hc_cl hr1) (fun w hw => hT w (hc_u hr1 w hw)) (hc_ty hr1) (hc_nm hr1) hr2 hlk hf.1 hf.2 (hc_fI (hc_obj_ok hfs)) k'
  · cases hh
theorem hsq_ald {t : Nat} {pc n c s : Nat} {lc st : List Value} {h : hc_H} {r : hc_S ⊕ Option Value} (hh : hc_ald t pc lc st n h c s = some r) : ∃ (i : Nat) (a : List Value) (j : Int32) (st' : List Value), st = .int j :: .ref (i + 1) :: st' ∧ hc_f h i = some (.inl (t, a.length, fun j => a.getD j .null)) ∧ vp_in j a.length ∧ r = .inl (pc + 1, lc, a.getD j.toNatClampNeg .null :: st', n, h, c, s) := by
  unfold hc_ald at hh
  split at hh
  next j i st =>
    split at hh
    · cases hh
    next a ha =>
      split at hh
      · cases hh
      next v hv =>
        cases hh
        obtain ⟨g1, g2⟩ := hc_el_ok hv
        exact ⟨i, a, j, st, rfl, hc_fI (hc_arr_ok ha), g1, by rw [g2]⟩
  · cases hh
theorem hs_iaload (X : hv_X G p s0 m args cd Ts (hc_own oc) cc nL) (hT : ∀ w ∈ hc_gw, w ∈ Ts) {pc n c s : Nat} {lc st : List Value} {h : hc_H} {r : hc_S ⊕ Option Value} {r1 r2 len : Nat} {ini : Bool} (hL : hc_LL G LS) (hd : decode cc pc = .ok (.iaload, len)) (hk : hc_ok oc ini pc .iaload len r1 r2 = true) (hh : hi_iaload LS pc lc st n h c s = some r) : hc_res G p l e R s0 m args below meth cd nL pc lc st n h c s r := by
  simp only [hc_ok] at hk
  have hl : len = 1 := Nat.eq_of_beq_eq_true hk
  subst hl
  unfold hi_iaload at hh
  split at hh
  next j st =>
    split at hh
    · cases hh
    next hj =>
      have hj' := Bool.or_eq_false_iff.mp hj
      have hlt : j.toNatClampNeg < LS.1 := by
        have := hj'.2
        exact Nat.not_le.mp (fun q => by rw [Nat.ble_eq_true_of_le q] at this; cases this)
      have h9 : LS.1 < 10000 := hL.2.1
      have hL1 : LS.1 = G.1.2.2 := hL.1.resolve_left (by omega)
      have hin : vp_in j G.1.2.2 := by
        rintro (q | q)
        · exact of_decide_eq_false hj'.1 q
        · rw [← hL1] at q; omega
      split at hh
      next x hx =>
        cases hh
        exact ⟨Nat.le_refl _, Nat.le_refl _, rfl, fun _ _ Q k => hw_sldK X hd hin ((hL.2.2.1 _ _ hx).1 (by omega)) k⟩
      · cases hh
        refine ⟨Nat.le_refl _, Nat.le_refl _, rfl, fun _ _ Q k => hw_sld X hd hin ?_ k⟩
        rw [UInt32.toNat_ofNat']
        exact Nat.mod_eq_of_lt (by have := hL.2.1; omega)
  next st h0 =>
    obtain ⟨i, a, j, st', rfl, g1, g2, rfl⟩ := hsq_ald hh
    exact ⟨Nat.le_refl _, Nat.le_refl _, rfl, fun _ _ Q k => hw_iald X hd g1 g2 k⟩
theorem hs_baload (X : hv_X G p s0 m args cd Ts (hc_own oc) cc nL) (hT : ∀ w ∈ hc_gw, w ∈ Ts) {pc n c s : Nat} {lc st : List Value} {h : hc_H} {r : hc_S ⊕ Option Value} {r1 r2 len : Nat} {ini : Bool} (hd : decode cc pc = .ok (.baload, len)) (hk : hc_ok oc ini pc .baload len r1 r2 = true) (hh : hi_baload pc lc st n h c s = some r) : hc_res G p l e R s0 m args below meth cd nL pc lc st n h c s r := by
  simp only [hc_ok] at hk
  have hl : len = 1 := Nat.eq_of_beq_eq_true hk
  subst hl
  unfold hi_baload at hh
  split at hh
  next r' hr' =>
    cases hh
    obtain ⟨i, a, j, st', rfl, g1, g2, rfl⟩ := hsq_ald hr'
    exact ⟨Nat.le_refl _, Nat.le_refl _, rfl, fun _ _ Q k => hw_bald X hd g1 g2 k⟩
  · obtain ⟨i, a, j, st', rfl, g1, g2, rfl⟩ := hsq_ald hh
    exact ⟨Nat.le_refl _, Nat.le_refl _, rfl, fun _ _ Q k => hw_zald X hd g1 g2 k⟩
theorem hs_laload (X : hv_X G p s0 m args cd Ts (hc_own oc) cc nL) (hT : ∀ w ∈ hc_gw, w ∈ Ts) {pc n c s : Nat} {lc st : List Value} {h : hc_H} {r : hc_S ⊕ Option Value} {r1 r2 len : Nat} {ini : Bool} (hd : decode cc pc = .ok (.laload, len)) (hk : hc_ok oc ini pc .laload len r1 r2 = true) (hh : hi_laload pc lc st n h c s = some r) : hc_res G p l e R s0 m args below meth cd nL pc lc st n h c s r := by
  simp only [hc_ok] at hk
  have hl : len = 1 := Nat.eq_of_beq_eq_true hk
  subst hl
  unfold hi_laload at hh
  obtain ⟨i, a, j, st', rfl, g1, g2, rfl⟩ := hsq_ald hh
  exact ⟨Nat.le_refl _, Nat.le_refl _, rfl, fun _ _ Q k => hw_lald X hd g1 g2 k⟩
theorem hs_aaload (X : hv_X G p s0 m args cd Ts (hc_own oc) cc nL) (hT : ∀ w ∈ hc_gw, w ∈ Ts) {pc n c s : Nat} {lc st : List Value} {h : hc_H} {r : hc_S ⊕ Option Value} {r1 r2 len : Nat} {ini : Bool} (hd : decode cc pc = .ok (.aaload, len)) (hk : hc_ok oc ini pc .aaload len r1 r2 = true) (hh : hi_aaload pc lc st n h c s = some r) : hc_res G p l e R s0 m args below meth cd nL pc lc st n h c s r := by
  simp only [hc_ok] at hk
  have hl : len = 1 := Nat.eq_of_beq_eq_true hk
  subst hl
  unfold hi_aaload at hh
  split at hh
  next r' hr' =>
    cases hh
    obtain ⟨i, a, j, st', rfl, g1, g2, rfl⟩ := hsq_ald hr'
    exact ⟨Nat.le_refl _, Nat.le_refl _, rfl, fun _ _ Q k => hw_aald X hd rfl rfl g1 g2 k⟩
  · obtain ⟨i, a, j, st', rfl, g1, g2, rfl⟩ := hsq_ald hh
    exact ⟨Nat.le_refl _, Nat.le_refl _, rfl, fun _ _ Q k => hw_aald X hd rfl rfl g1 g2 k⟩
theorem hsq_ast {t i : Nat} {j : Int32} {v : Value} {pc n c s : Nat} {lc st : List Value} {h : hc_H} {r : hc_S ⊕ Option Value} (hh : hc_ast t i j v pc lc st n h c s = some r) : ∃ (a : List Value) (h' : hc_H), hc_f h i = some (.inl (t, a.length, fun j => a.getD j .null)) ∧ vp_in j a.length ∧ r = .inl (pc + 1, lc, st, n, h', c, s) ∧ hc_f h' = hv_up (hc_f h) i (.inl (t, a.length, hv_uv (fun j => a.getD j .null) j.toNatClampNeg v)) := by
  unfold hc_ast at hh
  split at hh
  · cases hh
  next a ha =>
    split at hh
    · cases hh
    next w hw =>
      split at hh
      · cases hh
      next h' hp' =>
        cases hh
        obtain ⟨g1, g2⟩ := hc_el_ok hw
        have hlt : j.toNatClampNeg < a.length := Nat.not_le.mp fun q => g1 (Or.inr q)
        refine ⟨a, h', hc_fI (hc_arr_ok ha), g1, rfl, ?_⟩
        rw [hc_f_put hp', hc_set_eq]
        show hv_up _ _ (.inl (t, (a.set j.toNatClampNeg v).length, fun i => (a.set j.toNatClampNeg v).getD i .null)) = _
        rw [hc_toE_set hlt, List.length_set]
theorem hs_iastore (X : hv_X G p s0 m args cd Ts (hc_own oc) cc nL) (hT : ∀ w ∈ hc_gw, w ∈ Ts) {pc n c s : Nat} {lc st : List Value} {h : hc_H} {r : hc_S ⊕ Option Value} {r1 r2 len : Nat} {ini : Bool} (hd : decode cc pc = .ok (.iastore, len)) (hk : hc_ok oc ini pc .iastore len r1 r2 = true) (hh : hi_iastore pc lc st n h c s = some r) : hc_res G p l e R s0 m args below meth cd nL pc lc st n h c s r := by
  simp only [hc_ok] at hk
  have hl : len = 1 := Nat.eq_of_beq_eq_true hk
  subst hl
  unfold hi_iastore at hh
  split at hh
  next x j i st =>
    obtain ⟨a, h', g1, g2, rfl, g3⟩ := hsq_ast hh
    exact ⟨Nat.le_refl _, Nat.le_refl _, rfl, fun _ _ Q k => hw_iast X hd rfl g1 g2 (by unfold hc_W at k; rw [g3] at k; exact k)⟩
  next x j i st =>
    obtain ⟨a, h', g1, g2, rfl, g3⟩ := hsq_ast hh
    exact ⟨Nat.le_refl _, Nat.le_refl _, rfl, fun _ _ Q k => hw_iast X hd rfl g1 g2 (by unfold hc_W at k; rw [g3] at k; exact k)⟩
  · cases hh
theorem hs_bastore (X : hv_X G p s0 m args cd Ts (hc_own oc) cc nL) (hT : ∀ w ∈ hc_gw, w ∈ Ts) {pc n c s : Nat} {lc st : List Value} {h : hc_H} {r : hc_S ⊕ Option Value} {r1 r2 len : Nat} {ini : Bool} (hL : hc_LL G LS) (hd : decode cc pc = .ok (.bastore, len)) (hk : hc_ok oc ini pc .bastore len r1 r2 = true) (hh : hi_bastore pc lc st n h c s = some r) : hc_res G p l e R s0 m args below meth cd nL pc lc st n h c s r := by
  simp only [hc_ok] at hk
  have hl : len = 1 := Nat.eq_of_beq_eq_true hk
  subst hl
  unfold hi_bastore at hh
  split at hh
  next x j i st =>
    split at hh
    · obtain ⟨a, h', g1, g2, rfl, g3⟩ := hsq_ast hh
      exact ⟨Nat.le_refl _, Nat.le_refl _, rfl, fun _ _ Q k => hw_bast X hd g1 g2 (by unfold hc_W at k; rw [g3] at k; exact k)⟩
    · split at hh
      next hx =>
        have hy : narrow .boolean (.int x) = .int x := by
          rcases Bool.or_eq_true _ _ ▸ hx with q | q
          · have := of_decide_eq_true q
            subst this
            decide
          · have := of_decide_eq_true q
            subst this
            decide
        obtain ⟨a, h', g1, g2, rfl, g3⟩ := hsq_ast hh
        exact ⟨Nat.le_refl _, Nat.le_refl _, rfl, fun _ _ Q k => hw_zast X hd hy g1 g2 (by unfold hc_W at k; rw [g3] at k; exact k)⟩
      · cases hh
  next x j i st =>
    split at hh
    next hc =>
      simp only [Bool.and_eq_true] at hc
      have c1 := Nat.le_of_ble_eq_true hc.1
      have c2 := Nat.le_of_ble_eq_true hc.2
      obtain ⟨a, h', g1, g2, rfl, g3⟩ := hsq_ast hh
      have hv := hL.2.2.2.2 (x.toNat - 30000) (by omega) (by omega)
      rw [show 30000 + (x.toNat - 30000) = x.toNat by omega] at hv
      exact ⟨Nat.le_refl _, Nat.le_refl _, rfl, fun _ _ Q k => hw_bastS X hd hv g1 g2 (by unfold hc_W at k; rw [g3] at k; exact k)⟩
    · cases hh
  · cases hh
theorem hs_lastore (X : hv_X G p s0 m args cd Ts (hc_own oc) cc nL) (hT : ∀ w ∈ hc_gw, w ∈ Ts) {pc n c s : Nat} {lc st : List Value} {h : hc_H} {r : hc_S ⊕ Option Value} {r1 r2 len : Nat} {ini : Bool} (hd : decode cc pc = .ok (.lastore, len)) (hk : hc_ok oc ini pc .lastore len r1 r2 = true) (hh : hi_lastore pc lc st n h c s = some r) : hc_res G p l e R s0 m args below meth cd nL pc lc st n h c s r := by
  simp only [hc_ok] at hk
  have hl : len = 1 := Nat.eq_of_beq_eq_true hk
  subst hl
  unfold hi_lastore at hh
  split at hh
  next x j i st =>
    obtain ⟨a, h', g1, g2, rfl, g3⟩ := hsq_ast hh
    exact ⟨Nat.le_refl _, Nat.le_refl _, rfl, fun _ _ Q k => hw_last X hd g1 g2 (by unfold hc_W at k; rw [g3] at k; exact k)⟩
  · cases hh
theorem hs_aastore (X : hv_X G p s0 m args cd Ts (hc_own oc) cc nL) (hT : ∀ w ∈ hc_gw, w ∈ Ts) {pc n c s : Nat} {lc st : List Value} {h : hc_H} {r : hc_S ⊕ Option Value} {r1 r2 len : Nat} {ini : Bool} (hd : decode cc pc = .ok (.aastore, len)) (hk : hc_ok oc ini pc .aastore len r1 r2 = true) (hh : hi_aastore pc lc st n h c s = some r) : hc_res G p l e R s0 m args below meth cd nL pc lc st n h c s r := by
  simp only [hc_ok] at hk
  have hl : len = 1 := Nat.eq_of_beq_eq_true hk
  subst hl
  unfold hi_aastore at hh
  split at hh
  next iv j i st =>
    split at hh
    · cases hh
    next fs hfs =>
      obtain ⟨a, h', g1, g2, rfl, g3⟩ := hsq_ast hh
      exact ⟨Nat.le_refl _, Nat.le_refl _, rfl, fun _ _ Q k => hw_aast (r := (RX2, TX2, 11)) X hd rfl g1 (hc_fI (hc_obj_ok hfs)) rfl g2 (by unfold hc_W at k; rw [g3] at k; exact k)⟩
  · cases hh
theorem hs_arraylength (X : hv_X G p s0 m args cd Ts (hc_own oc) cc nL) (hT : ∀ w ∈ hc_gw, w ∈ Ts) {pc n c s : Nat} {lc st : List Value} {h : hc_H} {r : hc_S ⊕ Option Value} {r1 r2 len : Nat} {ini : Bool} (hL : LS.1 = 0 ∨ LS.1 = G.1.2.2) (hd : decode cc pc = .ok (.arraylength, len)) (hk : hc_ok oc ini pc .arraylength len r1 r2 = true) (hh : hi_arraylength LS pc lc st n h c s = some r) : hc_res G p l e R s0 m args below meth cd nL pc lc st n h c s r := by
  simp only [hc_ok] at hk
  have hl : len = 1 := Nat.eq_of_beq_eq_true hk
  subst hl
  unfold hi_arraylength at hh
  split at hh
  next st =>
    split at hh
    · cases hh
    next h0 =>
      cases hh
      have hL1 : LS.1 = G.1.2.2 := hL.resolve_left (fun q => by rw [q] at h0; cases h0)
      exact ⟨Nat.le_refl _, Nat.le_refl _, rfl, fun _ _ Q k => hw_slen X hd (by rw [hL1]) k⟩
  next i st =>
    split at hh
    next a ha =>
      split at hh
      · cases hh
      next hb =>
        cases hh
        have hlt : a.1 < 6 := Nat.not_le.mp (fun q => by rw [Nat.ble_eq_true_of_le q] at hb; cases hb)
        have hty : ∃ ty, hv_tyl[a.1]? = some ty := ⟨hv_tyl[a.1]'hlt, List.getElem?_eq_getElem hlt⟩
        obtain ⟨ty, hty⟩ := hty
        exact ⟨Nat.le_refl _, Nat.le_refl _, rfl, fun _ _ Q k => hw_alen X hd hty (hc_fI ha) rfl k⟩
    · cases hh
  · cases hh
theorem hc_dvv {ty : FieldType} (h : hc_def ty = true) : defaultValue ty = hv_v G (defaultValue ty) := by
  unfold hc_def at h
  split at h <;> first | rfl | cases h
theorem hs_new (X : hv_X G p s0 m args cd Ts (hc_own oc) cc nL) (hT : ∀ w ∈ hc_gw, w ∈ Ts) {pc n c s : Nat} {lc st : List Value} {h : hc_H} {r : hc_S ⊕ Option Value} {r1 r2 len z : Nat} {ini : Bool} (hd : decode cc pc = .ok (.new z, len)) (hk : hc_ok oc ini pc (.new z) len r1 r2 = true) (hh : hi_new r1 pc lc st n h c s = some r) : hc_res G p l e R s0 m args below meth cd nL pc lc st n h c s r := by
  simp only [hc_ok, Bool.and_eq_true] at hk
  have hl : len = 3 := Nat.eq_of_beq_eq_true hk.1
  subst hl
  obtain ⟨pl, hpl⟩ := hc_m4_ok hk.2
  obtain ⟨g1, hr1⟩ := hl_NW_ok _ hpl
  have hr1 : r1 < 11 := hr1
  obtain ⟨i1, i2⟩ := hl_IN_all r1 (List.mem_range.mpr hr1)
  obtain ⟨p1, hp1⟩ := hc_m2_ok i1
  obtain ⟨p2, hp2⟩ := hc_m2_ok i2
  unfold hi_new at hh
  split at hh
  · cases hh
  next h' hp' =>
    cases hh
    refine ⟨Nat.le_add_right _ _, Nat.le_add_right _ _, rfl, fun q1 q2 Q k => ?_⟩
    refine hw_new X hd (hc_cl hr1) (fun w hw => hT w (hc_u hr1 w hw)) (hc_ty hr1) (hT _ (hc_in g1 rfl)) (hT _ (hc_in (hl_IN_ok _ hp1) rfl)) (hT _ (hc_in (hl_IC_ok _ hp2) rfl)) (f := fun j => ((List.range (hc_nf r1)).map (fun k => defaultValue (hc_tyX r1 k))).getD j .null) ?_ q1 q2 ?_
    · intro j hj
      rw [List.getD_eq_getElem?_getD]
      simp only [List.getElem?_map, List.getElem?_range hj, Option.map_some, Option.getD_some]
      exact hc_dvv (hc_dv r1 hr1 j hj)
    · unfold hc_W at k
      rw [hc_f_put hp'] at k
      exact k
theorem hc_ble {a b : Nat} (h : Nat.ble a b = false) : b < a := Nat.not_le.mp (fun q => by rw [Nat.ble_eq_true_of_le q] at h; cases h)
def hv_sim (x y : Option hv_E) : Prop := x = y ∨ ∃ (t N : Nat) (f g : Nat → Value), x = some (.inl (t, N, f)) ∧ y = some (.inl (t, N, g)) ∧ ∀ j, j < N → f j = g j
theorem hv_sim_P {n : Nat} {hp hp' : hv_H} {H : Heap} (h : ∀ i, hv_sim (hp i) (hp' i)) (hP : hv_P G n hp H) : hv_P G n hp' H := by
  refine ⟨hP.1, fun i x hx => ?_⟩
  rcases h i with q | ⟨t, N, f, g, q1, q2, q3⟩
  · exact hP.2 i x (q.trans hx)
  · rw [q2] at hx
    cases hx
    have := hP.2 i _ q1
    show H[G.1.1 + i]? = some (arrV _ _ _)
    have e1 : arrV (G.2.2.2 t) N (fun j => hv_v G (f j)) = arrV (G.2.2.2 t) N (fun j => hv_v G (g j)) := by
      unfold arrV
      congr 2
      funext j
      exact congrArg (hv_v G) (q3 j.val j.isLt)
    rw [← e1]
    exact this
theorem hc_sim {n c s pc : Nat} {hp hp' : hv_H} {lv : List (Nat × Value)} {st : List Value} (h : ∀ i, hv_sim (hp i) (hp' i)) (k : hv_W G p l e R s0 m args below meth cd nL Q n hp' c s pc lv st) : hv_W G p l e R s0 m args below meth cd nL Q n hp c s pc lv st := fun H locs ls h1 h2 h3 h4 => k H locs ls (hv_sim_P h h1) h2 h3 h4
theorem hv_sim_up {hp : hv_H} {i t N : Nat} {f g : Nat → Value} (h : ∀ j, j < N → f j = g j) (x : Nat) : hv_sim (hv_up hp i (.inl (t, N, f)) x) (hv_up hp i (.inl (t, N, g)) x) := by
  unfold hv_up
  by_cases hx : x = i
  · rw [if_pos hx, if_pos hx]
    exact Or.inr ⟨t, N, f, g, rfl, rfl, h⟩
  · rw [if_neg hx, if_neg hx]
    exact Or.inl rfl
theorem hc_upL {hp : hv_H} {i t N : Nat} {a : List Value} (hl : a.length = N) : hv_up hp i (hc_toE (.inl (t, a))) = hv_up hp i (.inl (t, N, fun j => a.getD j .null)) := by
  subst hl
  rfl
theorem hc_getr {N j : Nat} {v : Value} (hj : j < N) : (List.replicate N v).getD j .null = v := by
  rw [List.getD_eq_getElem?_getD, List.getElem?_replicate, if_pos hj]
  rfl
theorem hs_newarray (X : hv_X G p s0 m args cd Ts (hc_own oc) cc nL) (hT : ∀ w ∈ hc_gw, w ∈ Ts) {pc n c s : Nat} {lc st : List Value} {h : hc_H} {r : hc_S ⊕ Option Value} {r1 r2 len : Nat} {ty : ArrayType} {ini : Bool} (hd : decode cc pc = .ok (.newarray ty, len)) (hk : hc_ok oc ini pc (.newarray ty) len r1 r2 = true) (hh : hi_newarray r1 pc lc st n h c s = some r) : hc_res G p l e R s0 m args below meth cd nL pc lc st n h c s r := by
  simp only [hc_ok, Bool.and_eq_true, decide_eq_true_eq] at hk
  have hl : len = 2 := Nat.eq_of_beq_eq_true hk.1
  subst hl
  obtain ⟨-, hty, hpv⟩ := hk
  unfold hi_newarray at hh
  split at hh
  next j st =>
    split at hh
    · cases hh
    next hj =>
      have hj' := Bool.or_eq_false_iff.mp hj
      have hlt := hc_ble hj'.2
      split at hh
      · cases hh
      next h' hp' =>
        cases hh
        refine ⟨Nat.le_add_right _ _, Nat.le_add_right _ _, rfl, fun q1 q2 Q k => ?_⟩
        unfold hc_W at k
        rw [hc_f_put hp', hc_upL (List.length_replicate)] at k
        have hcb : j.toNatClampNeg * componentBytes (newarray.typeOf ty) ≤ 536870912 := by
          generalize newarray.typeOf ty = t at hpv
          cases t <;> first | (cases hpv; done) | (show j.toNatClampNeg * _ ≤ _; simp only [componentBytes]; omega)
        have hw : Cond.arrayClass (newarray.typeOf ty) ∈ hc_gw := by
          generalize newarray.typeOf ty = t at hpv
          cases t <;> first | (cases hpv; done) | exact hl_arr_byte | exact hl_arr_int | exact hl_arr_long | exact hl_arr_boolean
        have hv : defaultValue (newarray.typeOf ty) = hv_v G (hc_zero r1) ∧ ∀ C : String, newarray.typeOf ty ≠ .object C := by
          generalize newarray.typeOf ty = t at hty hpv
          match r1, hty with
          | 0, hty => cases hty; exact ⟨rfl, fun C q => by cases q⟩
          | 1, hty => cases hty; exact ⟨rfl, fun C q => by cases q⟩
          | 2, hty => cases hty; exact ⟨rfl, fun C q => by cases q⟩
          | 3, hty => cases hty; exact ⟨rfl, fun C q => by cases q⟩
          | 4, hty => cases hty; cases hpv
          | 5, hty => cases hty; cases hpv
          | t + 6, hty => simp [hv_tyl] at hty
        refine hw_newa X hd rfl hty hv.2 (hT _ hw) hv.1 (of_decide_eq_false hj'.1) rfl hcb q1 q2 ?_
        exact hc_sim (hv_sim_up (fun i hi => (hc_getr hi).symm)) k
  · cases hh
theorem hs_anewarray (X : hv_X G p s0 m args cd Ts (hc_own oc) cc nL) (hT : ∀ w ∈ hc_gw, w ∈ Ts) {pc n c s : Nat} {lc st : List Value} {h : hc_H} {r : hc_S ⊕ Option Value} {r1 r2 len z : Nat} {ini : Bool} (hd : decode cc pc = .ok (.anewarray z, len)) (hk : hc_ok oc ini pc (.anewarray z) len r1 r2 = true) (hh : hi_anewarray pc lc st n h c s = some r) : hc_res G p l e R s0 m args below meth cd nL pc lc st n h c s r := by
  simp only [hc_ok, Bool.and_eq_true] at hk
  have hl : len = 3 := Nat.eq_of_beq_eq_true hk.1
  subst hl
  obtain ⟨pl, hpl⟩ := hc_m3_ok hk.2
  unfold hi_anewarray at hh
  split at hh
  next j st =>
    split at hh
    · cases hh
    next hj =>
      have hj' := Bool.or_eq_false_iff.mp hj
      have hlt := hc_ble hj'.2
      split at hh
      · cases hh
      next h' hp' =>
        cases hh
        refine ⟨Nat.le_add_right _ _, Nat.le_add_right _ _, rfl, fun q1 q2 Q k => ?_⟩
        unfold hc_W at k
        rw [hc_f_put hp', hc_upL (List.length_replicate)] at k
        refine hw_newq X hd (t := 4) rfl (hT _ (hc_in (hl_AN_ok _ hpl) rfl)) (hT _ hl_aoL) (of_decide_eq_false hj'.1) rfl (by omega) q1 q2 ?_
        exact hc_sim (hv_sim_up (fun i hi => (hc_getr hi).symm)) k
  · cases hh
theorem hc_rows_ok : ∀ (N n K : Nat) (t t' : hc_H), hc_rows t n K N = some t' → ∀ j, hc_get t' j = if n ≤ j ∧ j < n + N then some (.inl (1, List.replicate K (.int 0))) else hc_get t j
  | 0, n, K, t, t', h, j => by
    cases h
    rw [if_neg (by omega)]
  | N + 1, n, K, t, t', h, j => by
    have h' : (match hc_rows t n K N with | none => none | some t => hc_put t (n + N) (.inl (1, List.replicate K (.int 0)))) = some t' := h
    split at h'
    · cases h'
    next t1 h1 =>
      rw [hc_get_put h' j, hc_rows_ok N n K t t1 h1 j]
      by_cases e : j = n + N
      · subst e
        rw [if_pos rfl, if_pos (by omega)]
      · rw [if_neg e]
        by_cases e2 : n ≤ j ∧ j < n + N
        · rw [if_pos e2, if_pos (by omega)]
        · rw [if_neg e2, if_neg (by omega)]
theorem hs_multianewarray (X : hv_X G p s0 m args cd Ts (hc_own oc) cc nL) (hT : ∀ w ∈ hc_gw, w ∈ Ts) {pc n c s : Nat} {lc st : List Value} {h : hc_H} {r : hc_S ⊕ Option Value} {r1 r2 len z d : Nat} {ini : Bool} (hd : decode cc pc = .ok (.multianewarray z d, len)) (hk : hc_ok oc ini pc (.multianewarray z d) len r1 r2 = true) (hh : hi_multianewarray pc lc st n h c s = some r) : hc_res G p l e R s0 m args below meth cd nL pc lc st n h c s r := by
  simp only [hc_ok, Bool.and_eq_true] at hk
  have hl : len = 4 := Nat.eq_of_beq_eq_true hk.1
  subst hl
  have hd2 : d = 2 := Nat.eq_of_beq_eq_true hk.2.1
  subst hd2
  obtain ⟨pl, hpl⟩ := hc_m3_ok hk.2.2
  unfold hi_multianewarray at hh
  split at hh
  next b a st =>
    split at hh
    · cases hh
    next hj =>
      have g1 := Bool.or_eq_false_iff.mp hj
      have g2 := Bool.or_eq_false_iff.mp g1.1
      have g3 := Bool.or_eq_false_iff.mp g2.1
      have hb := hc_ble g1.2
      have ha := hc_ble g2.2
      split at hh
      · cases hh
      next h1 hp1 =>
        split at hh
        · cases hh
        next h2 hp2 =>
          cases hh
          refine ⟨by show c ≤ c + 1 + a.toNatClampNeg; omega, by show s ≤ s + a.toNatClampNeg + a.toNatClampNeg * b.toNatClampNeg; omega, rfl, fun q1 q2 Q k => ?_⟩
          refine hw_mna X hd (hT _ (hc_in (hl_MM_ok _ hpl) rfl)) (hT _ hl_aoI) (hT _ hl_arr_int) (of_decide_eq_false g3.1) (of_decide_eq_false g3.2) rfl rfl (by omega) (by omega) (by have : c + 1 + a.toNatClampNeg ≤ R.cells := q1; omega) (by have : s + a.toNatClampNeg + a.toNatClampNeg * b.toNatClampNeg ≤ R.slots := q2; omega) (hc_sim ?_ k)
          intro i
          have hg := hc_rows_ok _ _ _ _ _ hp2 i
          rw [hc_get_put hp1 i] at hg
          unfold hv_mH hc_f
          rw [hg]
          by_cases e1 : i = n
          · subst e1
            rw [if_pos rfl, if_neg (by omega), if_pos rfl]
            refine Or.inr ⟨5, a.toNatClampNeg, _, fun j => ((List.range a.toNatClampNeg).map (fun x => Value.ref (i + 1 + x + 1))).getD j .null, rfl, ?_, fun j hj => ?_⟩
            · show some (Sum.inl (5, ((List.range a.toNatClampNeg).map (fun x => Value.ref (i + 1 + x + 1))).length, _)) = _
              rw [List.length_map, List.length_range]
            · rw [if_pos hj]
              show _ = List.getD _ j Value.null
              rw [List.getD_eq_getElem?_getD]
              simp [hj]
          · rw [if_neg e1]
            by_cases e2 : n < i ∧ i < n + 1 + a.toNatClampNeg
            · rw [if_pos e2, if_pos (by omega)]
              refine Or.inr ⟨1, b.toNatClampNeg, _, fun j => (List.replicate b.toNatClampNeg (Value.int 0)).getD j .null, rfl, ?_, fun j hj => (hc_getr hj).symm⟩
              show some (Sum.inl (1, (List.replicate b.toNatClampNeg (Value.int 0)).length, _)) = _
              rw [List.length_replicate]
            · rw [if_neg e2, if_neg (by omega), if_neg e1]
              exact Or.inl rfl
  · cases hh
end HCY
section HCZ
variable {G : hv_G} {p : Program} {l : Launch} {e : Env} {R : Room} {s0 : State} {m : MethodId} {args : Array Value} {below : List Frame} {meth : Method} {cd : Code} {nL : Nat} {Q : State → Prop} {Ts : List Cond} {cc : ByteArray} {oc : Nat} {LS : Nat × (Nat → Option Int32)} {call : Nat → hc_M → List Value → Nat → hc_H → Option hc_R} {fr lo : Nat}
/-- what is asked of the callee's function: each of its answers is a contract -/
def hc_CO (G : hv_G) (l : Launch) (fr lo : Nat) (call : Nat → hc_M → List Value → Nat → hc_H → Option hc_R) : Prop := ∀ (k : Nat) (e : hc_M) (as : List Value) (n : Nat) (h : hc_H) (r : Option Value) (n' : Nat) (h' : hc_H) (mc ms : Nat), hc_get hm_pg k = some e → call k e as n h = some (r, n', h', mc, ms) → hv_C G hc_gw l e.1 e.2.1 e.2.2.1 e.2.2.2.1 fr lo n (hc_f h) as r n' (hc_f h') mc ms
theorem hc_yk {k : Nat} {e : hc_M} (h : hc_get hm_pg k = some e) : hc_y k = e.1 := by unfold hc_y; rw [h]
theorem hc_appE (r : Option Value) (st : List Value) : hc_app r st = r.toList ++ st := by cases r <;> rfl
theorem hc_RnO {ci : Nat} (h : ci < 11) : hc_Rn ci = hc_own ci := by
  match ci, h with
  | 0, _ => rfl
  | 1, _ => rfl
  | 2, _ => rfl
  | 3, _ => rfl
  | 4, _ => rfl
  | 5, _ => rfl
  | 6, _ => rfl
  | 7, _ => rfl
  | 8, _ => rfl
  | 9, _ => rfl
  | 10, _ => rfl
  | n + 11, h => exact absurd h (by omega)
theorem hs_str (X : hv_X G p s0 m args cd Ts (hc_own 6) cc nL) (hT : ∀ w ∈ hc_gw, w ∈ Ts) {pc n c s : Nat} {lc st : List Value} {h : hc_H} {r : hc_S ⊕ Option Value} {r1 z : Nat} (hfr : fr + 1 ≤ R.frames) (hlo : 100 + lo ≤ R.locals ∧ 4 ≤ fr ∧ 200 ≤ lo) (hd : decode cc pc = .ok (.invokevirtual z, 3)) (hk : hc_tl r1 z = true) (hh : hi_str r1 pc lc st n h c s = some r) : hc_res G p l e R s0 m args below meth cd nL pc lc st n h c s r := by
  unfold hi_str at hh
  split at hh
  · have hz := Nat.eq_of_beq_eq_true (show Nat.beq z 52 = true from hk)
    subst hz
    split at hh
    next k st =>
      split at hh
      next hcat =>
        cases hh
        have hcat' : (st.map fun v => v.category).sum ≤ 8 := by rw [← hc_cat_eq]; exact Nat.le_of_ble_eq_true hcat
        refine ⟨Nat.le_refl _, Nat.le_refl _, rfl, fun q1 q2 Q k2 => ?_⟩
        exact hw_callT (as := []) (k := k) (na := 0) (mc := 0) (ms := 0) X (hx_len (fr := 4) (lo := 200) (Nat.le_refl _) (Nat.le_refl _)) hd hT hc_gw_keep hl_t_cln (hT _ hl_t_nstr) (hT _ hl_t_m52) (hT _ hl_t_iln) (hT _ hl_t_sln) (by decide) (by decide +kernel) rfl (by omega) (by omega) hcat' q1 q2 k2
      · cases hh
    · cases hh
  · have hz := Nat.eq_of_beq_eq_true (show Nat.beq z 56 = true from hk)
    subst hz
    split at hh
    next i k st =>
      split at hh
      · cases hh
      next hb =>
        have hb2 := Bool.or_eq_false_iff.mp hb
        have hcat : Nat.ble (hc_cat st) 8 = true := by simpa using hb2.2
        split at hh
        next ch hch =>
          cases hh
          rw [hc_nth_eq] at hch
          have hcat' : (st.map fun v => v.category).sum ≤ 8 := by rw [← hc_cat_eq]; exact Nat.le_of_ble_eq_true hcat
          refine ⟨Nat.le_refl _, Nat.le_refl _, rfl, fun q1 q2 Q k2 => ?_⟩
          exact hw_callT (as := [.int i]) (k := k) (na := 1) (mc := 0) (ms := 0) X (hx_chr (fr := 4) (lo := 200) (of_decide_eq_false hb2.1) hch (Nat.le_refl _) (Nat.le_refl _)) hd hT hc_gw_keep hl_t_cch (hT _ hl_t_nstr) (hT _ hl_t_m56) (hT _ hl_t_ich) (hT _ hl_t_sch) (by decide) (by decide +kernel) rfl (by omega) (by omega) hcat' q1 q2 k2
        · cases hh
    · cases hh
  next h0 h1 =>
    have hz : z = 41 := by
      unfold hc_tl at hk
      split at hk
      · exact absurd rfl h0
      · exact absurd rfl h1
      · exact Nat.eq_of_beq_eq_true hk
    subst hz
    split at hh
    next x k st =>
      split at hh
      next hcat =>
        cases hh
        have hcat' : (st.map fun v => v.category).sum ≤ 8 := by rw [← hc_cat_eq]; exact Nat.le_of_ble_eq_true hcat
        refine ⟨Nat.le_refl _, Nat.le_refl _, rfl, fun q1 q2 Q k2 => ?_⟩
        exact hw_callT (as := [.int x]) (k := k) (na := 1) (mc := 0) (ms := 0) X (hx_idx (fr := 4) (lo := 200) (Nat.le_refl _) (Nat.le_refl _)) hd hT hc_gw_keep hl_t_ci1 (hT _ hl_t_nstr) (hT _ hl_t_m41) (hT _ hl_t_ii1) (hT _ hl_t_si1) (by decide) (by decide +kernel) rfl (by omega) (by omega) hcat' q1 q2 k2
      · cases hh
    · cases hh
theorem hs_invokevirtual (X : hv_X G p s0 m args cd Ts (hc_own oc) cc nL) (hT : ∀ w ∈ hc_gw, w ∈ Ts) {pc n c s : Nat} {lc st : List Value} {h : hc_H} {r : hc_S ⊕ Option Value} {r1 r2 len z : Nat} {ini : Bool} (hpg : ∀ {k : Nat} {e : hc_M}, hc_get hm_pg k = some e → hc_MOK e) (hco : hc_CO G l fr lo call) (hfr : fr + 1 ≤ R.frames) (hlo : 100 + lo ≤ R.locals ∧ 4 ≤ fr ∧ 200 ≤ lo) (hd : decode cc pc = .ok (.invokevirtual z, len)) (hk : hc_ok oc ini pc (.invokevirtual z) len r1 r2 = true) (hh : hi_invokevirtual hm_pg call r1 r2 pc lc st n h c s = some r) : hc_res G p l e R s0 m args below meth cd nL pc lc st n h c s r := by
  simp only [hc_ok, Bool.and_eq_true] at hk
  have hl : len = 3 := Nat.eq_of_beq_eq_true hk.1
  subst hl
  obtain ⟨-, hk⟩ := hk
  unfold hi_invokevirtual at hh
  split at hh
  · have hk' : (Nat.beq oc 6 && hc_tl r1 z) = true := hk
    simp only [Bool.and_eq_true] at hk'
    have e1 := Nat.eq_of_beq_eq_true hk'.1
    subst e1
    exact hs_str X hT hfr hlo hd hk'.2 hh
  next hne =>
    have hk' : (hc_m5 hl_ML oc z r1 0 && (hc_m2 hl_SE r1 && (hc_m2 hl_IM r1 && hc_mq r1 (fun e => Nat.ble (e.2.2.2.2.1 + 1) 11)))) = true := by
      split at hk
      · exact absurd rfl hne
      · exact hk
    simp only [Bool.and_eq_true] at hk'
    obtain ⟨hk1, hk2, hk3, hk4⟩ := hk'
    obtain ⟨p1, hp1⟩ := hc_m5_ok hk1
    obtain ⟨p2, hp2⟩ := hc_m2_ok hk2
    obtain ⟨p3, hp3⟩ := hc_m2_ok hk3
    unfold hc_inv0 at hh
    split at hh
    · cases hh
    next e0 he0 =>
      obtain ⟨o1, o2, o3, o4, o5, o6, o7, o8, o9⟩ := hpg he0
      have hy := hc_yk he0
      split at hh
      · cases hh
      next as rest hpop =>
        obtain ⟨bs, rfl, hbl, hst⟩ := hc_pop_eq _ _ _ _ _ hpop
        rw [List.append_nil] at hh
        split at hh
        next i rest =>
          split at hh
          · cases hh
          next fs hfs =>
            split at hh
            · cases hh
            next hcat =>
              split at hh
              · cases hh
              next r0 n' h' mc ms hcall =>
                cases hh
                subst hst
                refine ⟨Nat.le_add_right _ _, Nat.le_add_right _ _, rfl, fun q1 q2 Q k => ?_⟩
                have hM := hco _ _ _ _ _ _ _ _ _ _ he0 hcall
                have hcat' : (rest.map fun v => v.category).sum ≤ 8 := by rw [← hc_cat_eq]; exact Nat.le_of_ble_eq_true hcat
                have hoc : e0.2.2.2.2.1 < 11 := by
                  unfold hc_mq at hk4
                  rw [he0] at hk4
                  exact Nat.le_of_ble_eq_true hk4
                have hrn : hc_Rn e0.2.2.2.2.1 = e0.1.cls := (hc_RnO hoc).trans o6
                unfold hc_W at k ⊢
                rw [hc_appE] at k
                have w1 := hl_ML_ok _ hp1
                have w2 := hl_SE_ok _ hp2
                have w3 := hl_IM_ok _ hp3
                dsimp only at w1 w2 w3
                rw [hy] at w1 w2 w3
                exact hw_callV (rc := (hc_Rn e0.2.2.2.2.1, hc_T e0.2.2.2.2.1, hc_nf e0.2.2.2.2.1)) X hM hd hT hc_gw_keep o1 (hT _ o4) (hT _ (hc_in w1 rfl)) (hT _ (hc_in w3 rfl)) (by show Cond.selects (hc_Rn e0.2.2.2.2.1) e0.1 e0.1 ∈ Ts; rw [hrn]; exact hT _ (hc_in w2 rfl)) o3 o5 hbl (hc_fI (hc_obj_ok hfs)) (hc_cl hoc) hfr (by omega) hcat' q1 q2 k
        · cases hh
theorem hs_invokespecial (X : hv_X G p s0 m args cd Ts (hc_own oc) cc nL) (hT : ∀ w ∈ hc_gw, w ∈ Ts) {pc n c s : Nat} {lc st : List Value} {h : hc_H} {r : hc_S ⊕ Option Value} {r1 r2 len z : Nat} {ini : Bool} (hpg : ∀ {k : Nat} {e : hc_M}, hc_get hm_pg k = some e → hc_MOK e) (hco : hc_CO G l fr lo call) (hfr : fr + 1 ≤ R.frames) (hlo : 100 + lo ≤ R.locals ∧ 4 ≤ fr ∧ 200 ≤ lo) (hd : decode cc pc = .ok (.invokespecial z, len)) (hk : hc_ok oc ini pc (.invokespecial z) len r1 r2 = true) (hh : hi_invokespecial hm_pg call r1 r2 pc lc st n h c s = some r) : hc_res G p l e R s0 m args below meth cd nL pc lc st n h c s r := by
  simp only [hc_ok, Bool.and_eq_true] at hk
  have hl : len = 3 := Nat.eq_of_beq_eq_true hk.1
  subst hl
  obtain ⟨-, hk⟩ := hk
  unfold hi_invokespecial at hh
  split at hh
  · have hk' : hc_m3 hl_OI oc z = true := hk
    obtain ⟨p1, hp1⟩ := hc_m3_ok hk'
    split at hh
    next a st =>
      split at hh
      · cases hh
      next hcat =>
        cases hh
        have hcat' : (st.map fun v => v.category).sum ≤ 8 := by rw [← hc_cat_eq]; exact Nat.le_of_ble_eq_true hcat
        exact ⟨Nat.le_refl _, Nat.le_refl _, rfl, fun _ _ Q k => hw_objInit X hd (hT _ (hc_in (hl_OI_ok _ hp1) rfl)) (hT _ hl_oi1) (hT _ hl_oi2) (by omega) (by omega) hcat' k⟩
    · cases hh
  next hne =>
    have hk' : (hc_m5 hl_ML oc z r1 1 && (hc_m2 hl_IM r1 && (decide ((hc_y r1).name = "<init>") && hc_mq r1 (fun e => e.2.2.2.1.isNone)))) = true := by
      split at hk
      · exact absurd rfl hne
      · exact hk
    simp only [Bool.and_eq_true, decide_eq_true_eq] at hk'
    obtain ⟨hk1, hk2, hk3, hk4⟩ := hk'
    obtain ⟨p1, hp1⟩ := hc_m5_ok hk1
    obtain ⟨p2, hp2⟩ := hc_m2_ok hk2
    unfold hc_inv1 at hh
    split at hh
    · cases hh
    next e0 he0 =>
      obtain ⟨o1, o2, o3, o4, o5, o6, o7, o8, o9⟩ := hpg he0
      have hy := hc_yk he0
      split at hh
      · cases hh
      next as rest hpop =>
        obtain ⟨bs, rfl, hbl, hst⟩ := hc_pop_eq _ _ _ _ _ hpop
        rw [List.append_nil] at hh
        split at hh
        next a rest =>
          split at hh
          · cases hh
          next hcat =>
            split at hh
            · cases hh
            next r0 n' h' mc ms hcall =>
              cases hh
              subst hst
              refine ⟨Nat.le_add_right _ _, Nat.le_add_right _ _, rfl, fun q1 q2 Q k => ?_⟩
              have hM := hco _ _ _ _ _ _ _ _ _ _ he0 hcall
              have hcat' : (rest.map fun v => v.category).sum ≤ 8 := by rw [← hc_cat_eq]; exact Nat.le_of_ble_eq_true hcat
              unfold hc_W at k ⊢
              rw [hc_appE] at k
              have w1 := hl_ML_ok _ hp1
              have w2 := hl_IM_ok _ hp2
              dsimp only at w1 w2
              rw [hy] at w1 w2 hk3
              have hret : e0.2.2.2.1 = none := by
                unfold hc_mq at hk4
                rw [he0] at hk4
                exact Option.isNone_iff_eq_none.mp hk4
              rw [hret] at hM o1
              exact hw_callI X hM hd hT hc_gw_keep o1 (hT _ o4) (hT _ (hc_in w1 rfl)) (hT _ (hc_in w2 rfl)) hk3 o3 o5 hbl hfr (by omega) hcat' q1 q2 k
        · cases hh
theorem hs_invokestatic (X : hv_X G p s0 m args cd Ts (hc_own oc) cc nL) (hT : ∀ w ∈ hc_gw, w ∈ Ts) {pc n c s : Nat} {lc st : List Value} {h : hc_H} {r : hc_S ⊕ Option Value} {r1 r2 len z : Nat} {ini : Bool} (hpg : ∀ {k : Nat} {e : hc_M}, hc_get hm_pg k = some e → hc_MOK e) (hco : hc_CO G l fr lo call) (hfr : fr + 1 ≤ R.frames) (hlo : 100 + lo ≤ R.locals ∧ 4 ≤ fr ∧ 200 ≤ lo) (hd : decode cc pc = .ok (.invokestatic z, len)) (hk : hc_ok oc ini pc (.invokestatic z) len r1 r2 = true) (hh : hi_invokestatic hm_pg call r1 r2 pc lc st n h c s = some r) : hc_res G p l e R s0 m args below meth cd nL pc lc st n h c s r := by
  simp only [hc_ok, Bool.and_eq_true] at hk
  have hl : len = 3 := Nat.eq_of_beq_eq_true hk.1
  subst hl
  obtain ⟨-, hk⟩ := hk
  unfold hi_invokestatic at hh
  split at hh
  · have hk' : hc_m3 hl_AC oc z = true := hk
    obtain ⟨p1, hp1⟩ := hc_m3_ok hk'
    split at hh
    next zz dp i1 sp i0 st =>
      split at hh
      · cases hh
      next f hf =>
        split at hh
        · cases hh
        next g hg =>
          split at hh
          · cases hh
          next hc =>
            split at hh
            · cases hh
            next h' hp' =>
              cases hh
              simp only [Bool.and_eq_true, decide_eq_true_eq, Bool.not_eq_true', decide_eq_false_iff_not] at hc
              obtain ⟨c1, c2, c3, c4, c5, c6, c7⟩ := hc
              subst c1 c2
              have c4' := Nat.eq_of_beq_eq_true c4
              have c5' := Nat.eq_of_beq_eq_true c5
              have hcat' : (st.map fun v => v.category).sum ≤ 8 := by rw [← hc_cat_eq]; exact Nat.le_of_ble_eq_true c7
              have z0 : (0 : Int32).toNatClampNeg = 0 := by decide
              refine ⟨Nat.le_refl _, Nat.le_refl _, rfl, fun _ _ Q k => ?_⟩
              have hnw : nativeFrameWords "java/lang/System" "arraycopy" 5 = 7 := by decide +kernel
              refine hw_copy (sp := 0) (dp := 0) (z := zz) (f := fun j => f.getD j .null) (g := fun j => g.getD j .null) X hd (hT _ (hc_in (hl_AC_ok _ hp1) rfl)) (hT _ hl_ac1) (hT _ hl_ac2) (hT _ hl_ac3) (hc_fI (hc_arr_ok hf)) (hc_fI (hc_arr_ok hg)) (by decide) (by decide) c3 (by rw [z0]; show 0 + zz.toNatClampNeg ≤ f.length; omega) (by rw [z0]; show 0 + zz.toNatClampNeg ≤ g.length; omega) ?_ (by omega) (by rw [hnw]; omega) hcat' ?_
              · intro i hi
                have hlt : i < f.length := by omega
                have hm : f.getD (0 + i) .null ∈ f := by
                  rw [Nat.zero_add, List.getD_eq_getElem?_getD, List.getElem?_eq_getElem hlt]
                  exact List.getElem_mem hlt
                have hI := List.all_eq_true.mp c6 _ hm
                rw [z0]
                generalize f.getD (0 + i) Value.null = v at hI
                cases v <;> first | exact ⟨_, rfl⟩ | cases hI
              · unfold hc_W at k
                rw [hc_f_put hp', hc_upL c5'] at k
                refine hc_sim (hv_sim_up (fun j hj => ?_)) k
                have hj' : j < g.length := hj
                rw [z0]
                unfold va_cpy
                rw [if_pos (by omega)]
                congr 1
                omega
    · cases hh
  next hne =>
    unfold hc_inv2 at hh
    split at hh
    · cases hh
    next e0 he0 =>
      obtain ⟨o1, o2, o3, o4, o5, o6, o7, o8, o9⟩ := hpg he0
      have hy := hc_yk he0
      split at hh
      · cases hh
      next as rest hpop =>
        obtain ⟨bs, rfl, hbl, hst⟩ := hc_pop_eq _ _ _ _ _ hpop
        rw [List.append_nil] at hh
        split at hh
        · cases hh
        next hcat =>
          split at hh
          · cases hh
          next r0 n' h' mc ms hcall =>
            cases hh
            subst hst
            refine ⟨Nat.le_add_right _ _, Nat.le_add_right _ _, rfl, fun q1 q2 Q k => ?_⟩
            have hM := hco _ _ _ _ _ _ _ _ _ _ he0 hcall
            have hcat' : (rest.map fun v => v.category).sum ≤ 8 := by rw [← hc_cat_eq]; exact Nat.le_of_ble_eq_true hcat
            unfold hc_W at k ⊢
            rw [hc_appE] at k
            split at hk
            · exact absurd rfl hne
            · simp only [Bool.and_eq_true] at hk
              obtain ⟨p1, hp1⟩ := hc_m4_ok hk.1
              obtain ⟨p2, hp2⟩ := hc_m2_ok hk.2
              have w1 := hl_MN_ok _ hp1
              have w2 := hl_ST_ok _ hp2
              dsimp only at w1 w2
              rw [hy] at w1 w2
              exact hw_callSN X hM hd hT hc_gw_keep o1 (hT _ o4) (hT _ (hc_in w1 rfl)) (hT _ (hc_in w2 rfl)) o3 o5 hbl hfr (by omega) hcat' q1 q2 k
            · simp only [Bool.and_eq_true] at hk
              obtain ⟨p1, hp1⟩ := hc_m5_ok hk.1
              obtain ⟨p2, hp2⟩ := hc_m2_ok hk.2
              have w1 := hl_ML_ok _ hp1
              have w2 := hl_ST_ok _ hp2
              dsimp only at w1 w2
              rw [hy] at w1 w2
              exact hw_callS X hM hd hT hc_gw_keep o1 (hT _ o4) (hT _ (hc_in w1 rfl)) (hT _ (hc_in w2 rfl)) o3 o5 hbl hfr (by omega) hcat' q1 q2 k
theorem hs_return_ (X : hv_X G p s0 m args cd Ts (hc_own oc) cc nL) (hT : ∀ w ∈ hc_gw, w ∈ Ts) {pc n c s : Nat} {lc st : List Value} {h : hc_H} {r : hc_S ⊕ Option Value} {r1 r2 len : Nat} {ini : Bool} {ret : Option FieldType} (hlk : meth.locks = false) (hr : meth.sig.returnType = ret) (hd : decode cc pc = .ok (.return_, len)) (hk : hc_ok oc ini pc .return_ len r1 r2 = true) (hh : hi_return_ ret pc lc st n h c s = some r) : hc_res G p l e R s0 m args below meth cd nL pc lc st n h c s r := by
  simp only [hc_ok] at hk
  have hl : len = 1 := Nat.eq_of_beq_eq_true hk
  subst hl
  unfold hi_return_ at hh
  split at hh
  · split at hh
    · cases hh
      exact hw_vret X hlk hr hd
    · cases hh
  · cases hh
theorem hs_ireturn (X : hv_X G p s0 m args cd Ts (hc_own oc) cc nL) (hT : ∀ w ∈ hc_gw, w ∈ Ts) {pc n c s : Nat} {lc st : List Value} {h : hc_H} {r : hc_S ⊕ Option Value} {r1 r2 len : Nat} {ini : Bool} {ret : Option FieldType} (hlk : meth.locks = false) (hr : meth.sig.returnType = ret) (hd : decode cc pc = .ok (.ireturn, len)) (hk : hc_ok oc ini pc .ireturn len r1 r2 = true) (hh : hi_ireturn ret pc lc st n h c s = some r) : hc_res G p l e R s0 m args below meth cd nL pc lc st n h c s r := by
  simp only [hc_ok] at hk
  have hl : len = 1 := Nat.eq_of_beq_eq_true hk
  subst hl
  unfold hi_ireturn at hh
  split at hh
  next v =>
    split at hh
    next hv =>
      cases hh
      unfold hc_rtv at hv
      split at hv
      · cases v with
        | int x => exact hw_iret X hlk hr (x := x) rfl rfl hd
        | float x => exact hw_iret X hlk hr (x := G.2.1 x.toNat) rfl rfl hd
        | long x => cases hv
        | double x => cases hv
        | null => cases hv
        | ref x => cases hv
        | retAddr x => cases hv
      · split at hv
        next x =>
          rcases Bool.or_eq_true _ _ ▸ hv with q | q
          · have := of_decide_eq_true q
            subst this
            exact hw_iret X hlk hr (x := 0) rfl (by decide) hd
          · have := of_decide_eq_true q
            subst this
            exact hw_iret X hlk hr (x := 1) rfl (by decide) hd
        · cases hv
      · cases hv
    · cases hh
  · cases hh
theorem hs_lreturn (X : hv_X G p s0 m args cd Ts (hc_own oc) cc nL) (hT : ∀ w ∈ hc_gw, w ∈ Ts) {pc n c s : Nat} {lc st : List Value} {h : hc_H} {r : hc_S ⊕ Option Value} {r1 r2 len : Nat} {ini : Bool} {ret : Option FieldType} (hlk : meth.locks = false) (hr : meth.sig.returnType = ret) (hd : decode cc pc = .ok (.lreturn, len)) (hk : hc_ok oc ini pc .lreturn len r1 r2 = true) (hh : hi_lreturn ret pc lc st n h c s = some r) : hc_res G p l e R s0 m args below meth cd nL pc lc st n h c s r := by
  simp only [hc_ok] at hk
  have hl : len = 1 := Nat.eq_of_beq_eq_true hk
  subst hl
  unfold hi_lreturn at hh
  split at hh
  · split at hh
    · cases hh
      exact hw_lret X hlk hr hd
    · cases hh
  · cases hh
theorem hs_areturn (X : hv_X G p s0 m args cd Ts (hc_own oc) cc nL) (hT : ∀ w ∈ hc_gw, w ∈ Ts) {pc n c s : Nat} {lc st : List Value} {h : hc_H} {r : hc_S ⊕ Option Value} {r1 r2 len : Nat} {ini : Bool} {ret : Option FieldType} (hlk : meth.locks = false) (hr : meth.sig.returnType = ret) (hd : decode cc pc = .ok (.areturn, len)) (hk : hc_ok oc ini pc .areturn len r1 r2 = true) (hh : hi_areturn ret pc lc st n h c s = some r) : hc_res G p l e R s0 m args below meth cd nL pc lc st n h c s r := by
  simp only [hc_ok] at hk
  have hl : len = 1 := Nat.eq_of_beq_eq_true hk
  subst hl
  unfold hi_areturn at hh
  split at hh
  · split at hh
    · cases hh
      exact hw_aret X hlk hr (Or.inr ⟨_, rfl⟩) hd
    · cases hh
  · cases hh
end HCZ
section HCE
variable {G : hv_G} {p : Program} {l : Launch} {e : Env} {R : Room} {s0 : State} {m : MethodId} {args : Array Value} {below : List Frame} {meth : Method} {cd : Code} {nL : Nat} {Q : State → Prop} {Ts : List Cond} {cc : ByteArray} {oc : Nat} {LS : Nat × (Nat → Option Int32)} {call : Nat → hc_M → List Value → Nat → hc_H → Option hc_R} {fr lo : Nat}
set_option maxHeartbeats 4000000 in
theorem hc_step1_ok (X : hv_X G p s0 m args cd Ts (hc_own oc) cc nL) (hT : ∀ w ∈ hc_gw, w ∈ Ts) (hpg : ∀ {k : Nat} {e : hc_M}, hc_get hm_pg k = some e → hc_MOK e) (hco : hc_CO G l fr lo call) (hfr : fr + 1 ≤ R.frames) (hlo : 100 + lo ≤ R.locals ∧ 4 ≤ fr ∧ 200 ≤ lo) (hL : hc_LL G LS) {ret : Option FieldType} (hlk : meth.locks = false) (hr : meth.sig.returnType = ret) {ini : Bool} (hin : ini = true → meth.name = "<init>") {tb : hc_K} (hD : hc_rws (hc_D cc) 0 tb = true) (hO : hc_rws (hc_O oc ini) 0 tb = true) {pc n c s : Nat} {lc st : List Value} {h : hc_H} (hn : lc.length = nL) {r : hc_S ⊕ Option Value} (hh : hc_step1 LS hm_pg call ret tb (pc, lc, st, n, h, c, s) = some r) : hc_res G p l e R s0 m args below meth cd nL pc lc st n h c s r := by
  unfold hc_step1 at hh
  split at hh
  · cases hh
  next I hI =>
    obtain ⟨ii, len, r1, r2⟩ := I
    have hd : decode cc pc = .ok (ii, len) := of_decide_eq_true (hc_tab hD hI)
    have hk : hc_ok oc ini pc ii len r1 r2 = true := hc_tab hO hI
    split at hh
    · cases hh
    next f hf =>
      dsimp only at hf hh
      unfold hc_comp at hf
      split at hf
      · cases hf
        exact hs_iconst X hT hd hk hh
      · cases hf
        exact hs_bipush X hT hd hk hh
      · cases hf
        exact hs_sipush X hT hd hk hh
      · cases hf
        exact hs_ldc X hT hd hk hh
      · cases hf
        exact hs_ldc_w X hT hd hk hh
      · cases hf
        exact hs_lconst X hT hd hk hh
      · cases hf
        exact hs_ldc2_w X hT hd hk hh
      · cases hf
        exact hs_iload_n X hT hd hk hh
      · cases hf
        exact hs_iload X hT hd hk hh
      · cases hf
        exact hs_lload_n X hT hd hk hh
      · cases hf
        exact hs_lload X hT hd hk hh
      · cases hf
        exact hs_aload_n X hT hd hk hh
      · cases hf
        exact hs_aload X hT hd hk hh
      · cases hf
        exact hs_istore_n X hT hn hd hk hh
      · cases hf
        exact hs_istore X hT hn hd hk hh
      · cases hf
        exact hs_lstore_n X hT hn hd hk hh
      · cases hf
        exact hs_lstore X hT hn hd hk hh
      · cases hf
        exact hs_astore_n X hT hn hd hk hh
      · cases hf
        exact hs_astore X hT hn hd hk hh
      · cases hf
        exact hs_iinc X hT hn hd hk hh
      · cases hf
        exact hs_iadd X hT hd hk hh
      · cases hf
        exact hs_isub X hT hd hk hh
      · cases hf
        exact hs_imul X hT hd hk hh
      · cases hf
        exact hs_iand X hT hd hk hh
      · cases hf
        exact hs_ior X hT hd hk hh
      · cases hf
        exact hs_ixor X hT hd hk hh
      · cases hf
        exact hs_ishl X hT hd hk hh
      · cases hf
        exact hs_ishr X hT hL hd hk hh
      · cases hf
        exact hs_iushr X hT hL hd hk hh
      · cases hf
        exact hs_ladd X hT hd hk hh
      · cases hf
        exact hs_lsub X hT hd hk hh
      · cases hf
        exact hs_lmul X hT hd hk hh
      · cases hf
        exact hs_lor X hT hd hk hh
      · cases hf
        exact hs_idiv X hT hd hk hh
      · cases hf
        exact hs_irem X hT hd hk hh
      · cases hf
        exact hs_lshl X hT hd hk hh
      · cases hf
        exact hs_lcmp X hT hd hk hh
      · cases hf
        exact hs_i2l X hT hd hk hh
      · cases hf
        exact hs_l2i X hT hd hk hh
      · cases hf
        exact hs_i2b X hT hL hd hk hh
      · cases hf
        exact hs_i2c X hT hd hk hh
      · cases hf
        exact hs_dup X hT hd hk hh
      · cases hf
        exact hs_pop X hT hd hk hh
      · cases hf
        exact hs_dup2 X hT hd hk hh
      · cases hf
        exact hs_ifCond X hT hL hd hk hh
      · cases hf
        exact hs_if_icmp X hT hd hk hh
      · cases hf
        exact hs_goto X hT hd hk hh
      · cases hf
        exact hs_tableswitch X hT hL hd hk hh
      · cases hf
        exact hs_getfield X hT hd hk hh
      · cases hf
        exact hs_putfield X hT hin hd hk hh
      · cases hf
        exact hs_iaload X hT hL hd hk hh
      · cases hf
        exact hs_baload X hT hd hk hh
      · cases hf
        exact hs_laload X hT hd hk hh
      · cases hf
        exact hs_aaload X hT hd hk hh
      · cases hf
        exact hs_iastore X hT hd hk hh
      · cases hf
        exact hs_bastore X hT hL hd hk hh
      · cases hf
        exact hs_lastore X hT hd hk hh
      · cases hf
        exact hs_aastore X hT hd hk hh
      · cases hf
        exact hs_arraylength X hT hL.1 hd hk hh
      · cases hf
        exact hs_new X hT hd hk hh
      · cases hf
        exact hs_newarray X hT hd hk hh
      · cases hf
        exact hs_anewarray X hT hd hk hh
      · cases hf
        exact hs_multianewarray X hT hd hk hh
      · cases hf
        exact hs_invokevirtual X hT hpg hco hfr hlo hd hk hh
      · cases hf
        exact hs_invokespecial X hT hpg hco hfr hlo hd hk hh
      · cases hf
        exact hs_invokestatic X hT hpg hco hfr hlo hd hk hh
      · cases hf
        exact hs_return_ X hT hlk hr hd hk hh
      · cases hf
        exact hs_ireturn X hT hlk hr hd hk hh
      · cases hf
        exact hs_lreturn X hT hlk hr hd hk hh
      · cases hf
        exact hs_areturn X hT hlk hr hd hk hh
      · cases hf
theorem hc_run_ok (X : hv_X G p s0 m args cd Ts (hc_own oc) cc nL) (hT : ∀ w ∈ hc_gw, w ∈ Ts) (hpg : ∀ {k : Nat} {e : hc_M}, hc_get hm_pg k = some e → hc_MOK e) (hco : hc_CO G l fr lo call) (hfr : fr + 1 ≤ R.frames) (hlo : 100 + lo ≤ R.locals ∧ 4 ≤ fr ∧ 200 ≤ lo) (hL : hc_LL G LS) {ret : Option FieldType} (hlk : meth.locks = false) (hr : meth.sig.returnType = ret) {ini : Bool} (hin : ini = true → meth.name = "<init>") {tb : hc_K} (hD : hc_rws (hc_D cc) 0 tb = true) (hO : hc_rws (hc_O oc ini) 0 tb = true) :
    ∀ (fuel : Nat) (pc n c s : Nat) (lc st : List Value) (h : hc_H) (r : Option Value) (n' : Nat) (h' : hc_H) (c' s' : Nat), lc.length = nL → hc_run LS hm_pg call ret tb fuel (pc, lc, st, n, h, c, s) = some (r, n', h', c', s') → c ≤ c' ∧ s ≤ s' ∧ (c' ≤ R.cells → s' ≤ R.slots → hc_W G p l e R s0 m args below meth cd nL (MQ below (hv_Qc G n' (hc_f h') r) args s0 c' s' (fun q => G.1.1 ≤ q)) pc lc st n h c s)
  | 0, pc, n, c, s, lc, st, h, r, n', h', c', s', hn, hh => by cases hh
  | fuel + 1, pc, n, c, s, lc, st, h, r, n', h', c', s', hn, hh => by
    have hh' : (match hc_step1 LS hm_pg call ret tb (pc, lc, st, n, h, c, s) with
      | none => none
      | some (.inl S') => hc_run LS hm_pg call ret tb fuel S'
      | some (.inr r) => some (r, n, h, c, s)) = some (r, n', h', c', s') := hh
    split at hh'
    · cases hh'
    next S' hS =>
      obtain ⟨pc1, lc1, st1, n1, h1, c1, s1⟩ := S'
      obtain ⟨g1, g2, g3, g4⟩ := hc_step1_ok X hT hpg hco hfr hlo hL hlk hr hin hD hO hn hS
      obtain ⟨k1, k2, k3⟩ := hc_run_ok X hT hpg hco hfr hlo hL hlk hr hin hD hO fuel pc1 n1 c1 s1 lc1 st1 h1 r n' h' c' s' (g3.trans hn) hh'
      exact ⟨Nat.le_trans g1 k1, Nat.le_trans g2 k2, fun q1 q2 => g4 (Nat.le_trans k1 q1) (Nat.le_trans k2 q2) _ (k3 q1 q2)⟩
    next r1 hS =>
      cases hh'
      have := hc_step1_ok (e := e) (below := below) X hT hpg hco hfr hlo hL hlk hr hin hD hO hn hS
      exact ⟨Nat.le_refl _, Nat.le_refl _, fun _ _ => this⟩
theorem hc_steps_ok (X : hv_X G p s0 m args cd Ts (hc_own oc) cc nL) (hT : ∀ w ∈ hc_gw, w ∈ Ts) (hpg : ∀ {k : Nat} {e : hc_M}, hc_get hm_pg k = some e → hc_MOK e) (hco : hc_CO G l fr lo call) (hfr : fr + 1 ≤ R.frames) (hlo : 100 + lo ≤ R.locals ∧ 4 ≤ fr ∧ 200 ≤ lo) (hL : hc_LL G LS) {ret : Option FieldType} (hlk : meth.locks = false) (hr : meth.sig.returnType = ret) {ini : Bool} (hin : ini = true → meth.name = "<init>") {tb : hc_K} (hD : hc_rws (hc_D cc) 0 tb = true) (hO : hc_rws (hc_O oc ini) 0 tb = true) :
    ∀ (fuel : Nat) (pc n c s : Nat) (lc st : List Value) (h : hc_H) (pc' n' c' s' : Nat) (lc' st' : List Value) (h' : hc_H), lc.length = nL → hc_steps LS hm_pg call ret tb fuel (pc, lc, st, n, h, c, s) = some (pc', lc', st', n', h', c', s') → c ≤ c' ∧ s ≤ s' ∧ lc'.length = nL ∧ (c' ≤ R.cells → s' ≤ R.slots → ∀ Q : State → Prop, hc_W G p l e R s0 m args below meth cd nL Q pc' lc' st' n' h' c' s' → hc_W G p l e R s0 m args below meth cd nL Q pc lc st n h c s)
  | 0, pc, n, c, s, lc, st, h, pc', n', c', s', lc', st', h', hn, hh => by
    cases hh
    exact ⟨Nat.le_refl _, Nat.le_refl _, hn, fun _ _ Q k => k⟩
  | fuel + 1, pc, n, c, s, lc, st, h, pc', n', c', s', lc', st', h', hn, hh => by
    have hh' : (match hc_step1 LS hm_pg call ret tb (pc, lc, st, n, h, c, s) with
      | some (.inl S') => hc_steps LS hm_pg call ret tb fuel S'
      | _ => none) = some (pc', lc', st', n', h', c', s') := hh
    split at hh'
    next S' hS =>
      obtain ⟨pc1, lc1, st1, n1, h1, c1, s1⟩ := S'
      obtain ⟨g1, g2, g3, g4⟩ := hc_step1_ok X hT hpg hco hfr hlo hL hlk hr hin hD hO hn hS
      obtain ⟨k1, k2, k3, k4⟩ := hc_steps_ok X hT hpg hco hfr hlo hL hlk hr hin hD hO fuel pc1 n1 c1 s1 lc1 st1 h1 pc' n' c' s' lc' st' h' (g3.trans hn) hh'
      exact ⟨Nat.le_trans g1 k1, Nat.le_trans g2 k2, k3, fun q1 q2 Q k => g4 (Nat.le_trans k1 q1) (Nat.le_trans k2 q2) _ (k4 q1 q2 Q k)⟩
    · cases hh'
theorem hc_till_ok (X : hv_X G p s0 m args cd Ts (hc_own oc) cc nL) (hT : ∀ w ∈ hc_gw, w ∈ Ts) (hpg : ∀ {k : Nat} {e : hc_M}, hc_get hm_pg k = some e → hc_MOK e) (hco : hc_CO G l fr lo call) (hfr : fr + 1 ≤ R.frames) (hlo : 100 + lo ≤ R.locals ∧ 4 ≤ fr ∧ 200 ≤ lo) (hL : hc_LL G LS) {ret : Option FieldType} (hlk : meth.locks = false) (hr : meth.sig.returnType = ret) {ini : Bool} (hin : ini = true → meth.name = "<init>") {tb : hc_K} (hD : hc_rws (hc_D cc) 0 tb = true) (hO : hc_rws (hc_O oc ini) 0 tb = true) (tgt : Nat) :
    ∀ (fuel : Nat) (pc n c s : Nat) (lc st : List Value) (h : hc_H) (pc' n' c' s' : Nat) (lc' st' : List Value) (h' : hc_H), lc.length = nL → hc_till LS hm_pg call ret tb tgt fuel (pc, lc, st, n, h, c, s) = some (pc', lc', st', n', h', c', s') → c ≤ c' ∧ s ≤ s' ∧ lc'.length = nL ∧ pc' = tgt ∧ (c' ≤ R.cells → s' ≤ R.slots → ∀ Q : State → Prop, hc_W G p l e R s0 m args below meth cd nL Q pc' lc' st' n' h' c' s' → hc_W G p l e R s0 m args below meth cd nL Q pc lc st n h c s)
  | 0, pc, n, c, s, lc, st, h, pc', n', c', s', lc', st', h', hn, hh => by cases hh
  | fuel + 1, pc, n, c, s, lc, st, h, pc', n', c', s', lc', st', h', hn, hh => by
    have hh' : (match Nat.beq pc tgt with
      | true => some (pc, lc, st, n, h, c, s)
      | false => match hc_step1 LS hm_pg call ret tb (pc, lc, st, n, h, c, s) with
        | some (.inl S') => hc_till LS hm_pg call ret tb tgt fuel S'
        | _ => none) = some (pc', lc', st', n', h', c', s') := hh
    split at hh'
    next hb =>
      cases hh'
      exact ⟨Nat.le_refl _, Nat.le_refl _, hn, Nat.eq_of_beq_eq_true hb, fun _ _ Q k => k⟩
    · split at hh'
      next S' hS =>
        obtain ⟨pc1, lc1, st1, n1, h1, c1, s1⟩ := S'
        obtain ⟨g1, g2, g3, g4⟩ := hc_step1_ok X hT hpg hco hfr hlo hL hlk hr hin hD hO hn hS
        obtain ⟨k1, k2, k3, k5, k4⟩ := hc_till_ok X hT hpg hco hfr hlo hL hlk hr hin hD hO tgt fuel pc1 n1 c1 s1 lc1 st1 h1 pc' n' c' s' lc' st' h' (g3.trans hn) hh'
        exact ⟨Nat.le_trans g1 k1, Nat.le_trans g2 k2, k3, k5, fun q1 q2 Q k => g4 (Nat.le_trans k1 q1) (Nat.le_trans k2 q2) _ (k4 q1 q2 Q k)⟩
      · cases hh'
theorem hc_ent_len : ∀ (as : List Value) (n : Nat), hv_words as ≤ n → (hc_ent as n).length = n
  | [], n, _ => List.length_replicate
  | a :: as, n, h => by
    have hwa : hv_words (a :: as) = a.category + hv_words as := by simp [hv_words]
    rw [hwa] at h
    cases a with
    | long x =>
      have h2 : 2 + hv_words as ≤ n := h
      show (hc_ent as (n - 2)).length + 1 + 1 = n
      rw [hc_ent_len as (n - 2) (by omega)]
      omega
    | double x =>
      have h2 : 2 + hv_words as ≤ n := h
      show (hc_ent as (n - 2)).length + 1 + 1 = n
      rw [hc_ent_len as (n - 2) (by omega)]
      omega
    | int x =>
      have h2 : 1 + hv_words as ≤ n := h
      show (hc_ent as (n - 1)).length + 1 = n
      rw [hc_ent_len as (n - 1) (by omega)]
      omega
    | float x =>
      have h2 : 1 + hv_words as ≤ n := h
      show (hc_ent as (n - 1)).length + 1 = n
      rw [hc_ent_len as (n - 1) (by omega)]
      omega
    | null =>
      have h2 : 1 + hv_words as ≤ n := h
      show (hc_ent as (n - 1)).length + 1 = n
      rw [hc_ent_len as (n - 1) (by omega)]
      omega
    | ref x =>
      have h2 : 1 + hv_words as ≤ n := h
      show (hc_ent as (n - 1)).length + 1 = n
      rw [hc_ent_len as (n - 1) (by omega)]
      omega
    | retAddr x =>
      have h2 : 1 + hv_words as ≤ n := h
      show (hc_ent as (n - 1)).length + 1 = n
      rw [hc_ent_len as (n - 1) (by omega)]
      omega
/-- what is asked of the oracle: each of its answers is a contract that leaves the world as it is -/
def hc_OR (G : hv_G) (l : Launch) (orc : Nat → List Value → hc_H → Option Value) : Prop := ∀ (k : Nat) (e : hc_M) (as : List Value) (h : hc_H) (v : Value), hc_get hm_pg k = some e → orc k as h = some v → ∀ (n fr lo : Nat), 1 ≤ fr → 100 ≤ lo → hv_C G hc_gw l e.1 e.2.1 e.2.2.1 e.2.2.2.1 fr lo n (hc_f h) as (some v) n (hc_f h) 0 0
theorem hc_ev_ok (hpg : ∀ {k : Nat} {e : hc_M}, hc_get hm_pg k = some e → hc_MOK e) (hL : hc_LL G LS) {orc : Nat → List Value → hc_H → Option Value} (hor : hc_OR G l orc) (fuel : Nat) : ∀ d : Nat, hc_CO G l (d + 4) (100 * d + 200) (hc_ev LS hm_pg orc fuel d)
  | 0 => fun k e as n h r n' h' mc ms _ hc => by cases hc
  | d + 1 => fun k e0 as n h r n' h' mc ms hg hc => by
    have hc' : (match orc k as h with
      | some v => some (some v, n, h, 0, 0)
      | none => match Nat.ble (hc_cat as) e0.2.2.1 with
        | false => none
        | true => hc_run LS hm_pg (hc_ev LS hm_pg orc fuel d) e0.2.2.2.1 e0.2.2.2.2.2.2 fuel (0, hc_ent as e0.2.2.1, [], n, h, 0, 0)) = some (r, n', h', mc, ms) := hc
    split at hc'
    next v hv =>
      cases hc'
      exact hor k e0 as h v hg hv n (d + 1 + 4) (100 * (d + 1) + 200) (by omega) (by omega)
    · split at hc'
      · cases hc'
      next hw =>
        obtain ⟨o1, o2, o3, o4, o5, o6, o7, o8, o9⟩ := hpg hg
        have hw' : hv_words as ≤ e0.2.2.1 := by
          unfold hv_words
          rw [← hc_cat_eq]
          exact Nat.le_of_ble_eq_true hw
        refine hv_C.of o2 hw' ?_
        intro p e s0 m args below meth cd hX hr hlk hnm
        rw [← o6] at hX
        have hrun := hc_run_ok (R := { frames := d + 1 + 4, cells := mc, slots := ms, locals := 100 * (d + 1) + 200 }) (e := e) (below := below) (meth := meth) (fr := d + 4) (lo := 100 * d + 200) hX (fun w h => List.mem_cons_of_mem _ h) hpg (hc_ev_ok hpg hL hor fuel d) (by show d + 4 + 1 ≤ d + 1 + 4; omega) ⟨by show 100 + (100 * d + 200) ≤ 100 * (d + 1) + 200; omega, by omega, by omega⟩ hL hlk hr (ini := hc_isI0 e0.1) (fun q => hnm.trans (of_decide_eq_true q)) o7 o8 fuel 0 n 0 0 (hc_ent as e0.2.2.1) [] h r n' h' mc ms (hc_ent_len as _ hw') hc'
        have hW := hrun.2.2 (Nat.le_refl _) (Nat.le_refl _)
        unfold hc_W at hW
        refine hc_mono ?_ hW
        rintro ⟨i, v⟩ hq
        obtain ⟨g1, g2⟩ := hc_lv_mem.mp hq
        have := hc_ent_at as e0.2.2.1 i v hw' g1 g2 0
        rwa [Nat.zero_add] at this
end HCE
def hs_s0 : List (Option (Nat × Nat × List Nat)) := [some (3, 9, [2, 0, 0, 100000, 100000, 21, 27, 34, 41, 323, 0, 324, 329, 341, 344, 345, 346]), some (0, 0, [2000]), some (3, 5, [4, 5, 6, 7, 0, 0, 0, 0]), some (0, 1, [10]), some (0, 1, [10]), some (0, 1, [24]), some (3, 1, [8, 9, 10, 11, 0, 0]), some (0, 1, [408]), some (0, 1, [4]), some (0, 1, [4]), some (0, 1, [16]), some (3, 5, [13, 14, 15, 16, 0, 0, 0, 0]), some (0, 1, [10]), some (0, 1, [10]), some (0, 1, [24]), some (3, 1, [17, 18, 19, 20, 0, 0]), some (0, 1, [408]), some (0, 1, [4]), some (0, 1, [4]), some (0, 1, [16]), some (3, 4, [22, 26, 100000, 0, 0, 0, 0, 0, 0]), some (3, 6, [23, 24, 25, 0]), some (0, 1, [401]), some (1, 2, [401]), some (0, 1, [401]), some (1, 2, [10]), some (3, 2, [28, 29, 30, 31, 32, 33, 0, 0, 0, 0, 0]), some (0, 1, [10]), some (0, 1, [10]), some (0, 1, [10]), some (0, 1, [10]), some (0, 1, [10])]
def hs_s1 : List (Option (Nat × Nat × List Nat)) := [some (0, 1, [10]), some (3, 2, [35, 36, 37, 38, 39, 40, 0, 0, 0, 0, 0]), some (0, 1, [10]), some (0, 1, [10]), some (0, 1, [10]), some (0, 1, [10]), some (0, 1, [10]), some (0, 1, [10]), some (3, 3, [42, 0, 0]), some (2, 4, [43, 50, 57, 64, 71, 78, 85, 92, 99, 106, 113, 120, 127, 134, 141, 148, 155, 162, 169, 176, 183, 190, 197, 204, 211, 218, 225, 232, 239, 246, 253, 260, 267, 274, 281, 288, 295, 302, 309, 316]), some (3, 2, [44, 45, 46, 47, 48, 49, 0, 0, 0, 0, 0]), some (0, 1, [10]), some (0, 1, [10]), some (0, 1, [10]), some (0, 1, [10]), some (0, 1, [10]), some (0, 1, [10]), some (3, 2, [51, 52, 53, 54, 55, 56, 0, 0, 0, 0, 0]), some (0, 1, [10]), some (0, 1, [10]), some (0, 1, [10]), some (0, 1, [10]), some (0, 1, [10]), some (0, 1, [10]), some (3, 2, [58, 59, 60, 61, 62, 63, 0, 0, 0, 0, 0]), some (0, 1, [10]), some (0, 1, [10]), some (0, 1, [10]), some (0, 1, [10]), some (0, 1, [10]), some (0, 1, [10]), some (3, 2, [65, 66, 67, 68, 69, 70, 0, 0, 0, 0, 0])]
def hs_s2 : List (Option (Nat × Nat × List Nat)) := [some (0, 1, [10]), some (0, 1, [10]), some (0, 1, [10]), some (0, 1, [10]), some (0, 1, [10]), some (0, 1, [10]), some (3, 2, [72, 73, 74, 75, 76, 77, 0, 0, 0, 0, 0]), some (0, 1, [10]), some (0, 1, [10]), some (0, 1, [10]), some (0, 1, [10]), some (0, 1, [10]), some (0, 1, [10]), some (3, 2, [79, 80, 81, 82, 83, 84, 0, 0, 0, 0, 0]), some (0, 1, [10]), some (0, 1, [10]), some (0, 1, [10]), some (0, 1, [10]), some (0, 1, [10]), some (0, 1, [10]), some (3, 2, [86, 87, 88, 89, 90, 91, 0, 0, 0, 0, 0]), some (0, 1, [10]), some (0, 1, [10]), some (0, 1, [10]), some (0, 1, [10]), some (0, 1, [10]), some (0, 1, [10]), some (3, 2, [93, 94, 95, 96, 97, 98, 0, 0, 0, 0, 0]), some (0, 1, [10]), some (0, 1, [10]), some (0, 1, [10]), some (0, 1, [10])]
def hs_s3 : List (Option (Nat × Nat × List Nat)) := [some (0, 1, [10]), some (0, 1, [10]), some (3, 2, [100, 101, 102, 103, 104, 105, 0, 0, 0, 0, 0]), some (0, 1, [10]), some (0, 1, [10]), some (0, 1, [10]), some (0, 1, [10]), some (0, 1, [10]), some (0, 1, [10]), some (3, 2, [107, 108, 109, 110, 111, 112, 0, 0, 0, 0, 0]), some (0, 1, [10]), some (0, 1, [10]), some (0, 1, [10]), some (0, 1, [10]), some (0, 1, [10]), some (0, 1, [10]), some (3, 2, [114, 115, 116, 117, 118, 119, 0, 0, 0, 0, 0]), some (0, 1, [10]), some (0, 1, [10]), some (0, 1, [10]), some (0, 1, [10]), some (0, 1, [10]), some (0, 1, [10]), some (3, 2, [121, 122, 123, 124, 125, 126, 0, 0, 0, 0, 0]), some (0, 1, [10]), some (0, 1, [10]), some (0, 1, [10]), some (0, 1, [10]), some (0, 1, [10]), some (0, 1, [10]), some (3, 2, [128, 129, 130, 131, 132, 133, 0, 0, 0, 0, 0]), some (0, 1, [10])]
def hs_s4 : List (Option (Nat × Nat × List Nat)) := [some (0, 1, [10]), some (0, 1, [10]), some (0, 1, [10]), some (0, 1, [10]), some (0, 1, [10]), some (3, 2, [135, 136, 137, 138, 139, 140, 0, 0, 0, 0, 0]), some (0, 1, [10]), some (0, 1, [10]), some (0, 1, [10]), some (0, 1, [10]), some (0, 1, [10]), some (0, 1, [10]), some (3, 2, [142, 143, 144, 145, 146, 147, 0, 0, 0, 0, 0]), some (0, 1, [10]), some (0, 1, [10]), some (0, 1, [10]), some (0, 1, [10]), some (0, 1, [10]), some (0, 1, [10]), some (3, 2, [149, 150, 151, 152, 153, 154, 0, 0, 0, 0, 0]), some (0, 1, [10]), some (0, 1, [10]), some (0, 1, [10]), some (0, 1, [10]), some (0, 1, [10]), some (0, 1, [10]), some (3, 2, [156, 157, 158, 159, 160, 161, 0, 0, 0, 0, 0]), some (0, 1, [10]), some (0, 1, [10]), some (0, 1, [10]), some (0, 1, [10]), some (0, 1, [10])]
def hs_s5 : List (Option (Nat × Nat × List Nat)) := [some (0, 1, [10]), some (3, 2, [163, 164, 165, 166, 167, 168, 0, 0, 0, 0, 0]), some (0, 1, [10]), some (0, 1, [10]), some (0, 1, [10]), some (0, 1, [10]), some (0, 1, [10]), some (0, 1, [10]), some (3, 2, [170, 171, 172, 173, 174, 175, 0, 0, 0, 0, 0]), some (0, 1, [10]), some (0, 1, [10]), some (0, 1, [10]), some (0, 1, [10]), some (0, 1, [10]), some (0, 1, [10]), some (3, 2, [177, 178, 179, 180, 181, 182, 0, 0, 0, 0, 0]), some (0, 1, [10]), some (0, 1, [10]), some (0, 1, [10]), some (0, 1, [10]), some (0, 1, [10]), some (0, 1, [10]), some (3, 2, [184, 185, 186, 187, 188, 189, 0, 0, 0, 0, 0]), some (0, 1, [10]), some (0, 1, [10]), some (0, 1, [10]), some (0, 1, [10]), some (0, 1, [10]), some (0, 1, [10]), some (3, 2, [191, 192, 193, 194, 195, 196, 0, 0, 0, 0, 0]), some (0, 1, [10]), some (0, 1, [10])]
def hs_s6 : List (Option (Nat × Nat × List Nat)) := [some (0, 1, [10]), some (0, 1, [10]), some (0, 1, [10]), some (0, 1, [10]), some (3, 2, [198, 199, 200, 201, 202, 203, 0, 0, 0, 0, 0]), some (0, 1, [10]), some (0, 1, [10]), some (0, 1, [10]), some (0, 1, [10]), some (0, 1, [10]), some (0, 1, [10]), some (3, 2, [205, 206, 207, 208, 209, 210, 0, 0, 0, 0, 0]), some (0, 1, [10]), some (0, 1, [10]), some (0, 1, [10]), some (0, 1, [10]), some (0, 1, [10]), some (0, 1, [10]), some (3, 2, [212, 213, 214, 215, 216, 217, 0, 0, 0, 0, 0]), some (0, 1, [10]), some (0, 1, [10]), some (0, 1, [10]), some (0, 1, [10]), some (0, 1, [10]), some (0, 1, [10]), some (3, 2, [219, 220, 221, 222, 223, 224, 0, 0, 0, 0, 0]), some (0, 1, [10]), some (0, 1, [10]), some (0, 1, [10]), some (0, 1, [10]), some (0, 1, [10]), some (0, 1, [10])]
def hs_s7 : List (Option (Nat × Nat × List Nat)) := [some (3, 2, [226, 227, 228, 229, 230, 231, 0, 0, 0, 0, 0]), some (0, 1, [10]), some (0, 1, [10]), some (0, 1, [10]), some (0, 1, [10]), some (0, 1, [10]), some (0, 1, [10]), some (3, 2, [233, 234, 235, 236, 237, 238, 0, 0, 0, 0, 0]), some (0, 1, [10]), some (0, 1, [10]), some (0, 1, [10]), some (0, 1, [10]), some (0, 1, [10]), some (0, 1, [10]), some (3, 2, [240, 241, 242, 243, 244, 245, 0, 0, 0, 0, 0]), some (0, 1, [10]), some (0, 1, [10]), some (0, 1, [10]), some (0, 1, [10]), some (0, 1, [10]), some (0, 1, [10]), some (3, 2, [247, 248, 249, 250, 251, 252, 0, 0, 0, 0, 0]), some (0, 1, [10]), some (0, 1, [10]), some (0, 1, [10]), some (0, 1, [10]), some (0, 1, [10]), some (0, 1, [10]), some (3, 2, [254, 255, 256, 257, 258, 259, 0, 0, 0, 0, 0]), some (0, 1, [10]), some (0, 1, [10]), some (0, 1, [10])]
def hs_s8 : List (Option (Nat × Nat × List Nat)) := [some (0, 1, [10]), some (0, 1, [10]), some (0, 1, [10]), some (3, 2, [261, 262, 263, 264, 265, 266, 0, 0, 0, 0, 0]), some (0, 1, [10]), some (0, 1, [10]), some (0, 1, [10]), some (0, 1, [10]), some (0, 1, [10]), some (0, 1, [10]), some (3, 2, [268, 269, 270, 271, 272, 273, 0, 0, 0, 0, 0]), some (0, 1, [10]), some (0, 1, [10]), some (0, 1, [10]), some (0, 1, [10]), some (0, 1, [10]), some (0, 1, [10]), some (3, 2, [275, 276, 277, 278, 279, 280, 0, 0, 0, 0, 0]), some (0, 1, [10]), some (0, 1, [10]), some (0, 1, [10]), some (0, 1, [10]), some (0, 1, [10]), some (0, 1, [10]), some (3, 2, [282, 283, 284, 285, 286, 287, 0, 0, 0, 0, 0]), some (0, 1, [10]), some (0, 1, [10]), some (0, 1, [10]), some (0, 1, [10]), some (0, 1, [10]), some (0, 1, [10]), some (3, 2, [289, 290, 291, 292, 293, 294, 0, 0, 0, 0, 0])]
def hs_s9 : List (Option (Nat × Nat × List Nat)) := [some (0, 1, [10]), some (0, 1, [10]), some (0, 1, [10]), some (0, 1, [10]), some (0, 1, [10]), some (0, 1, [10]), some (3, 2, [296, 297, 298, 299, 300, 301, 0, 0, 0, 0, 0]), some (0, 1, [10]), some (0, 1, [10]), some (0, 1, [10]), some (0, 1, [10]), some (0, 1, [10]), some (0, 1, [10]), some (3, 2, [303, 304, 305, 306, 307, 308, 0, 0, 0, 0, 0]), some (0, 1, [10]), some (0, 1, [10]), some (0, 1, [10]), some (0, 1, [10]), some (0, 1, [10]), some (0, 1, [10]), some (3, 2, [310, 311, 312, 313, 314, 315, 0, 0, 0, 0, 0]), some (0, 1, [10]), some (0, 1, [10]), some (0, 1, [10]), some (0, 1, [10]), some (0, 1, [10]), some (0, 1, [10]), some (3, 2, [317, 318, 319, 320, 321, 322, 0, 0, 0, 0, 0]), some (0, 1, [10]), some (0, 1, [10]), some (0, 1, [10]), some (0, 1, [10])]
def hs_s10 : List (Option (Nat × Nat × List Nat)) := [some (0, 1, [10]), some (0, 1, [10]), some (2, 4, [347, 354, 361]), some (3, 0, [325, 326, 327, 328, 0, 100000]), some (0, 1, [9]), some (0, 1, [9]), some (0, 1, [9]), some (0, 1, [9]), some (3, 8, [330, 0]), some (2, 5, [331, 332, 333, 334, 335, 336, 337, 338, 339, 340]), some (0, 1, [256]), some (0, 1, [256]), some (0, 1, [256]), some (0, 1, [256]), some (0, 1, [256]), some (0, 1, [256]), some (0, 1, [256]), some (0, 1, [256]), some (0, 1, [256]), some (0, 1, [256]), some (3, 7, [342, 343, 0]), some (0, 1, [20]), some (0, 1, [20]), some (0, 1, [256]), some (0, 1, [256]), some (0, 1, [3]), some (3, 2, [348, 349, 350, 351, 352, 353, 0, 0, 0, 0, 0]), some (0, 1, [10]), some (0, 1, [10]), some (0, 1, [10]), some (0, 1, [10]), some (0, 1, [10])]
def hs_s11 : List (Option (Nat × Nat × List Nat)) := [some (0, 1, [10]), some (3, 2, [355, 356, 357, 358, 359, 360, 0, 0, 0, 0, 0]), some (0, 1, [10]), some (0, 1, [10]), some (0, 1, [10]), some (0, 1, [10]), some (0, 1, [10]), some (0, 1, [10]), some (3, 2, [362, 363, 364, 365, 366, 367, 0, 0, 0, 0, 0]), some (0, 1, [10]), some (0, 1, [10]), some (0, 1, [10]), some (0, 1, [10]), some (0, 1, [10]), some (0, 1, [10]), some (3, 10, [0, 369, 0, 370, 0, 371, 372, 373, 374, 375, 0, 0, 0, 0, 0, 0, 0, 0, 0, 0, 0, 376, 377, 378, 379, 380, 381, 382, 383, 384, 385, 0, 386, 387, 388, 389, 390, 0, 391, 392, 393, 0, 394, 395, 0, 396, 397, 0, 0, 398, 399, 0, 400, 401, 402, 403, 404, 405, 406, 0, 407, 408, 409, 410]), some (0, 0, [2000]), some (0, 0, [2000]), some (0, 1, [403]), some (0, 1, [403]), some (0, 1, [403]), some (1, 2, [403]), some (1, 2, [20]), some (1, 2, [10]), some (0, 1, [2]), some (0, 1, [20]), some (0, 1, [20]), some (0, 1, [2]), some (0, 1, [48]), some (0, 1, [2]), some (0, 1, [2]), some (0, 1, [8])]
def hs_s12 : List (Option (Nat × Nat × List Nat)) := [some (0, 1, [8]), some (0, 3, [260]), some (0, 1, [260]), some (0, 1, [260]), some (0, 1, [260]), some (0, 1, [260]), some (0, 1, [840]), some (0, 1, [840]), some (0, 1, [64]), some (0, 1, [9]), some (0, 1, [400]), some (0, 1, [73]), some (0, 1, [73]), some (0, 1, [10]), some (0, 3, [10]), some (0, 1, [2920]), some (0, 1, [256]), some (0, 3, [256]), some (0, 1, [256]), some (0, 1, [24]), some (0, 1, [3]), some (0, 1, [10]), some (0, 1, [20]), some (0, 1, [20]), some (0, 3, [3]), some (0, 1, [219])]
def hs_sh : List (List (Option (Nat × Nat × List Nat))) := [hs_s0, hs_s1, hs_s2, hs_s3, hs_s4, hs_s5, hs_s6, hs_s7, hs_s8, hs_s9, hs_s10, hs_s11, hs_s12]
abbrev hs_n : Nat := 410
/-! THE EVALUATOR BY WORLDS: what a method does to any world of the shape that the constructors leave -/
abbrev hs_A : Type := (Nat → Nat → Int32) × (Nat → Nat → Int32) × (Nat → Nat → Int64) × (Nat → Nat → Nat)
def hs_cell (A : hs_A) (i : Nat) (sh : Nat × Nat × List Nat) : hc_C := match sh.1 with
  | 0 => .inl (sh.2.1, (List.range (sh.2.2.headD 0)).map (fun j => .int (A.2.1 i j)))
  | 1 => .inl (sh.2.1, (List.range (sh.2.2.headD 0)).map (fun j => .long (A.2.2.1 i j)))
  | 2 => .inl (sh.2.1, sh.2.2.map (fun r => .ref r))
  | _ => .inr (sh.2.1, (List.range sh.2.2.length).map (fun k => match sh.2.2.getD k 0 with
    | 0 => .int (A.1 i k)
    | c + 1 => if c + 1 = 100000 then .ref (A.2.2.2 i k) else .ref (c + 1)))
def hs_up (f : Nat → Nat → Int32) (i k : Nat) (x : Int32) : Nat → Nat → Int32 := fun a b => if a = i then (if b = k then x else f a b) else f a b
def hs_upL (f : Nat → Nat → Int64) (i k : Nat) (x : Int64) : Nat → Nat → Int64 := fun a b => if a = i then (if b = k then x else f a b) else f a b
def hs_upN (f : Nat → Nat → Nat) (i k : Nat) (x : Nat) : Nat → Nat → Nat := fun a b => if a = i then (if b = k then x else f a b) else f a b
noncomputable def hs_Rep (h : hc_H) (A : hs_A) : Prop := ∀ (i : Nat) (sh : Nat × Nat × List Nat), hc_get hs_sh i = some sh → hc_get h i = some (hs_cell A i sh)
noncomputable def hx_call (g d : Nat) : Nat → hc_M → List Value → Nat → hc_H → Option hc_R := hc_ev (0, fun _ => none) hm_pg (fun _ _ _ => none) g d
/-- from here the method ends, whatever the fuel, so it is enough; P of its answer and its heap -/
def hx (d : Nat) (ret : Option FieldType) (tb : hc_K) (pc : Nat) (l st : List Value) (h : hc_H) (P : Option Value → hc_H → Prop) : Prop :=
  ∃ (F : Nat) (r : Option Value) (h' : hc_H), (∀ f g : Nat, F ≤ f → F ≤ g → hc_run (0, fun _ => none) hm_pg (hx_call g d) ret tb f (pc, l, st, hs_n, h, 0, 0) = some (r, hs_n, h', 0, 0)) ∧ P r h'
theorem hx_step {d : Nat} {ret : Option FieldType} {tb : hc_K} {pc : Nat} {l st : List Value} {h : hc_H} {P : Option Value → hc_H → Prop} {pc' : Nat} {l' st' : List Value} {h' : hc_H} (F1 : Nat) (hs : ∀ g, F1 ≤ g → hc_step1 (0, fun _ => none) hm_pg (hx_call g d) ret tb (pc, l, st, hs_n, h, 0, 0) = some (.inl (pc', l', st', hs_n, h', 0, 0))) (k : hx d ret tb pc' l' st' h' P) : hx d ret tb pc l st h P := by
  obtain ⟨F, r, h2, hr, hP⟩ := k
  refine ⟨F + F1 + 1, r, h2, fun f g hf hg => ?_, hP⟩
  match f, hf with
  | 0, hf => exact absurd hf (by omega)
  | f + 1, hf =>
    show (match hc_step1 (0, fun _ => none) hm_pg (hx_call g d) ret tb (pc, l, st, hs_n, h, 0, 0) with
      | none => none
      | some (.inl S') => hc_run (0, fun _ => none) hm_pg (hx_call g d) ret tb f S'
      | some (.inr r) => some (r, hs_n, h, 0, 0)) = _
    rw [hs g (by omega)]
    exact hr f g (by omega) (by omega)
theorem hx_ret {d : Nat} {ret : Option FieldType} {tb : hc_K} {pc : Nat} {l st : List Value} {h : hc_H} {P : Option Value → hc_H → Prop} {r : Option Value} (hs : ∀ g, hc_step1 (0, fun _ => none) hm_pg (hx_call g d) ret tb (pc, l, st, hs_n, h, 0, 0) = some (.inr r)) (hP : P r h) : hx d ret tb pc l st h P := by
  refine ⟨1, r, h, fun f g hf hg => ?_, hP⟩
  match f, hf with
  | 0, hf => exact absurd hf (by omega)
  | f + 1, hf =>
    show (match hc_step1 (0, fun _ => none) hm_pg (hx_call g d) ret tb (pc, l, st, hs_n, h, 0, 0) with
      | none => none
      | some (.inl S') => hc_run (0, fun _ => none) hm_pg (hx_call g d) ret tb f S'
      | some (.inr r) => some (r, hs_n, h, 0, 0)) = _
    rw [hs g]
def hxa (d : Nat) (ret : Option FieldType) (tb : hc_K) (pc : Nat) (l st : List Value) (A : hs_A) (P : Option Value → hs_A → Prop) : Prop := ∀ h, hs_Rep h A → hx d ret tb pc l st h (fun r h' => ∃ A', hs_Rep h' A' ∧ P r A')
def hxC (d k : Nat) (e : hc_M) (as : List Value) (A : hs_A) (P : Option Value → hs_A → Prop) : Prop := ∀ h, hs_Rep h A → ∃ (F : Nat) (r : Option Value) (h' : hc_H), (∀ g, F ≤ g → hx_call g d k e as hs_n h = some (r, hs_n, h', 0, 0)) ∧ ∃ A', hs_Rep h' A' ∧ P r A'
theorem hxC.of {d k : Nat} {e : hc_M} {as : List Value} {A : hs_A} {P : Option Value → hs_A → Prop} (hw : Nat.ble (hc_cat as) e.2.2.1 = true) (h : hxa d e.2.2.2.1 e.2.2.2.2.2.2 0 (hc_ent as e.2.2.1) [] A P) : hxC (d + 1) k e as A P := by
  intro hh hR
  obtain ⟨F, r, h', hr, hP⟩ := h hh hR
  refine ⟨F, r, h', fun g hg => ?_, hP⟩
  show (match Nat.ble (hc_cat as) e.2.2.1 with
    | false => none
    | true => hc_run (0, fun _ => none) hm_pg (hc_ev (0, fun _ => none) hm_pg (fun _ _ _ => none) g d) e.2.2.2.1 e.2.2.2.2.2.2 g (0, hc_ent as e.2.2.1, [], hs_n, hh, 0, 0)) = _
  rw [hw]
  exact hr g g hg hg
section HXA
variable {d : Nat} {ret : Option FieldType} {tb : hc_K} {pc len r1 r2 : Nat} {l st : List Value} {A : hs_A} {P : Option Value → hs_A → Prop}
theorem hxa_iadd {x y : Int32} (hI : hc_get tb pc = some (.iadd, len, r1, r2))  (k : hxa d ret tb (pc + 1) l (.int (x + y) :: st) A P) : hxa d ret tb pc l (.int y :: .int x :: st) A P := fun h hR => hx_step 0 (fun g _ => by unfold hc_step1; simp only [hI]; rfl) (k h hR)
theorem hxa_isub {x y : Int32} (hI : hc_get tb pc = some (.isub, len, r1, r2))  (k : hxa d ret tb (pc + 1) l (.int (x - y) :: st) A P) : hxa d ret tb pc l (.int y :: .int x :: st) A P := fun h hR => hx_step 0 (fun g _ => by unfold hc_step1; simp only [hI]; rfl) (k h hR)
theorem hxa_imul {x y : Int32} (hI : hc_get tb pc = some (.imul, len, r1, r2))  (k : hxa d ret tb (pc + 1) l (.int (x * y) :: st) A P) : hxa d ret tb pc l (.int y :: .int x :: st) A P := fun h hR => hx_step 0 (fun g _ => by unfold hc_step1; simp only [hI]; rfl) (k h hR)
theorem hxa_iand {x y : Int32} (hI : hc_get tb pc = some (.iand, len, r1, r2))  (k : hxa d ret tb (pc + 1) l (.int (x &&& y) :: st) A P) : hxa d ret tb pc l (.int y :: .int x :: st) A P := fun h hR => hx_step 0 (fun g _ => by unfold hc_step1; simp only [hI]; rfl) (k h hR)
theorem hxa_ior {x y : Int32} (hI : hc_get tb pc = some (.ior, len, r1, r2))  (k : hxa d ret tb (pc + 1) l (.int (x ||| y) :: st) A P) : hxa d ret tb pc l (.int y :: .int x :: st) A P := fun h hR => hx_step 0 (fun g _ => by unfold hc_step1; simp only [hI]; rfl) (k h hR)
theorem hxa_ixor {x y : Int32} (hI : hc_get tb pc = some (.ixor, len, r1, r2))  (k : hxa d ret tb (pc + 1) l (.int (x ^^^ y) :: st) A P) : hxa d ret tb pc l (.int y :: .int x :: st) A P := fun h hR => hx_step 0 (fun g _ => by unfold hc_step1; simp only [hI]; rfl) (k h hR)
theorem hxa_ishl {x y : Int32} (hI : hc_get tb pc = some (.ishl, len, r1, r2))  (k : hxa d ret tb (pc + 1) l (.int (x <<< (y &&& 31)) :: st) A P) : hxa d ret tb pc l (.int y :: .int x :: st) A P := fun h hR => hx_step 0 (fun g _ => by unfold hc_step1; simp only [hI]; rfl) (k h hR)
theorem hxa_ishr {x y : Int32} (hI : hc_get tb pc = some (.ishr, len, r1, r2))  (k : hxa d ret tb (pc + 1) l (.int (x >>> (y &&& 31)) :: st) A P) : hxa d ret tb pc l (.int y :: .int x :: st) A P := fun h hR => hx_step 0 (fun g _ => by unfold hc_step1; simp only [hI]; rfl) (k h hR)
theorem hxa_iushr {x y : Int32} (hI : hc_get tb pc = some (.iushr, len, r1, r2))  (k : hxa d ret tb (pc + 1) l (.int ((x.toUInt32 >>> (y.toUInt32 &&& Int32.toUInt32 31)).toInt32) :: st) A P) : hxa d ret tb pc l (.int y :: .int x :: st) A P := fun h hR => hx_step 0 (fun g _ => by unfold hc_step1; simp only [hI]; rfl) (k h hR)
theorem hxa_iconst {z : Int} {v : Int32} (hI : hc_get tb pc = some (.iconst z, len, r1, r2)) (hv : Int32.ofNat r1 = v) (k : hxa d ret tb (pc + 1) l (.int v :: st) A P) : hxa d ret tb pc l st A P := fun h hR => hx_step 0 (fun g _ => by unfold hc_step1; simp only [hI]; subst hv; rfl) (k h hR)
theorem hxa_bipush {z : Int} {v : Int32} (hI : hc_get tb pc = some (.bipush z, len, r1, r2)) (hv : Int32.ofNat r1 = v) (k : hxa d ret tb (pc + 2) l (.int v :: st) A P) : hxa d ret tb pc l st A P := fun h hR => hx_step 0 (fun g _ => by unfold hc_step1; simp only [hI]; subst hv; rfl) (k h hR)
theorem hxa_sipush {z : Int} {v : Int32} (hI : hc_get tb pc = some (.sipush z, len, r1, r2)) (hv : Int32.ofNat r1 = v) (k : hxa d ret tb (pc + 3) l (.int v :: st) A P) : hxa d ret tb pc l st A P := fun h hR => hx_step 0 (fun g _ => by unfold hc_step1; simp only [hI]; subst hv; rfl) (k h hR)
theorem hxa_iload_n {z : Fin 4} {x : Int32} (hI : hc_get tb pc = some (.iload_n z, len, r1, r2)) (hl : hc_nth l r1 = some (.int x)) (k : hxa d ret tb (pc + 1) l (.int x :: st) A P) : hxa d ret tb pc l st A P := fun h hR => hx_step 0 (fun g _ => by unfold hc_step1; simp only [hI]; show hi_iload_n r1 pc l st hs_n h 0 0 = _; unfold hi_iload_n; rw [hl]; rfl) (k h hR)
theorem hxa_iload {z : Nat} {x : Int32} (hI : hc_get tb pc = some (.iload z, len, r1, r2)) (hl : hc_nth l r1 = some (.int x)) (k : hxa d ret tb (pc + 2) l (.int x :: st) A P) : hxa d ret tb pc l st A P := fun h hR => hx_step 0 (fun g _ => by unfold hc_step1; simp only [hI]; show hi_iload r1 pc l st hs_n h 0 0 = _; unfold hi_iload; rw [hl]; rfl) (k h hR)
theorem hxa_aload_n {z : Fin 4} {x : Nat} (hI : hc_get tb pc = some (.aload_n z, len, r1, r2)) (hl : hc_nth l r1 = some (.ref x)) (k : hxa d ret tb (pc + 1) l (.ref x :: st) A P) : hxa d ret tb pc l st A P := fun h hR => hx_step 0 (fun g _ => by unfold hc_step1; simp only [hI]; show hi_aload_n r1 pc l st hs_n h 0 0 = _; unfold hi_aload_n; rw [hl]; rfl) (k h hR)
theorem hxa_aload {z : Nat} {x : Nat} (hI : hc_get tb pc = some (.aload z, len, r1, r2)) (hl : hc_nth l r1 = some (.ref x)) (k : hxa d ret tb (pc + 2) l (.ref x :: st) A P) : hxa d ret tb pc l st A P := fun h hR => hx_step 0 (fun g _ => by unfold hc_step1; simp only [hI]; show hi_aload r1 pc l st hs_n h 0 0 = _; unfold hi_aload; rw [hl]; rfl) (k h hR)
end HXA
/-! the world's reads and writes -/
def hs_val (A : hs_A) (i k c : Nat) : Value := match c with
  | 0 => .int (A.1 i k)
  | c + 1 => if c + 1 = 100000 then .ref (A.2.2.2 i k) else .ref (c + 1)
def hs_fs (A : hs_A) (i : Nat) (ks : List Nat) : List Value := (List.range ks.length).map (fun k => hs_val A i k (ks.getD k 0))
def hs_ar (A : hs_A) (i len : Nat) : List Value := (List.range len).map (fun j => .int (A.2.1 i j))
def hs_al (A : hs_A) (i len : Nat) : List Value := (List.range len).map (fun j => .long (A.2.2.1 i j))
theorem hs_cell3 (A : hs_A) (i ci : Nat) (ks : List Nat) : hs_cell A i (3, ci, ks) = .inr (ci, hs_fs A i ks) := by
  unfold hs_cell hs_fs hs_val
  rfl
theorem hs_cell0 (A : hs_A) (i t len : Nat) : hs_cell A i (0, t, [len]) = .inl (t, hs_ar A i len) := rfl
theorem hs_cell1 (A : hs_A) (i t len : Nat) : hs_cell A i (1, t, [len]) = .inl (t, hs_al A i len) := rfl
theorem hs_cell2 (A : hs_A) (i t : Nat) (rs : List Nat) : hs_cell A i (2, t, rs) = .inl (t, rs.map (fun r => .ref r)) := rfl
theorem hs_fs_at {A : hs_A} {i k c : Nat} {ks : List Nat} (hk : hc_nth ks k = some c) : hc_nth (hs_fs A i ks) k = some (hs_val A i k c) := by
  rw [hc_nth_eq] at hk ⊢
  have hlt := (List.getElem?_eq_some_iff.mp hk).1
  unfold hs_fs
  rw [List.getElem?_map, List.getElem?_range hlt, Option.map_some, List.getD_eq_getElem?_getD, hk]
  rfl
theorem hs_ar_at {A : hs_A} {i j len : Nat} (hj : j < len) : hc_nth (hs_ar A i len) j = some (.int (A.2.1 i j)) := by
  rw [hc_nth_eq]
  unfold hs_ar
  rw [List.getElem?_map, List.getElem?_range hj]
  rfl
theorem hs_al_at {A : hs_A} {i j len : Nat} (hj : j < len) : hc_nth (hs_al A i len) j = some (.long (A.2.2.1 i j)) := by
  rw [hc_nth_eq]
  unfold hs_al
  rw [List.getElem?_map, List.getElem?_range hj]
  rfl
theorem hc_put_some {h : hc_H} {i : Nat} {x e : hc_C} (hg : hc_get h i = some x) : ∃ h', hc_put h i e = some h' := by
  unfold hc_get at hg
  unfold hc_put
  split at hg
  · cases hg
  next ch h1 =>
    split at hg
    · cases hg
    next y h2 =>
      rw [h1]
      dsimp only
      rw [h2]
      exact ⟨_, rfl⟩
theorem hs_fs_set {A : hs_A} {i k : Nat} {x : Int32} {ks : List Nat} (hk : hc_nth ks k = some 0) : hc_set (hs_fs A i ks) k (.int x) = hs_fs (hs_up A.1 i k x, A.2) i ks := by
  rw [hc_nth_eq] at hk
  rw [hc_set_eq]
  have hlt := (List.getElem?_eq_some_iff.mp hk).1
  apply List.ext_getElem?
  intro j
  rw [List.getElem?_set]
  unfold hs_fs
  rw [List.length_map, List.length_range]
  by_cases e : k = j
  · subst e
    rw [if_pos rfl, if_pos hlt, List.getElem?_map, List.getElem?_range hlt, Option.map_some, List.getD_eq_getElem?_getD, hk]
    show _ = some (hs_val _ i k 0)
    unfold hs_val hs_up
    simp
  · rw [if_neg e, List.getElem?_map, List.getElem?_map]
    by_cases hj : j < ks.length
    · rw [List.getElem?_range hj, Option.map_some, Option.map_some]
      unfold hs_val hs_up
      have e' : ¬ j = k := fun q => e q.symm
      simp [e']
    · rw [List.getElem?_eq_none (by rw [List.length_range]; omega)]
      rfl
theorem hs_ar_set {A : hs_A} {i j len : Nat} {x : Int32} (hj : j < len) : hc_set (hs_ar A i len) j (.int x) = hs_ar (A.1, hs_up A.2.1 i j x, A.2.2) i len := by
  rw [hc_set_eq]
  apply List.ext_getElem?
  intro q
  rw [List.getElem?_set]
  unfold hs_ar
  rw [List.length_map, List.length_range, List.getElem?_map, List.getElem?_map]
  by_cases e : j = q
  · subst e
    rw [if_pos rfl, if_pos hj, List.getElem?_range hj]
    simp [hs_up]
  · rw [if_neg e]
    by_cases hq : q < len
    · rw [List.getElem?_range hq]
      have e' : ¬ q = j := fun z => e z.symm
      simp [hs_up, e']
    · rw [List.getElem?_eq_none (by rw [List.length_range]; omega)]
      rfl
theorem hs_cell_ne (A B : hs_A) {i : Nat} (sh : Nat × Nat × List Nat) (h1 : ∀ k, A.1 i k = B.1 i k) (h2 : ∀ k, A.2.1 i k = B.2.1 i k) (h3 : ∀ k, A.2.2.1 i k = B.2.2.1 i k) (h4 : ∀ k, A.2.2.2 i k = B.2.2.2 i k) : hs_cell A i sh = hs_cell B i sh := by
  unfold hs_cell
  simp only [h1, h2, h3, h4]
theorem hs_putI {h : hc_H} {A : hs_A} {i ci k : Nat} {x : Int32} {ks : List Nat} (hR : hs_Rep h A) (hs : hc_get hs_sh i = some (3, ci, ks)) (hk : hc_nth ks k = some 0) : ∃ h', hc_put h i (.inr (ci, hc_set (hs_fs A i ks) k (.int x))) = some h' ∧ hs_Rep h' (hs_up A.1 i k x, A.2) := by
  obtain ⟨h', hp⟩ := hc_put_some (e := .inr (ci, hc_set (hs_fs A i ks) k (.int x))) (hR i _ hs)
  refine ⟨h', hp, fun j sh hj => ?_⟩
  rw [hc_get_put hp j]
  by_cases e : j = i
  · subst e
    rw [if_pos rfl]
    cases hj.symm.trans hs
    rw [hs_cell3, hs_fs_set hk]
  · rw [if_neg e, hR j sh hj]
    exact congrArg some (hs_cell_ne _ _ sh (fun k => by simp [hs_up, e]) (fun _ => rfl) (fun _ => rfl) (fun _ => rfl))
theorem hs_setI {h : hc_H} {A : hs_A} {i t j len : Nat} {x : Int32} (hR : hs_Rep h A) (hs : hc_get hs_sh i = some (0, t, [len])) (hj : j < len) : ∃ h', hc_put h i (.inl (t, hc_set (hs_ar A i len) j (.int x))) = some h' ∧ hs_Rep h' (A.1, hs_up A.2.1 i j x, A.2.2) := by
  obtain ⟨h', hp⟩ := hc_put_some (e := .inl (t, hc_set (hs_ar A i len) j (.int x))) (hR i _ hs)
  refine ⟨h', hp, fun q sh hq => ?_⟩
  rw [hc_get_put hp q]
  by_cases e : q = i
  · subst e
    rw [if_pos rfl]
    cases hq.symm.trans hs
    rw [hs_cell0, hs_ar_set hj]
  · rw [if_neg e, hR q sh hq]
    exact congrArg some (hs_cell_ne _ _ sh (fun _ => rfl) (fun k => by simp [hs_up, e]) (fun _ => rfl) (fun _ => rfl))
section HXB
variable {d : Nat} {ret : Option FieldType} {tb : hc_K} {pc len r1 r2 : Nat} {l st : List Value} {A : hs_A} {P : Option Value → hs_A → Prop}
theorem hc_objS (ci : Nat) (fs : List Value) : hc_obj ci (some (.inr (ci, fs))) = some fs := by
  unfold hc_obj
  dsimp only
  rw [Nat.beq_refl]
theorem hc_arrS (t : Nat) (a : List Value) : hc_arr t (some (.inl (t, a))) = some a := by
  unfold hc_arr
  dsimp only
  rw [Nat.beq_refl]
theorem hxa_get {z i c : Nat} {ks : List Nat} {v : Value} (hI : hc_get tb pc = some (.getfield z, len, r1, r2)) (hs : hc_get hs_sh i = some (3, r1, ks)) (hk : hc_nth ks r2 = some c) (hv : hs_val A i r2 c = v) (k : hxa d ret tb (pc + 3) l (v :: st) A P) : hxa d ret tb pc l (.ref (i + 1) :: st) A P := fun h hR => hx_step 0 (fun g _ => by
  unfold hc_step1
  simp only [hI]
  show hi_getfield r1 r2 pc l (.ref (i + 1) :: st) hs_n h 0 0 = _
  unfold hi_getfield
  dsimp only
  rw [hR i _ hs, hs_cell3, hc_objS]
  dsimp only
  rw [hs_fs_at hk, hv]
  rfl) (k h hR)
theorem hxa_putI {z i : Nat} {ks : List Nat} {x : Int32} (hI : hc_get tb pc = some (.putfield z, len, r1, r2)) (hs : hc_get hs_sh i = some (3, r1, ks)) (hk : hc_nth ks r2 = some 0) (hf : hc_fit (hc_tyX r1 r2) (.int x) = true) (k : hxa d ret tb (pc + 3) l st (hs_up A.1 i r2 x, A.2) P) : hxa d ret tb pc l (.int x :: .ref (i + 1) :: st) A P := fun h hR => by
  obtain ⟨h', hp, hR'⟩ := hs_putI (x := x) hR hs hk
  refine hx_step 0 (fun g _ => ?_) (k h' hR')
  unfold hc_step1
  simp only [hI]
  show hi_putfield r1 r2 pc l (.int x :: .ref (i + 1) :: st) hs_n h 0 0 = _
  unfold hi_putfield
  dsimp only
  rw [hR i _ hs, hs_cell3, hc_objS]
  dsimp only
  rw [hf]
  dsimp only
  rw [hs_fs_at hk]
  dsimp only
  rw [hp]
  rfl
theorem hs_el {a : List Value} {j : Int32} {v : Value} (h0 : ¬ j < 0) (hv : hc_nth a j.toNatClampNeg = some v) : hc_el a j = some v := by
  unfold hc_el
  rw [decide_eq_false h0]
  exact hv
theorem hs_ald {t i n c s : Nat} {j : Int32} {a : List Value} {v : Value} {h : hc_H} (hg : hc_get h i = some (.inl (t, a))) (hv : hc_el a j = some v) : hc_ald t pc l (.int j :: .ref (i + 1) :: st) n h c s = hc_nx (pc + 1) l (v :: st) n h c s := by
  unfold hc_ald
  dsimp only
  rw [hg, hc_arrS]
  dsimp only
  rw [hv]
theorem hxa_iald {i m : Nat} {j : Int32} (hI : hc_get tb pc = some (.iaload, len, r1, r2)) (hs : hc_get hs_sh i = some (0, 1, [m])) (h0 : ¬ j < 0) (h1 : j.toNatClampNeg < m) (k : hxa d ret tb (pc + 1) l (.int (A.2.1 i j.toNatClampNeg) :: st) A P) : hxa d ret tb pc l (.int j :: .ref (i + 1) :: st) A P := fun h hR => hx_step 0 (fun g _ => by
  unfold hc_step1
  simp only [hI]
  show hi_iaload (0, fun _ => none) pc l (.int j :: .ref (i + 1) :: st) hs_n h 0 0 = _
  unfold hi_iaload
  exact hs_ald ((hR i _ hs).trans (congrArg some (hs_cell0 A i 1 m))) (hs_el h0 (hs_ar_at h1))) (k h hR)
theorem hs_ast {t i n c s : Nat} {j : Int32} {a : List Value} {v w : Value} {h h' : hc_H} (hg : hc_get h i = some (.inl (t, a))) (hv : hc_el a j = some w) (hp : hc_put h i (.inl (t, hc_set a j.toNatClampNeg v)) = some h') : hc_ast t i j v pc l st n h c s = hc_nx (pc + 1) l st n h' c s := by
  unfold hc_ast
  rw [hg, hc_arrS]
  dsimp only
  rw [hv]
  dsimp only
  rw [hp]
theorem hxa_iast {i m : Nat} {j x : Int32} (hI : hc_get tb pc = some (.iastore, len, r1, r2)) (hs : hc_get hs_sh i = some (0, 1, [m])) (h0 : ¬ j < 0) (h1 : j.toNatClampNeg < m) (k : hxa d ret tb (pc + 1) l st (A.1, hs_up A.2.1 i j.toNatClampNeg x, A.2.2) P) : hxa d ret tb pc l (.int x :: .int j :: .ref (i + 1) :: st) A P := fun h hR => by
  obtain ⟨h', hp, hR'⟩ := hs_setI (x := x) hR hs h1
  refine hx_step 0 (fun g _ => ?_) (k h' hR')
  unfold hc_step1
  simp only [hI]
  show hi_iastore pc l (.int x :: .int j :: .ref (i + 1) :: st) hs_n h 0 0 = _
  unfold hi_iastore
  exact hs_ast ((hR i _ hs).trans (congrArg some (hs_cell0 A i 1 m))) (hs_el h0 (hs_ar_at h1)) hp
theorem hxa_if {op : Jvm.ClassFile.Cond} {off : Int} {x : Int32} (hI : hc_get tb pc = some (.ifCond op off, len, r1, r2)) (kt : hc_cmp op x 0 = true → hxa d ret tb r1 l st A P) (kf : hc_cmp op x 0 = false → hxa d ret tb (pc + 3) l st A P) : hxa d ret tb pc l (.int x :: st) A P := fun h hR => by
  by_cases hb : hc_cmp op x 0 = true
  · refine hx_step 0 (fun g _ => ?_) (kt hb h hR)
    unfold hc_step1
    simp only [hI]
    show hi_ifCond (0, fun _ => none) op r1 pc l (.int x :: st) hs_n h 0 0 = _
    unfold hi_ifCond
    dsimp only
    rw [hb]
    rfl
  · have hb' : hc_cmp op x 0 = false := by cases hq : hc_cmp op x 0 <;> simp_all
    refine hx_step 0 (fun g _ => ?_) (kf hb' h hR)
    unfold hc_step1
    simp only [hI]
    show hi_ifCond (0, fun _ => none) op r1 pc l (.int x :: st) hs_n h 0 0 = _
    unfold hi_ifCond
    dsimp only
    rw [hb']
    rfl
theorem hxa_icmp {op : Jvm.ClassFile.Cond} {off : Int} {x y : Int32} (hI : hc_get tb pc = some (.if_icmp op off, len, r1, r2)) (kt : hc_cmp op x y = true → hxa d ret tb r1 l st A P) (kf : hc_cmp op x y = false → hxa d ret tb (pc + 3) l st A P) : hxa d ret tb pc l (.int y :: .int x :: st) A P := fun h hR => by
  by_cases hb : hc_cmp op x y = true
  · refine hx_step 0 (fun g _ => ?_) (kt hb h hR)
    unfold hc_step1
    simp only [hI]
    show hi_if_icmp op r1 pc l (.int y :: .int x :: st) hs_n h 0 0 = _
    unfold hi_if_icmp
    dsimp only
    rw [hb]
    rfl
  · have hb' : hc_cmp op x y = false := by cases hq : hc_cmp op x y <;> simp_all
    refine hx_step 0 (fun g _ => ?_) (kf hb' h hR)
    unfold hc_step1
    simp only [hI]
    show hi_if_icmp op r1 pc l (.int y :: .int x :: st) hs_n h 0 0 = _
    unfold hi_if_icmp
    dsimp only
    rw [hb']
    rfl
theorem hxa_goto {off : Int} (hI : hc_get tb pc = some (.goto off, len, r1, r2)) (k : hxa d ret tb r1 l st A P) : hxa d ret tb pc l st A P := fun h hR => hx_step 0 (fun g _ => by
  unfold hc_step1
  simp only [hI]
  rfl) (k h hR)
theorem hxa_s1 {ii : Instr} {x : Int32} {l' : List Value} (hI : hc_get tb pc = some (ii, len, r1, r2)) (hii : (∃ z, ii = .istore_n z ∧ len = 1) ∨ (∃ z, ii = .istore z ∧ len = 2)) (hl : hc_s1 l r1 (.int x) = some l') (k : hxa d ret tb (pc + len) l' st A P) : hxa d ret tb pc l (.int x :: st) A P := fun h hR => hx_step 0 (fun g _ => by
  unfold hc_step1
  simp only [hI]
  rcases hii with ⟨z, rfl, rfl⟩ | ⟨z, rfl, rfl⟩
  · show hi_istore_n r1 pc l (.int x :: st) hs_n h 0 0 = _
    unfold hi_istore_n
    dsimp only
    rw [hl]
    rfl
  · show hi_istore r1 pc l (.int x :: st) hs_n h 0 0 = _
    unfold hi_istore
    dsimp only
    rw [hl]
    rfl) (k h hR)
theorem hxa_iinc {z : Nat} {w : Int} {x : Int32} {l' : List Value} (hI : hc_get tb pc = some (.iinc z w, len, r1, r2)) (hx : hc_nth l r1 = some (.int x)) (hl : hc_s1 l r1 (.int (x + Int32.ofNat r2)) = some l') (k : hxa d ret tb (pc + 3) l' st A P) : hxa d ret tb pc l st A P := fun h hR => hx_step 0 (fun g _ => by
  unfold hc_step1
  simp only [hI]
  show hi_iinc r1 r2 pc l st hs_n h 0 0 = _
  unfold hi_iinc
  rw [hx]
  dsimp only
  rw [hl]
  rfl) (k h hR)
theorem hxa_ireturn {v : Value} (hI : hc_get tb pc = some (.ireturn, len, r1, r2)) (hv : hc_rtv ret v = true) (hP : P (some v) A) : hxa d ret tb pc l [v] A P := fun h hR => hx_ret (fun g => by
  unfold hc_step1
  simp only [hI]
  show hi_ireturn ret pc l [v] hs_n h 0 0 = _
  unfold hi_ireturn
  dsimp only
  rw [hv]) ⟨A, hR, hP⟩
theorem hxa_return (hI : hc_get tb pc = some (.return_, len, r1, r2)) (hv : ret = none) (hP : P none A) : hxa d ret tb pc l [] A P := fun h hR => hx_ret (fun g => by
  subst hv
  unfold hc_step1
  simp only [hI]
  rfl) ⟨A, hR, hP⟩
theorem hxa_call0 {z i ci : Nat} {ks : List Nat} {e : hc_M} {as rest : List Value} {P1 : Option Value → hs_A → Prop} (hI : hc_get tb pc = some (.invokevirtual z, len, r1, 0)) (he : hc_get hm_pg r1 = some e) (hpop : hc_pop e.2.2.2.2.2.1 st [] = some (as, .ref (i + 1) :: rest)) (hs : hc_get hs_sh i = some (3, ci, ks)) (hoc : e.2.2.2.2.1 = ci) (hcat : Nat.ble (hc_cat rest) 8 = true) (hC : hxC d r1 e (.ref (i + 1) :: as) A P1) (k : ∀ (r : Option Value) (A' : hs_A), P1 r A' → hxa d ret tb (pc + 3) l (hc_app r rest) A' P) : hxa d ret tb pc l st A P := fun h hR => by
  obtain ⟨F, r, h', hcall, A', hR', hP1⟩ := hC h hR
  refine hx_step F (fun g hg => ?_) (k r A' hP1 h' hR')
  unfold hc_step1
  simp only [hI]
  show hc_inv0 hm_pg (hx_call g d) r1 pc l st hs_n h 0 0 = _
  unfold hc_inv0
  rw [he]
  dsimp only
  rw [hpop]
  dsimp only
  rw [hR i _ hs, hs_cell3, hoc, hc_objS]
  dsimp only
  rw [hcat]
  dsimp only
  rw [hcall g hg]
  rfl
theorem hxa_call2 {z : Nat} {e : hc_M} {as rest : List Value} {P1 : Option Value → hs_A → Prop} (hI : hc_get tb pc = some (.invokestatic z, len, r1, r2)) (h8 : r2 ≠ 8) (he : hc_get hm_pg r1 = some e) (hpop : hc_pop e.2.2.2.2.2.1 st [] = some (as, rest)) (hcat : Nat.ble (hc_cat rest) 8 = true) (hC : hxC d r1 e as A P1) (k : ∀ (r : Option Value) (A' : hs_A), P1 r A' → hxa d ret tb (pc + 3) l (hc_app r rest) A' P) : hxa d ret tb pc l st A P := fun h hR => by
  obtain ⟨F, r, h', hcall, A', hR', hP1⟩ := hC h hR
  refine hx_step F (fun g hg => ?_) (k r A' hP1 h' hR')
  unfold hc_step1
  simp only [hI]
  show hi_invokestatic hm_pg (hx_call g d) r1 r2 pc l st hs_n h 0 0 = _
  unfold hi_invokestatic
  split
  · exact absurd rfl h8
  · unfold hc_inv2
    rw [he]
    dsimp only
    rw [hpop]
    dsimp only
    rw [hcat]
    dsimp only
    rw [hcall g hg]
    rfl
theorem hxa_ldcS {z : Nat} {k : Nat} (hI : hc_get tb pc = some (.ldc z, len, r1, 1)) (hk : r1 = k) (K : hxa d ret tb (pc + 2) l (.retAddr k :: st) A P) : hxa d ret tb pc l st A P := fun h hR => hx_step 0 (fun g _ => by
  subst hk
  unfold hc_step1
  simp only [hI]
  rfl) (K h hR)
theorem hxa_strLen {z : Nat} {k : Nat} (hI : hc_get tb pc = some (.invokevirtual z, len, 0, 7)) (hcat : Nat.ble (hc_cat st) 8 = true) (K : hxa d ret tb (pc + 3) l (.int (Int32.ofNat (hc_txt k).length) :: st) A P) : hxa d ret tb pc l (.retAddr k :: st) A P := fun h hR => hx_step 0 (fun g _ => by
  unfold hc_step1
  simp only [hI]
  show hi_str 0 pc l (.retAddr k :: st) hs_n h 0 0 = _
  unfold hi_str
  dsimp only
  rw [hcat]
  rfl) (K h hR)
theorem hxa_strChar {z b : Nat} {k : Nat} {i : Int32} (hI : hc_get tb pc = some (.invokevirtual z, len, 1, 7)) (hcat : Nat.ble (hc_cat st) 8 = true) (h0 : ¬ i < 0) (hb : (hc_txt k)[i.toNatClampNeg]? = some b) (K : hxa d ret tb (pc + 3) l (.int (Int32.ofNat b) :: st) A P) : hxa d ret tb pc l (.int i :: .retAddr k :: st) A P := fun h hR => hx_step 0 (fun g _ => by
  unfold hc_step1
  simp only [hI]
  show hi_str 1 pc l (.int i :: .retAddr k :: st) hs_n h 0 0 = _
  unfold hi_str
  dsimp only
  rw [hcat, decide_eq_false h0, hc_nth_eq, hb]
  rfl) (K h hR)
theorem hxa_strIdx {z : Nat} {k : Nat} {x : Int32} (hI : hc_get tb pc = some (.invokevirtual z, len, 2, 7)) (hcat : Nat.ble (hc_cat st) 8 = true) (K : hxa d ret tb (pc + 3) l (.int (hc_ixf x (hc_txt k) 0) :: st) A P) : hxa d ret tb pc l (.int x :: .retAddr k :: st) A P := fun h hR => hx_step 0 (fun g _ => by
  unfold hc_step1
  simp only [hI]
  show hi_str 2 pc l (.int x :: .retAddr k :: st) hs_n h 0 0 = _
  unfold hi_str
  dsimp only
  rw [hcat]
  rfl) (K h hR)
end HXB
section HXD
variable {d : Nat} {ret : Option FieldType} {tb : hc_K} {pc len r1 r2 : Nat} {l st : List Value} {A : hs_A} {P : Option Value → hs_A → Prop}
theorem hxa_ladd {x y : Int64} (hI : hc_get tb pc = some (.ladd, len, r1, r2))  (k : hxa d ret tb (pc + 1) l (.long (x + y) :: st) A P) : hxa d ret tb pc l (.long y :: .long x :: st) A P := fun h hR => hx_step 0 (fun g _ => by
  unfold hc_step1
  simp only [hI]
  rfl) (k h hR)
theorem hxa_lsub {x y : Int64} (hI : hc_get tb pc = some (.lsub, len, r1, r2))  (k : hxa d ret tb (pc + 1) l (.long (x - y) :: st) A P) : hxa d ret tb pc l (.long y :: .long x :: st) A P := fun h hR => hx_step 0 (fun g _ => by
  unfold hc_step1
  simp only [hI]
  rfl) (k h hR)
theorem hxa_lmul {x y : Int64} (hI : hc_get tb pc = some (.lmul, len, r1, r2))  (k : hxa d ret tb (pc + 1) l (.long (x * y) :: st) A P) : hxa d ret tb pc l (.long y :: .long x :: st) A P := fun h hR => hx_step 0 (fun g _ => by
  unfold hc_step1
  simp only [hI]
  rfl) (k h hR)
theorem hxa_lor {x y : Int64} (hI : hc_get tb pc = some (.lor, len, r1, r2))  (k : hxa d ret tb (pc + 1) l (.long (x ||| y) :: st) A P) : hxa d ret tb pc l (.long y :: .long x :: st) A P := fun h hR => hx_step 0 (fun g _ => by
  unfold hc_step1
  simp only [hI]
  rfl) (k h hR)
theorem hxa_lshl {x : Int64} {y : Int32} (hI : hc_get tb pc = some (.lshl, len, r1, r2))  (k : hxa d ret tb (pc + 1) l (.long (x <<< (y.toInt64 &&& 63)) :: st) A P) : hxa d ret tb pc l (.int y :: .long x :: st) A P := fun h hR => hx_step 0 (fun g _ => by
  unfold hc_step1
  simp only [hI]
  rfl) (k h hR)
theorem hxa_lcmp {x y : Int64} (hI : hc_get tb pc = some (.lcmp, len, r1, r2))  (k : hxa d ret tb (pc + 1) l (.int (lg_cmp x y) :: st) A P) : hxa d ret tb pc l (.long y :: .long x :: st) A P := fun h hR => hx_step 0 (fun g _ => by
  unfold hc_step1
  simp only [hI]
  rfl) (k h hR)
theorem hxa_i2l {x : Int32} (hI : hc_get tb pc = some (.i2l, len, r1, r2))  (k : hxa d ret tb (pc + 1) l (.long x.toInt64 :: st) A P) : hxa d ret tb pc l (.int x :: st) A P := fun h hR => hx_step 0 (fun g _ => by
  unfold hc_step1
  simp only [hI]
  rfl) (k h hR)
theorem hxa_l2i {x : Int64} (hI : hc_get tb pc = some (.l2i, len, r1, r2))  (k : hxa d ret tb (pc + 1) l (.int x.toInt32 :: st) A P) : hxa d ret tb pc l (.long x :: st) A P := fun h hR => hx_step 0 (fun g _ => by
  unfold hc_step1
  simp only [hI]
  rfl) (k h hR)
theorem hxa_i2b {x : Int32} (hI : hc_get tb pc = some (.i2b, len, r1, r2))  (k : hxa d ret tb (pc + 1) l (.int x.toInt8.toInt32 :: st) A P) : hxa d ret tb pc l (.int x :: st) A P := fun h hR => hx_step 0 (fun g _ => by
  unfold hc_step1
  simp only [hI]
  rfl) (k h hR)
theorem hxa_i2c {x : Int32} (hI : hc_get tb pc = some (.i2c, len, r1, r2))  (k : hxa d ret tb (pc + 1) l (.int (x.toUInt32 % 65536).toInt32 :: st) A P) : hxa d ret tb pc l (.int x :: st) A P := fun h hR => hx_step 0 (fun g _ => by
  unfold hc_step1
  simp only [hI]
  rfl) (k h hR)
theorem hxa_idiv {x y : Int32} (hI : hc_get tb pc = some (.idiv, len, r1, r2)) (hy : ¬ y = 0) (k : hxa d ret tb (pc + 1) l (.int (x / y) :: st) A P) : hxa d ret tb pc l (.int y :: .int x :: st) A P := fun h hR => hx_step 0 (fun g _ => by
  unfold hc_step1
  simp only [hI]
  show hi_idiv pc l (.int y :: .int x :: st) hs_n h 0 0 = _
  unfold hi_idiv
  dsimp only
  rw [decide_eq_false hy]
  rfl) (k h hR)
theorem hxa_irem {x y : Int32} (hI : hc_get tb pc = some (.irem, len, r1, r2)) (hy : ¬ y = 0) (k : hxa d ret tb (pc + 1) l (.int (x - x / y * y) :: st) A P) : hxa d ret tb pc l (.int y :: .int x :: st) A P := fun h hR => hx_step 0 (fun g _ => by
  unfold hc_step1
  simp only [hI]
  show hi_irem pc l (.int y :: .int x :: st) hs_n h 0 0 = _
  unfold hi_irem
  dsimp only
  rw [decide_eq_false hy]
  rfl) (k h hR)
theorem hxa_dupI {x : Int32} (hI : hc_get tb pc = some (.dup, len, r1, r2))  (k : hxa d ret tb (pc + 1) l (.int x :: .int x :: st) A P) : hxa d ret tb pc l (.int x :: st) A P := fun h hR => hx_step 0 (fun g _ => by
  unfold hc_step1
  simp only [hI]
  rfl) (k h hR)
theorem hxa_dupR {x : Nat} (hI : hc_get tb pc = some (.dup, len, r1, r2))  (k : hxa d ret tb (pc + 1) l (.ref x :: .ref x :: st) A P) : hxa d ret tb pc l (.ref x :: st) A P := fun h hR => hx_step 0 (fun g _ => by
  unfold hc_step1
  simp only [hI]
  rfl) (k h hR)
theorem hxa_popI {x : Int32} (hI : hc_get tb pc = some (.pop, len, r1, r2))  (k : hxa d ret tb (pc + 1) l st A P) : hxa d ret tb pc l (.int x :: st) A P := fun h hR => hx_step 0 (fun g _ => by
  unfold hc_step1
  simp only [hI]
  rfl) (k h hR)
theorem hxa_popR {x : Nat} (hI : hc_get tb pc = some (.pop, len, r1, r2))  (k : hxa d ret tb (pc + 1) l st A P) : hxa d ret tb pc l (.ref x :: st) A P := fun h hR => hx_step 0 (fun g _ => by
  unfold hc_step1
  simp only [hI]
  rfl) (k h hR)
theorem hxa_dup2IR {x : Int32} {y : Nat} (hI : hc_get tb pc = some (.dup2, len, r1, r2))  (k : hxa d ret tb (pc + 1) l (.int x :: .ref y :: .int x :: .ref y :: st) A P) : hxa d ret tb pc l (.int x :: .ref y :: st) A P := fun h hR => hx_step 0 (fun g _ => by
  unfold hc_step1
  simp only [hI]
  rfl) (k h hR)
theorem hxa_lconst {z : Fin 2} {v : Int64} (hI : hc_get tb pc = some (.lconst z, len, r1, r2)) (hv : Int64.ofNat r1 = v) (k : hxa d ret tb (pc + 1) l (.long v :: st) A P) : hxa d ret tb pc l st A P := fun h hR => hx_step 0 (fun g _ => by
  unfold hc_step1
  simp only [hI]
  subst hv
  rfl) (k h hR)
theorem hxa_ldc {z : Nat} {v : Int32} (hI : hc_get tb pc = some (.ldc z, len, r1, 0)) (hv : Int32.ofNat r1 = v) (k : hxa d ret tb (pc + 2) l (.int v :: st) A P) : hxa d ret tb pc l st A P := fun h hR => hx_step 0 (fun g _ => by
  unfold hc_step1
  simp only [hI]
  subst hv
  rfl) (k h hR)
theorem hxa_ldc_w {z : Nat} {v : Int32} (hI : hc_get tb pc = some (.ldc_w z, len, r1, r2)) (hv : Int32.ofNat r1 = v) (k : hxa d ret tb (pc + 3) l (.int v :: st) A P) : hxa d ret tb pc l st A P := fun h hR => hx_step 0 (fun g _ => by
  unfold hc_step1
  simp only [hI]
  subst hv
  rfl) (k h hR)
theorem hxa_ldc2_w {z : Nat} {v : Int64} (hI : hc_get tb pc = some (.ldc2_w z, len, r1, r2)) (hv : Int64.ofNat r1 = v) (k : hxa d ret tb (pc + 3) l (.long v :: st) A P) : hxa d ret tb pc l st A P := fun h hR => hx_step 0 (fun g _ => by
  unfold hc_step1
  simp only [hI]
  subst hv
  rfl) (k h hR)
theorem hxa_lload_n {z : Fin 4} {x : Int64} (hI : hc_get tb pc = some (.lload_n z, len, r1, r2)) (hl : hc_nth l r1 = some (.long x)) (k : hxa d ret tb (pc + 1) l (.long x :: st) A P) : hxa d ret tb pc l st A P := fun h hR => hx_step 0 (fun g _ => by
  unfold hc_step1
  simp only [hI]
  show hi_lload_n r1 pc l st hs_n h 0 0 = _
  unfold hi_lload_n
  rw [hl]
  rfl) (k h hR)
theorem hxa_lload {z : Nat} {x : Int64} (hI : hc_get tb pc = some (.lload z, len, r1, r2)) (hl : hc_nth l r1 = some (.long x)) (k : hxa d ret tb (pc + 2) l (.long x :: st) A P) : hxa d ret tb pc l st A P := fun h hR => hx_step 0 (fun g _ => by
  unfold hc_step1
  simp only [hI]
  show hi_lload r1 pc l st hs_n h 0 0 = _
  unfold hi_lload
  rw [hl]
  rfl) (k h hR)
theorem hxa_lstore_n {z : Fin 4} {x : Int64} {l' : List Value} (hI : hc_get tb pc = some (.lstore_n z, len, r1, r2)) (hl : hc_s2 l r1 (.long x) = some l') (k : hxa d ret tb (pc + 1) l' st A P) : hxa d ret tb pc l (.long x :: st) A P := fun h hR => hx_step 0 (fun g _ => by
  unfold hc_step1
  simp only [hI]
  show hi_lstore_n r1 pc l (.long x :: st) hs_n h 0 0 = _
  unfold hi_lstore_n
  dsimp only
  rw [hl]
  rfl) (k h hR)
theorem hxa_lstore {z : Nat} {x : Int64} {l' : List Value} (hI : hc_get tb pc = some (.lstore z, len, r1, r2)) (hl : hc_s2 l r1 (.long x) = some l') (k : hxa d ret tb (pc + 2) l' st A P) : hxa d ret tb pc l (.long x :: st) A P := fun h hR => hx_step 0 (fun g _ => by
  unfold hc_step1
  simp only [hI]
  show hi_lstore r1 pc l (.long x :: st) hs_n h 0 0 = _
  unfold hi_lstore
  dsimp only
  rw [hl]
  rfl) (k h hR)
theorem hxa_astore_n {z : Fin 4} {x : Nat} {l' : List Value} (hI : hc_get tb pc = some (.astore_n z, len, r1, r2)) (hl : hc_s1 l r1 (.ref x) = some l') (k : hxa d ret tb (pc + 1) l' st A P) : hxa d ret tb pc l (.ref x :: st) A P := fun h hR => hx_step 0 (fun g _ => by
  unfold hc_step1
  simp only [hI]
  show hi_astore_n r1 pc l (.ref x :: st) hs_n h 0 0 = _
  unfold hi_astore_n
  dsimp only
  rw [hl]
  rfl) (k h hR)
theorem hxa_astore {z : Nat} {x : Nat} {l' : List Value} (hI : hc_get tb pc = some (.astore z, len, r1, r2)) (hl : hc_s1 l r1 (.ref x) = some l') (k : hxa d ret tb (pc + 2) l' st A P) : hxa d ret tb pc l (.ref x :: st) A P := fun h hR => hx_step 0 (fun g _ => by
  unfold hc_step1
  simp only [hI]
  show hi_astore r1 pc l (.ref x :: st) hs_n h 0 0 = _
  unfold hi_astore
  dsimp only
  rw [hl]
  rfl) (k h hR)
theorem hxa_lald {i m : Nat} {j : Int32} (hI : hc_get tb pc = some (.laload, len, r1, r2)) (hs : hc_get hs_sh i = some (1, 2, [m])) (h0 : ¬ j < 0) (h1 : j.toNatClampNeg < m) (k : hxa d ret tb (pc + 1) l (.long (A.2.2.1 i j.toNatClampNeg) :: st) A P) : hxa d ret tb pc l (.int j :: .ref (i + 1) :: st) A P := fun h hR => hx_step 0 (fun g _ => by
  unfold hc_step1
  simp only [hI]
  show hi_laload pc l (.int j :: .ref (i + 1) :: st) hs_n h 0 0 = _
  unfold hi_laload
  exact hs_ald ((hR i _ hs).trans (congrArg some (hs_cell1 A i 2 m))) (hs_el h0 (hs_al_at h1))) (k h hR)
theorem hc_arr_ne {t t' : Nat} {a : List Value} (h : Nat.beq t' t = false) : hc_arr t (some (.inl (t', a))) = none := by
  unfold hc_arr
  dsimp only
  rw [h]
theorem hxa_bald {i m : Nat} {j : Int32} (hI : hc_get tb pc = some (.baload, len, r1, r2)) (hs : hc_get hs_sh i = some (0, 0, [m])) (h0 : ¬ j < 0) (h1 : j.toNatClampNeg < m) (k : hxa d ret tb (pc + 1) l (.int (A.2.1 i j.toNatClampNeg) :: st) A P) : hxa d ret tb pc l (.int j :: .ref (i + 1) :: st) A P := fun h hR => hx_step 0 (fun g _ => by
  unfold hc_step1
  simp only [hI]
  show hi_baload pc l (.int j :: .ref (i + 1) :: st) hs_n h 0 0 = _
  unfold hi_baload
  rw [hs_ald ((hR i _ hs).trans (congrArg some (hs_cell0 A i 0 m))) (hs_el h0 (hs_ar_at h1))]
  rfl) (k h hR)
theorem hxa_zald {i m : Nat} {j : Int32} (hI : hc_get tb pc = some (.baload, len, r1, r2)) (hs : hc_get hs_sh i = some (0, 3, [m])) (h0 : ¬ j < 0) (h1 : j.toNatClampNeg < m) (k : hxa d ret tb (pc + 1) l (.int (A.2.1 i j.toNatClampNeg) :: st) A P) : hxa d ret tb pc l (.int j :: .ref (i + 1) :: st) A P := fun h hR => hx_step 0 (fun g _ => by
  unfold hc_step1
  simp only [hI]
  show hi_baload pc l (.int j :: .ref (i + 1) :: st) hs_n h 0 0 = _
  unfold hi_baload
  have hg : hc_get h i = some (.inl (3, hs_ar A i m)) := (hR i _ hs).trans (congrArg some (hs_cell0 A i 3 m))
  have hn : hc_ald 0 pc l (.int j :: .ref (i + 1) :: st) hs_n h 0 0 = none := by
    unfold hc_ald
    dsimp only
    rw [hg, hc_arr_ne rfl]
  rw [hn]
  exact hs_ald hg (hs_el h0 (hs_ar_at h1))) (k h hR)
theorem hxa_bast {i m : Nat} {j x : Int32} (hI : hc_get tb pc = some (.bastore, len, r1, r2)) (hs : hc_get hs_sh i = some (0, 0, [m])) (h0 : ¬ j < 0) (h1 : j.toNatClampNeg < m) (k : hxa d ret tb (pc + 1) l st (A.1, hs_up A.2.1 i j.toNatClampNeg x.toInt8.toInt32, A.2.2) P) : hxa d ret tb pc l (.int x :: .int j :: .ref (i + 1) :: st) A P := fun h hR => by
  obtain ⟨h', hp, hR'⟩ := hs_setI (x := x.toInt8.toInt32) hR hs h1
  refine hx_step 0 (fun g _ => ?_) (k h' hR')
  unfold hc_step1
  simp only [hI]
  show hi_bastore pc l (.int x :: .int j :: .ref (i + 1) :: st) hs_n h 0 0 = _
  unfold hi_bastore
  dsimp only
  have hg : hc_get h i = some (.inl (0, hs_ar A i m)) := (hR i _ hs).trans (congrArg some (hs_cell0 A i 0 m))
  rw [hg, hc_arrS]
  exact hs_ast hg (hs_el h0 (hs_ar_at h1)) hp
theorem hxa_aald {i m t : Nat} {rs : List Nat} {j : Int32} (hI : hc_get tb pc = some (.aaload, len, r1, r2)) (ht : t = 4 ∨ t = 5) (hs : hc_get hs_sh i = some (2, t, rs)) (h0 : ¬ j < 0) (h1 : rs[j.toNatClampNeg]? = some m) (k : hxa d ret tb (pc + 1) l (.ref m :: st) A P) : hxa d ret tb pc l (.int j :: .ref (i + 1) :: st) A P := fun h hR => hx_step 0 (fun g _ => by
  unfold hc_step1
  simp only [hI]
  show hi_aaload pc l (.int j :: .ref (i + 1) :: st) hs_n h 0 0 = _
  unfold hi_aaload
  have hg : hc_get h i = some (.inl (t, rs.map (fun r => .ref r))) := (hR i _ hs).trans (congrArg some (hs_cell2 A i t rs))
  have he : hc_el (rs.map (fun r => Value.ref r)) j = some (.ref m) := hs_el h0 (by rw [hc_nth_eq, List.getElem?_map, h1]; rfl)
  rcases ht with rfl | rfl
  · rw [hs_ald hg he]
    rfl
  · have hn : hc_ald 4 pc l (.int j :: .ref (i + 1) :: st) hs_n h 0 0 = none := by
      unfold hc_ald
      dsimp only
      rw [hg, hc_arr_ne rfl]
    rw [hn]
    exact hs_ald hg he) (k h hR)
theorem hxa_areturn {a : Nat} {t : FieldType} (hI : hc_get tb pc = some (.areturn, len, r1, r2)) (hv : ret = some (.array t)) (hP : P (some (.ref a)) A) : hxa d ret tb pc l [.ref a] A P := fun h hR => hx_ret (fun g => by
  subst hv
  unfold hc_step1
  simp only [hI]
  rfl) ⟨A, hR, hP⟩
theorem hxa_lreturn {x : Int64} (hI : hc_get tb pc = some (.lreturn, len, r1, r2)) (hv : ret = some .long) (hP : P (some (.long x)) A) : hxa d ret tb pc l [.long x] A P := fun h hR => hx_ret (fun g => by
  subst hv
  unfold hc_step1
  simp only [hI]
  rfl) ⟨A, hR, hP⟩
end HXD
section HXE
variable {d : Nat} {ret : Option FieldType} {tb : hc_K} {pc len r1 r2 : Nat} {l st : List Value} {A : hs_A} {P : Option Value → hs_A → Prop}
theorem hxa_tabOut {dflt lo hi : Int} {offs : Array Int} {x : Int32} (hI : hc_get tb pc = some (.tableswitch dflt lo hi offs, len, r1, r2)) (hx : x.toInt < lo ∨ hi < x.toInt) {tgt : Nat} (ht : (pc : Int) + dflt = (tgt : Int)) (k : hxa d ret tb tgt l st A P) : hxa d ret tb pc l (.int x :: st) A P := fun h hR => hx_step 0 (fun g _ => by
  unfold hc_step1
  simp only [hI]
  show hi_tableswitch (0, fun _ => none) dflt lo hi offs pc l (.int x :: st) hs_n h 0 0 = _
  unfold hi_tableswitch
  dsimp only
  have h1 : (decide (x.toInt < lo) || decide (hi < x.toInt)) = true := by simp [hx]
  rw [h1]
  dsimp only
  rw [ht, decide_eq_true (by omega : (0 : Int) ≤ (tgt : Int))]
  rfl) (k h hR)
theorem hxa_tabIn {dflt lo hi off : Int} {offs : Array Int} {x : Int32} (hI : hc_get tb pc = some (.tableswitch dflt lo hi offs, len, r1, r2)) (h1 : ¬ x.toInt < lo) (h2 : ¬ hi < x.toInt) (ho : offs.toList[(x.toInt - lo).toNat]? = some off) {tgt : Nat} (ht : (pc : Int) + off = (tgt : Int)) (k : hxa d ret tb tgt l st A P) : hxa d ret tb pc l (.int x :: st) A P := fun h hR => hx_step 0 (fun g _ => by
  unfold hc_step1
  simp only [hI]
  show hi_tableswitch (0, fun _ => none) dflt lo hi offs pc l (.int x :: st) hs_n h 0 0 = _
  unfold hi_tableswitch
  dsimp only
  have h3 : (decide (x.toInt < lo) || decide (hi < x.toInt)) = false := by simp [h1, h2]
  rw [h3]
  dsimp only
  rw [hc_nth_eq, ho]
  dsimp only
  rw [ht, decide_eq_true (by omega : (0 : Int) ≤ (tgt : Int))]
  rfl) (k h hR)
theorem hs_ar_len (A : hs_A) (i m : Nat) : (hs_ar A i m).length = m := by simp [hs_ar]
theorem hxa_alen {i m t : Nat} (hI : hc_get tb pc = some (.arraylength, len, r1, r2)) (ht : Nat.ble 6 t = false) (hs : hc_get hs_sh i = some (0, t, [m])) (k : hxa d ret tb (pc + 1) l (.int (Int32.ofNat m) :: st) A P) : hxa d ret tb pc l (.ref (i + 1) :: st) A P := fun h hR => hx_step 0 (fun g _ => by
  unfold hc_step1
  simp only [hI]
  show hi_arraylength (0, fun _ => none) pc l (.ref (i + 1) :: st) hs_n h 0 0 = _
  unfold hi_arraylength
  dsimp only
  have hg : hc_get h i = some (.inl (t, hs_ar A i m)) := (hR i _ hs).trans (congrArg some (hs_cell0 A i t m))
  rw [hg]
  dsimp only
  rw [ht]
  dsimp only
  rw [hs_ar_len]
  rfl) (k h hR)
theorem hxa_zast {i m : Nat} {j x : Int32} (hI : hc_get tb pc = some (.bastore, len, r1, r2)) (hx : x = 0 ∨ x = 1) (hs : hc_get hs_sh i = some (0, 3, [m])) (h0 : ¬ j < 0) (h1 : j.toNatClampNeg < m) (k : hxa d ret tb (pc + 1) l st (A.1, hs_up A.2.1 i j.toNatClampNeg x, A.2.2) P) : hxa d ret tb pc l (.int x :: .int j :: .ref (i + 1) :: st) A P := fun h hR => by
  obtain ⟨h', hp, hR'⟩ := hs_setI (x := x) hR hs h1
  refine hx_step 0 (fun g _ => ?_) (k h' hR')
  unfold hc_step1
  simp only [hI]
  show hi_bastore pc l (.int x :: .int j :: .ref (i + 1) :: st) hs_n h 0 0 = _
  unfold hi_bastore
  dsimp only
  have hg : hc_get h i = some (.inl (3, hs_ar A i m)) := (hR i _ hs).trans (congrArg some (hs_cell0 A i 3 m))
  rw [hg, hc_arr_ne rfl]
  dsimp only
  have hb : (decide (x = 0) || decide (x = 1)) = true := by simp [hx]
  rw [hb]
  exact hs_ast hg (hs_el h0 (hs_ar_at h1)) hp
def hs_cpy (f : Nat → Nat → Int32) (i0 i1 : Nat) : Nat → Nat → Int32 := fun a b => if a = i1 then f i0 b else f a b
theorem hxa_copy {z i0 i1 m : Nat} {w : Int32} (hI : hc_get tb pc = some (.invokestatic z, len, r1, 8)) (hs0 : hc_get hs_sh i0 = some (0, 1, [m])) (hs1 : hc_get hs_sh i1 = some (0, 1, [m])) (h0 : ¬ w < 0) (h1 : w.toNatClampNeg = m) (hcat : Nat.ble (hc_cat st) 8 = true) (k : hxa d ret tb (pc + 3) l st (A.1, hs_cpy A.2.1 i0 i1, A.2.2) P) : hxa d ret tb pc l (.int w :: .int 0 :: .ref (i1 + 1) :: .int 0 :: .ref (i0 + 1) :: st) A P := fun h hR => by
  have hg0 : hc_get h i0 = some (.inl (1, hs_ar A i0 m)) := (hR i0 _ hs0).trans (congrArg some (hs_cell0 A i0 1 m))
  have hg1 : hc_get h i1 = some (.inl (1, hs_ar A i1 m)) := (hR i1 _ hs1).trans (congrArg some (hs_cell0 A i1 1 m))
  obtain ⟨h', hp⟩ := hc_put_some (e := .inl (1, hs_ar A i0 m)) hg1
  have hR' : hs_Rep h' (A.1, hs_cpy A.2.1 i0 i1, A.2.2) := by
    intro q sh hq
    rw [hc_get_put hp q]
    by_cases e : q = i1
    · subst e
      rw [if_pos rfl]
      cases hq.symm.trans hs1
      rw [hs_cell0]
      refine congrArg (fun z => some (Sum.inl (1, z))) ?_
      unfold hs_ar hs_cpy
      simp
    · rw [if_neg e, hR q sh hq]
      exact congrArg some (hs_cell_ne _ _ sh (fun _ => rfl) (fun k => by simp [hs_cpy, e]) (fun _ => rfl) (fun _ => rfl))
  refine hx_step 0 (fun g _ => ?_) (k h' hR')
  unfold hc_step1
  simp only [hI]
  show hi_invokestatic hm_pg (hx_call g d) r1 8 pc l (.int w :: .int 0 :: .ref (i1 + 1) :: .int 0 :: .ref (i0 + 1) :: st) hs_n h 0 0 = _
  unfold hi_invokestatic
  dsimp only
  rw [hg0, hg1, hc_arrS, hc_arrS]
  dsimp only
  have hall : (hs_ar A i0 m).all hc_isI = true := by
    rw [List.all_eq_true]
    intro v hv
    unfold hs_ar at hv
    obtain ⟨j, -, rfl⟩ := List.mem_map.mp hv
    rfl
  have hc : (decide ((0 : Int32) = 0) && (decide ((0 : Int32) = 0) && (!decide (w < 0) && (Nat.beq w.toNatClampNeg (hs_ar A i0 m).length && (Nat.beq (hs_ar A i0 m).length (hs_ar A i1 m).length && ((hs_ar A i0 m).all hc_isI && Nat.ble (hc_cat st) 8)))))) = true := by
    rw [hall, hcat, hs_ar_len, hs_ar_len, h1, Nat.beq_refl, decide_eq_false h0]
    rfl
  rw [hc]
  dsimp only
  rw [hp]
  rfl
end HXE
