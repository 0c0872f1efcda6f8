/-! SOUNDNESS: what the evaluator computes, the machine does -/
section HCX
variable {G : hv_G} {p : Program} {l : Launch} {e : Env} {R : Room} {s0 : State} {m : MethodId} {args : Array Value} {below : List Frame} {meth : Method} {cd : Code} {nL : Nat} {Q : State → Prop} {Ts : List Cond} {cc : ByteArray} {oc : Nat} {LS : Nat × (Nat → Option Int32)} {call : Nat → hc_M → List Value → Nat → hc_H → Option hc_R} {fr lo : Nat}
/-- what is known of the script's ints, and the symbols made of them: j shifted by s (10000, 20000), cut to a byte (30000) -/
def hc_LL (G : hv_G) (LS : Nat × (Nat → Option Int32)) : Prop := (LS.1 = 0 ∨ LS.1 = G.1.2.2) ∧ LS.1 < 10000 ∧ (∀ (j : Nat) (x : Int32), LS.2 j = some x → (j < 100000 → G.2.1 j = x) ∧ (100000 ≤ j → j < 200000 → ¬ G.2.1 (j - 100000) = 0) ∧ (200000 ≤ j → G.2.1 (j - 200000) < 0 ∨ x < G.2.1 (j - 200000))) ∧ (∀ (j : Nat) (y : Int32), j < 100 → ¬ y < 0 → y < 32 → G.2.1 (10000 + 100 * j + y.toNatClampNeg) = ((G.2.1 j).toUInt32 >>> (y.toUInt32 &&& Int32.toUInt32 31)).toInt32 ∧ G.2.1 (20000 + 100 * j + y.toNatClampNeg) = (G.2.1 j) >>> (y &&& 31)) ∧ ∀ c : Nat, 10000 ≤ c → c < 30000 → G.2.1 (30000 + c) = (G.2.1 c).toInt8.toInt32
def hc_W (G : hv_G) (p : Program) (l : Launch) (e : Env) (R : Room) (s0 : State) (m : MethodId) (args : Array Value) (below : List Frame) (meth : Method) (cd : Code) (nL : Nat) (Q : State → Prop) (pc : Nat) (lc st : List Value) (n : Nat) (h : hc_H) (c s : Nat) : Prop := hv_W G p l e R s0 m args below meth cd nL Q n (hc_f h) c s pc (hc_lv lc) st
/-- a step that goes on: the counts grow, the locals stay as many, and from there the machine comes here -/
def hc_go (G : hv_G) (p : Program) (l : Launch) (e : Env) (R : Room) (s0 : State) (m : MethodId) (args : Array Value) (below : List Frame) (meth : Method) (cd : Code) (nL : Nat) (pc : Nat) (lc st : List Value) (n : Nat) (h : hc_H) (c s : Nat) (S : hc_S) : Prop := c ≤ S.2.2.2.2.2.1 ∧ s ≤ S.2.2.2.2.2.2 ∧ S.2.1.length = lc.length ∧ (S.2.2.2.2.2.1 ≤ R.cells → S.2.2.2.2.2.2 ≤ R.slots → ∀ Q : State → Prop, hc_W G p l e R s0 m args below meth cd nL Q S.1 S.2.1 S.2.2.1 S.2.2.2.1 S.2.2.2.2.1 S.2.2.2.2.2.1 S.2.2.2.2.2.2 → hc_W G p l e R s0 m args below meth cd nL Q pc lc st n h c s)
def hc_end (G : hv_G) (p : Program) (l : Launch) (e : Env) (R : Room) (s0 : State) (m : MethodId) (args : Array Value) (below : List Frame) (meth : Method) (cd : Code) (nL : Nat) (pc : Nat) (lc st : List Value) (n : Nat) (h : hc_H) (c s : Nat) (r : Option Value) : Prop := hc_W G p l e R s0 m args below meth cd nL (MQ below (hv_Qc G n (hc_f h) r) args s0 c s (fun q => G.1.1 ≤ q)) pc lc st n h c s
def hc_res (G : hv_G) (p : Program) (l : Launch) (e : Env) (R : Room) (s0 : State) (m : MethodId) (args : Array Value) (below : List Frame) (meth : Method) (cd : Code) (nL : Nat) (pc : Nat) (lc st : List Value) (n : Nat) (h : hc_H) (c s : Nat) (r : hc_S ⊕ Option Value) : Prop := match r with
  | .inl S => hc_go G p l e R s0 m args below meth cd nL pc lc st n h c s S
  | .inr r => hc_end G p l e R s0 m args below meth cd nL pc lc st n h c s r
theorem hc_mono {lv lv' : List (Nat × Value)} {n : Nat} {hp : hv_H} {c s pc : Nat} {st : List Value} (h : ∀ q ∈ lv', q ∈ lv) (k : hv_W G p l e R s0 m args below meth cd nL Q n hp c s pc lv' st) : hv_W G p l e R s0 m args below meth cd nL Q n hp c s pc lv st := fun H locs ls h1 h2 h3 h4 => k H locs ls h1 h2 h3 ⟨h4.1, h4.2.1, fun q hq => by
  obtain ⟨q0, hq0, rfl⟩ := List.mem_map.mp hq
  exact h4.2.2 _ (List.mem_map.mpr ⟨q0, h q0 hq0, rfl⟩)⟩
theorem hc_lvm {lc : List Value} {i : Nat} {v : Value} (h : hc_nth lc i = some v) (hv : hc_isV v = true) : (i, v) ∈ hc_lv lc := hc_lv_mem.mpr ⟨by rw [← hc_nth_eq]; exact h, hv⟩
theorem hc_fI {t : hc_H} {i : Nat} {x : hc_C} (h : hc_get t i = some x) : hc_f t i = some (hc_toE x) := by unfold hc_f; rw [h]; rfl
theorem hc_arr_ok {t : Nat} {x : Option hc_C} {a : List Value} (h : hc_arr t x = some a) : x = some (.inl (t, a)) := by
  unfold hc_arr at h
  split at h
  next b =>
    split at h
    next hb =>
      cases h
      have := Nat.eq_of_beq_eq_true hb
      rw [← this]
    · cases h
  · cases h
theorem hc_obj_ok {t : Nat} {x : Option hc_C} {a : List Value} (h : hc_obj t x = some a) : x = some (.inr (t, a)) := by
  unfold hc_obj at h
  split at h
  next b =>
    split at h
    next hb =>
      cases h
      have := Nat.eq_of_beq_eq_true hb
      rw [← this]
    · cases h
  · cases h
theorem hc_el_ok {a : List Value} {j : Int32} {v : Value} (h : hc_el a j = some v) : vp_in j a.length ∧ a.getD j.toNatClampNeg .null = v := by
  unfold hc_el at h
  split at h
  · cases h
  next hj =>
    rw [hc_nth_eq] at h
    have hlt := (List.getElem?_eq_some_iff.mp h).1
    refine ⟨?_, ?_⟩
    · rintro (q | q)
      · exact of_decide_eq_false hj q
      · omega
    · rw [List.getD_eq_getElem?_getD, h]
      rfl
theorem hc_toE_set {a : List Value} {j : Nat} {v : Value} (hj : j < a.length) : (fun i => (a.set j v).getD i .null) = hv_uv (fun i => a.getD i .null) j v := by
  funext i
  unfold hv_uv
  rw [List.getD_eq_getElem?_getD, List.getElem?_set]
  by_cases h : j = i
  · subst h
    simp [hj]
  · have h' : ¬ i = j := fun q => h q.symm
    rw [if_neg h, if_neg h']
    exact (List.getD_eq_getElem?_getD).symm
theorem hc_two_ok {v : Value} (h : hc_two2 v = false) : v.category = 1 := by cases v <;> simp_all [hc_two2, Value.category]

theorem hs_iconst (X : hv_X G p s0 m args cd Ts (hc_own oc) cc nL) (hT : ∀ w ∈ hc_gw, w ∈ Ts) {pc n c s : Nat} {lc st : List Value} {h : hc_H} {r : hc_S ⊕ Option Value} {r1 r2 len : Nat} {ini : Bool} {z : Int} (hd : decode cc pc = .ok (.iconst z, len)) (hk : hc_ok oc ini pc (.iconst z) len r1 r2 = true) (hh : hi_iconst r1 pc lc st n h c s = some r) : hc_res G p l e R s0 m args below meth cd nL pc lc st n h c s r := by
  simp only [hc_ok, Bool.and_eq_true, decide_eq_true_eq] at hk
  have hl : len = 1 := Nat.eq_of_beq_eq_true hk.1
  subst hl
  unfold hi_iconst at hh
  cases hh
  exact ⟨Nat.le_refl _, Nat.le_refl _, rfl, fun _ _ Q k => hw_iconst X hd hk.2 k⟩

theorem hs_bipush (X : hv_X G p s0 m args cd Ts (hc_own oc) cc nL) (hT : ∀ w ∈ hc_gw, w ∈ Ts) {pc n c s : Nat} {lc st : List Value} {h : hc_H} {r : hc_S ⊕ Option Value} {r1 r2 len : Nat} {ini : Bool} {z : Int} (hd : decode cc pc = .ok (.bipush z, len)) (hk : hc_ok oc ini pc (.bipush z) len r1 r2 = true) (hh : hi_bipush r1 pc lc st n h c s = some r) : hc_res G p l e R s0 m args below meth cd nL pc lc st n h c s r := by
  simp only [hc_ok, Bool.and_eq_true, decide_eq_true_eq] at hk
  have hl : len = 2 := Nat.eq_of_beq_eq_true hk.1
  subst hl
  unfold hi_bipush at hh
  cases hh
  exact ⟨Nat.le_refl _, Nat.le_refl _, rfl, fun _ _ Q k => hw_bipush X hd hk.2 k⟩

theorem hs_sipush (X : hv_X G p s0 m args cd Ts (hc_own oc) cc nL) (hT : ∀ w ∈ hc_gw, w ∈ Ts) {pc n c s : Nat} {lc st : List Value} {h : hc_H} {r : hc_S ⊕ Option Value} {r1 r2 len : Nat} {ini : Bool} {z : Int} (hd : decode cc pc = .ok (.sipush z, len)) (hk : hc_ok oc ini pc (.sipush z) len r1 r2 = true) (hh : hi_sipush r1 pc lc st n h c s = some r) : hc_res G p l e R s0 m args below meth cd nL pc lc st n h c s r := by
  simp only [hc_ok, Bool.and_eq_true, decide_eq_true_eq] at hk
  have hl : len = 3 := Nat.eq_of_beq_eq_true hk.1
  subst hl
  unfold hi_sipush at hh
  cases hh
  exact ⟨Nat.le_refl _, Nat.le_refl _, rfl, fun _ _ Q k => hw_sipush X hd hk.2 k⟩

theorem hs_lconst (X : hv_X G p s0 m args cd Ts (hc_own oc) cc nL) (hT : ∀ w ∈ hc_gw, w ∈ Ts) {pc n c s : Nat} {lc st : List Value} {h : hc_H} {r : hc_S ⊕ Option Value} {r1 r2 len : Nat} {ini : Bool} {z : Fin 2} (hd : decode cc pc = .ok (.lconst z, len)) (hk : hc_ok oc ini pc (.lconst z) len r1 r2 = true) (hh : hi_lconst r1 pc lc st n h c s = some r) : hc_res G p l e R s0 m args below meth cd nL pc lc st n h c s r := by
  simp only [hc_ok, Bool.and_eq_true, decide_eq_true_eq] at hk
  have hl : len = 1 := Nat.eq_of_beq_eq_true hk.1
  subst hl
  unfold hi_lconst at hh
  cases hh
  exact ⟨Nat.le_refl _, Nat.le_refl _, rfl, fun _ _ Q k => hw_lconst X hd hk.2 k⟩

theorem hs_ldc_w (X : hv_X G p s0 m args cd Ts (hc_own oc) cc nL) (hT : ∀ w ∈ hc_gw, w ∈ Ts) {pc n c s : Nat} {lc st : List Value} {h : hc_H} {r : hc_S ⊕ Option Value} {r1 r2 len : Nat} {ini : Bool} {z : Nat} (hd : decode cc pc = .ok (.ldc_w z, len)) (hk : hc_ok oc ini pc (.ldc_w z) len r1 r2 = true) (hh : hi_ldc_w r1 pc lc st n h c s = some r) : hc_res G p l e R s0 m args below meth cd nL pc lc st n h c s r := by
  simp only [hc_ok, Bool.and_eq_true] at hk
  have hl : len = 3 := Nat.eq_of_beq_eq_true hk.2
  subst hl
  obtain ⟨pl, hpl⟩ := hc_m4_ok hk.1
  unfold hi_ldc_w at hh
  cases hh
  exact ⟨Nat.le_refl _, Nat.le_refl _, rfl, fun _ _ Q k => hw_ldcw X hd (hT _ (hc_in (hl_CT_ok _ hpl) rfl)) k⟩

theorem hs_ldc2_w (X : hv_X G p s0 m args cd Ts (hc_own oc) cc nL) (hT : ∀ w ∈ hc_gw, w ∈ Ts) {pc n c s : Nat} {lc st : List Value} {h : hc_H} {r : hc_S ⊕ Option Value} {r1 r2 len : Nat} {ini : Bool} {z : Nat} (hd : decode cc pc = .ok (.ldc2_w z, len)) (hk : hc_ok oc ini pc (.ldc2_w z) len r1 r2 = true) (hh : hi_ldc2_w r1 pc lc st n h c s = some r) : hc_res G p l e R s0 m args below meth cd nL pc lc st n h c s r := by
  simp only [hc_ok, Bool.and_eq_true] at hk
  have hl : len = 3 := Nat.eq_of_beq_eq_true hk.2
  subst hl
  obtain ⟨pl, hpl⟩ := hc_m4_ok hk.1
  unfold hi_ldc2_w at hh
  cases hh
  exact ⟨Nat.le_refl _, Nat.le_refl _, rfl, fun _ _ Q k => hw_ldc2 X hd (hT _ (hc_in (hl_CL_ok _ hpl) rfl)) k⟩

theorem hs_ldc (X : hv_X G p s0 m args cd Ts (hc_own oc) cc nL) (hT : ∀ w ∈ hc_gw, w ∈ Ts) {pc n c s : Nat} {lc st : List Value} {h : hc_H} {r : hc_S ⊕ Option Value} {r1 r2 len : Nat} {ini : Bool} {z : Nat} (hd : decode cc pc = .ok (.ldc z, len)) (hk : hc_ok oc ini pc (.ldc z) len r1 r2 = true) (hh : hi_ldc r1 r2 pc lc st n h c s = some r) : hc_res G p l e R s0 m args below meth cd nL pc lc st n h c s r := by
  simp only [hc_ok, Bool.and_eq_true] at hk
  have hl : len = 2 := Nat.eq_of_beq_eq_true hk.1
  subst hl
  obtain ⟨-, hk⟩ := hk
  unfold hi_ldc at hh
  split at hh
  · have hk' : hc_m4 hl_CT oc z r1 = true := hk
    obtain ⟨pl, hpl⟩ := hc_m4_ok hk'
    cases hh
    exact ⟨Nat.le_refl _, Nat.le_refl _, rfl, fun _ _ Q k => hw_ldc X hd (hT _ (hc_in (hl_CT_ok _ hpl) rfl)) k⟩
  next hne =>
    have hk' : (Nat.beq oc 6 && Nat.beq z (hx_ix r1)) = true := by
      split at hk
      · exact absurd rfl hne
      · exact hk
    simp only [Bool.and_eq_true] at hk'
    have e1 := Nat.eq_of_beq_eq_true hk'.1
    have e2 := Nat.eq_of_beq_eq_true hk'.2
    subst e1 e2
    cases hh
    exact ⟨Nat.le_refl _, Nat.le_refl _, rfl, fun _ _ Q k => hw_ldcT X hd k⟩

theorem hs_iload_n (X : hv_X G p s0 m args cd Ts (hc_own oc) cc nL) (hT : ∀ w ∈ hc_gw, w ∈ Ts) {pc n c s : Nat} {lc st : List Value} {h : hc_H} {r : hc_S ⊕ Option Value} {r1 r2 len : Nat} {ini : Bool} {z : Fin 4} (hd : decode cc pc = .ok (.iload_n z, len)) (hk : hc_ok oc ini pc (.iload_n z) len r1 r2 = true) (hh : hi_iload_n r1 pc lc st n h c s = some r) : hc_res G p l e R s0 m args below meth cd nL pc lc st n h c s r := by
  simp only [hc_ok, Bool.and_eq_true, decide_eq_true_eq] at hk
  have hl : len = 1 := Nat.eq_of_beq_eq_true hk.1
  subst hl
  unfold hi_iload_n at hh
  split at hh
  next x hx =>
    cases hh
    exact ⟨Nat.le_refl _, Nat.le_refl _, rfl, fun _ _ Q k => hw_iload_n X hd (Nat.eq_of_beq_eq_true hk.2) (hc_lvm hx rfl) k⟩
  next x hx =>
    cases hh
    exact ⟨Nat.le_refl _, Nat.le_refl _, rfl, fun _ _ Q k => hw_iload_nS X hd (Nat.eq_of_beq_eq_true hk.2) (hc_lvm hx rfl) k⟩
  · cases hh

theorem hs_iload (X : hv_X G p s0 m args cd Ts (hc_own oc) cc nL) (hT : ∀ w ∈ hc_gw, w ∈ Ts) {pc n c s : Nat} {lc st : List Value} {h : hc_H} {r : hc_S ⊕ Option Value} {r1 r2 len : Nat} {ini : Bool} {z : Nat} (hd : decode cc pc = .ok (.iload z, len)) (hk : hc_ok oc ini pc (.iload z) len r1 r2 = true) (hh : hi_iload r1 pc lc st n h c s = some r) : hc_res G p l e R s0 m args below meth cd nL pc lc st n h c s r := by
  simp only [hc_ok, Bool.and_eq_true, decide_eq_true_eq] at hk
  have hl : len = 2 := Nat.eq_of_beq_eq_true hk.1
  subst hl
  have hz := Nat.eq_of_beq_eq_true hk.2
  subst hz
  unfold hi_iload at hh
  split at hh
  next x hx =>
    cases hh
    exact ⟨Nat.le_refl _, Nat.le_refl _, rfl, fun _ _ Q k => hw_iload X hd (hc_lvm hx rfl) k⟩
  next x hx =>
    cases hh
    exact ⟨Nat.le_refl _, Nat.le_refl _, rfl, fun _ _ Q k => hw_iloadS X hd (hc_lvm hx rfl) k⟩
  · cases hh

theorem hs_lload_n (X : hv_X G p s0 m args cd Ts (hc_own oc) cc nL) (hT : ∀ w ∈ hc_gw, w ∈ Ts) {pc n c s : Nat} {lc st : List Value} {h : hc_H} {r : hc_S ⊕ Option Value} {r1 r2 len : Nat} {ini : Bool} {z : Fin 4} (hd : decode cc pc = .ok (.lload_n z, len)) (hk : hc_ok oc ini pc (.lload_n z) len r1 r2 = true) (hh : hi_lload_n r1 pc lc st n h c s = some r) : hc_res G p l e R s0 m args below meth cd nL pc lc st n h c s r := by
  simp only [hc_ok, Bool.and_eq_true, decide_eq_true_eq] at hk
  have hl : len = 1 := Nat.eq_of_beq_eq_true hk.1
  subst hl
  unfold hi_lload_n at hh
  split at hh
  next x hx =>
    cases hh
    exact ⟨Nat.le_refl _, Nat.le_refl _, rfl, fun _ _ Q k => hw_lload_n X hd (Nat.eq_of_beq_eq_true hk.2) (hc_lvm hx rfl) k⟩
  · cases hh

theorem hs_lload (X : hv_X G p s0 m args cd Ts (hc_own oc) cc nL) (hT : ∀ w ∈ hc_gw, w ∈ Ts) {pc n c s : Nat} {lc st : List Value} {h : hc_H} {r : hc_S ⊕ Option Value} {r1 r2 len : Nat} {ini : Bool} {z : Nat} (hd : decode cc pc = .ok (.lload z, len)) (hk : hc_ok oc ini pc (.lload z) len r1 r2 = true) (hh : hi_lload r1 pc lc st n h c s = some r) : hc_res G p l e R s0 m args below meth cd nL pc lc st n h c s r := by
  simp only [hc_ok, Bool.and_eq_true, decide_eq_true_eq] at hk
  have hl : len = 2 := Nat.eq_of_beq_eq_true hk.1
  subst hl
  have hz := Nat.eq_of_beq_eq_true hk.2
  subst hz
  unfold hi_lload at hh
  split at hh
  next x hx =>
    cases hh
    exact ⟨Nat.le_refl _, Nat.le_refl _, rfl, fun _ _ Q k => hw_lload X hd (hc_lvm hx rfl) k⟩
  · cases hh

theorem hs_aload_n (X : hv_X G p s0 m args cd Ts (hc_own oc) cc nL) (hT : ∀ w ∈ hc_gw, w ∈ Ts) {pc n c s : Nat} {lc st : List Value} {h : hc_H} {r : hc_S ⊕ Option Value} {r1 r2 len : Nat} {ini : Bool} {z : Fin 4} (hd : decode cc pc = .ok (.aload_n z, len)) (hk : hc_ok oc ini pc (.aload_n z) len r1 r2 = true) (hh : hi_aload_n r1 pc lc st n h c s = some r) : hc_res G p l e R s0 m args below meth cd nL pc lc st n h c s r := by
  simp only [hc_ok, Bool.and_eq_true, decide_eq_true_eq] at hk
  have hl : len = 1 := Nat.eq_of_beq_eq_true hk.1
  subst hl
  unfold hi_aload_n at hh
  split at hh
  next x hx =>
    cases hh
    exact ⟨Nat.le_refl _, Nat.le_refl _, rfl, fun _ _ Q k => hw_aload_n X hd (Nat.eq_of_beq_eq_true hk.2) (hc_lvm hx rfl) k⟩
  · cases hh

theorem hs_aload (X : hv_X G p s0 m args cd Ts (hc_own oc) cc nL) (hT : ∀ w ∈ hc_gw, w ∈ Ts) {pc n c s : Nat} {lc st : List Value} {h : hc_H} {r : hc_S ⊕ Option Value} {r1 r2 len : Nat} {ini : Bool} {z : Nat} (hd : decode cc pc = .ok (.aload z, len)) (hk : hc_ok oc ini pc (.aload z) len r1 r2 = true) (hh : hi_aload r1 pc lc st n h c s = some r) : hc_res G p l e R s0 m args below meth cd nL pc lc st n h c s r := by
  simp only [hc_ok, Bool.and_eq_true, decide_eq_true_eq] at hk
  have hl : len = 2 := Nat.eq_of_beq_eq_true hk.1
  subst hl
  have hz := Nat.eq_of_beq_eq_true hk.2
  subst hz
  unfold hi_aload at hh
  split at hh
  next x hx =>
    cases hh
    exact ⟨Nat.le_refl _, Nat.le_refl _, rfl, fun _ _ Q k => hw_aload X hd (hc_lvm hx rfl) k⟩
  · cases hh

theorem hs_istore_n (X : hv_X G p s0 m args cd Ts (hc_own oc) cc nL) (hT : ∀ w ∈ hc_gw, w ∈ Ts) {pc n c s : Nat} {lc st : List Value} {h : hc_H} {r : hc_S ⊕ Option Value} {r1 r2 len : Nat} {ini : Bool} {z : Fin 4} (hn : lc.length = nL) (hd : decode cc pc = .ok (.istore_n z, len)) (hk : hc_ok oc ini pc (.istore_n z) len r1 r2 = true) (hh : hi_istore_n r1 pc lc st n h c s = some r) : hc_res G p l e R s0 m args below meth cd nL pc lc st n h c s r := by
  simp only [hc_ok, Bool.and_eq_true, decide_eq_true_eq] at hk
  have hl : len = 1 := Nat.eq_of_beq_eq_true hk.1
  subst hl
  unfold hi_istore_n at hh
  split at hh
  next x st =>
    split at hh
    next l' hl' =>
      cases hh
      obtain ⟨g1, g2, -⟩ := hc_s1_ok hl'
      exact ⟨Nat.le_refl _, Nat.le_refl _, by subst g2; simp, fun _ _ Q k => hw_istore_n X hd (Nat.eq_of_beq_eq_true hk.2) (by rw [← hn]; exact g1) (hc_mono (hc_lv_s1 hl') k)⟩
    · cases hh
  next x st =>
    split at hh
    next l' hl' =>
      cases hh
      obtain ⟨g1, g2, -⟩ := hc_s1_ok hl'
      exact ⟨Nat.le_refl _, Nat.le_refl _, by subst g2; simp, fun _ _ Q k => hw_istore_nS X hd (Nat.eq_of_beq_eq_true hk.2) (by rw [← hn]; exact g1) (hc_mono (hc_lv_s1 hl') k)⟩
    · cases hh
  · cases hh

theorem hs_istore (X : hv_X G p s0 m args cd Ts (hc_own oc) cc nL) (hT : ∀ w ∈ hc_gw, w ∈ Ts) {pc n c s : Nat} {lc st : List Value} {h : hc_H} {r : hc_S ⊕ Option Value} {r1 r2 len : Nat} {ini : Bool} {z : Nat} (hn : lc.length = nL) (hd : decode cc pc = .ok (.istore z, len)) (hk : hc_ok oc ini pc (.istore z) len r1 r2 = true) (hh : hi_istore r1 pc lc st n h c s = some r) : hc_res G p l e R s0 m args below meth cd nL pc lc st n h c s r := by
  simp only [hc_ok, Bool.and_eq_true, decide_eq_true_eq] at hk
  have hl : len = 2 := Nat.eq_of_beq_eq_true hk.1
  subst hl
  have hz := Nat.eq_of_beq_eq_true hk.2
  subst hz
  unfold hi_istore at hh
  split at hh
  next x st =>
    split at hh
    next l' hl' =>
      cases hh
      obtain ⟨g1, g2, -⟩ := hc_s1_ok hl'
      exact ⟨Nat.le_refl _, Nat.le_refl _, by subst g2; simp, fun _ _ Q k => hw_istore X hd (by rw [← hn]; exact g1) (hc_mono (hc_lv_s1 hl') k)⟩
    · cases hh
  next x st =>
    split at hh
    next l' hl' =>
      cases hh
      obtain ⟨g1, g2, -⟩ := hc_s1_ok hl'
      exact ⟨Nat.le_refl _, Nat.le_refl _, by subst g2; simp, fun _ _ Q k => hw_istoreS X hd (by rw [← hn]; exact g1) (hc_mono (hc_lv_s1 hl') k)⟩
    · cases hh
  · cases hh

theorem hs_astore_n (X : hv_X G p s0 m args cd Ts (hc_own oc) cc nL) (hT : ∀ w ∈ hc_gw, w ∈ Ts) {pc n c s : Nat} {lc st : List Value} {h : hc_H} {r : hc_S ⊕ Option Value} {r1 r2 len : Nat} {ini : Bool} {z : Fin 4} (hn : lc.length = nL) (hd : decode cc pc = .ok (.astore_n z, len)) (hk : hc_ok oc ini pc (.astore_n z) len r1 r2 = true) (hh : hi_astore_n r1 pc lc st n h c s = some r) : hc_res G p l e R s0 m args below meth cd nL pc lc st n h c s r := by
  simp only [hc_ok, Bool.and_eq_true, decide_eq_true_eq] at hk
  have hl : len = 1 := Nat.eq_of_beq_eq_true hk.1
  subst hl
  unfold hi_astore_n at hh
  split at hh
  next x st =>
    split at hh
    next l' hl' =>
      cases hh
      obtain ⟨g1, g2, -⟩ := hc_s1_ok hl'
      exact ⟨Nat.le_refl _, Nat.le_refl _, by subst g2; simp, fun _ _ Q k => hw_astore_n X hd (Nat.eq_of_beq_eq_true hk.2) (by rw [← hn]; exact g1) (hc_mono (hc_lv_s1 hl') k)⟩
    · cases hh
  · cases hh

theorem hs_astore (X : hv_X G p s0 m args cd Ts (hc_own oc) cc nL) (hT : ∀ w ∈ hc_gw, w ∈ Ts) {pc n c s : Nat} {lc st : List Value} {h : hc_H} {r : hc_S ⊕ Option Value} {r1 r2 len : Nat} {ini : Bool} {z : Nat} (hn : lc.length = nL) (hd : decode cc pc = .ok (.astore z, len)) (hk : hc_ok oc ini pc (.astore z) len r1 r2 = true) (hh : hi_astore r1 pc lc st n h c s = some r) : hc_res G p l e R s0 m args below meth cd nL pc lc st n h c s r := by
  simp only [hc_ok, Bool.and_eq_true, decide_eq_true_eq] at hk
  have hl : len = 2 := Nat.eq_of_beq_eq_true hk.1
  subst hl
  have hz := Nat.eq_of_beq_eq_true hk.2
  subst hz
  unfold hi_astore at hh
  split at hh
  next x st =>
    split at hh
    next l' hl' =>
      cases hh
      obtain ⟨g1, g2, -⟩ := hc_s1_ok hl'
      exact ⟨Nat.le_refl _, Nat.le_refl _, by subst g2; simp, fun _ _ Q k => hw_astore X hd (by rw [← hn]; exact g1) (hc_mono (hc_lv_s1 hl') k)⟩
    · cases hh
  · cases hh

theorem hs_lstore_n (X : hv_X G p s0 m args cd Ts (hc_own oc) cc nL) (hT : ∀ w ∈ hc_gw, w ∈ Ts) {pc n c s : Nat} {lc st : List Value} {h : hc_H} {r : hc_S ⊕ Option Value} {r1 r2 len : Nat} {ini : Bool} {z : Fin 4} (hn : lc.length = nL) (hd : decode cc pc = .ok (.lstore_n z, len)) (hk : hc_ok oc ini pc (.lstore_n z) len r1 r2 = true) (hh : hi_lstore_n r1 pc lc st n h c s = some r) : hc_res G p l e R s0 m args below meth cd nL pc lc st n h c s r := by
  simp only [hc_ok, Bool.and_eq_true, decide_eq_true_eq] at hk
  have hl : len = 1 := Nat.eq_of_beq_eq_true hk.1
  subst hl
  unfold hi_lstore_n at hh
  split at hh
  next x st =>
    split at hh
    next l' hl' =>
      cases hh
      obtain ⟨g1, g2, -⟩ := hc_s2_ok hl'
      exact ⟨Nat.le_refl _, Nat.le_refl _, by subst g2; simp, fun _ _ Q k => hw_lstore_n X hd (Nat.eq_of_beq_eq_true hk.2) (by rw [← hn]; exact g1) (hc_mono (hc_lv_s2 hl') k)⟩
    · cases hh
  · cases hh

theorem hs_lstore (X : hv_X G p s0 m args cd Ts (hc_own oc) cc nL) (hT : ∀ w ∈ hc_gw, w ∈ Ts) {pc n c s : Nat} {lc st : List Value} {h : hc_H} {r : hc_S ⊕ Option Value} {r1 r2 len : Nat} {ini : Bool} {z : Nat} (hn : lc.length = nL) (hd : decode cc pc = .ok (.lstore z, len)) (hk : hc_ok oc ini pc (.lstore z) len r1 r2 = true) (hh : hi_lstore r1 pc lc st n h c s = some r) : hc_res G p l e R s0 m args below meth cd nL pc lc st n h c s r := by
  simp only [hc_ok, Bool.and_eq_true, decide_eq_true_eq] at hk
  have hl : len = 2 := Nat.eq_of_beq_eq_true hk.1
  subst hl
  have hz := Nat.eq_of_beq_eq_true hk.2
  subst hz
  unfold hi_lstore at hh
  split at hh
  next x st =>
    split at hh
    next l' hl' =>
      cases hh
      obtain ⟨g1, g2, -⟩ := hc_s2_ok hl'
      exact ⟨Nat.le_refl _, Nat.le_refl _, by subst g2; simp, fun _ _ Q k => hw_lstore X hd (by rw [← hn]; exact g1) (hc_mono (hc_lv_s2 hl') k)⟩
    · cases hh
  · cases hh

theorem hs_iinc (X : hv_X G p s0 m args cd Ts (hc_own oc) cc nL) (hT : ∀ w ∈ hc_gw, w ∈ Ts) {pc n c s : Nat} {lc st : List Value} {h : hc_H} {r : hc_S ⊕ Option Value} {r1 r2 len : Nat} {ini : Bool} {z : Nat} {w : Int} (hn : lc.length = nL) (hd : decode cc pc = .ok (.iinc z w, len)) (hk : hc_ok oc ini pc (.iinc z w) len r1 r2 = true) (hh : hi_iinc r1 r2 pc lc st n h c s = some r) : hc_res G p l e R s0 m args below meth cd nL pc lc st n h c s r := by
  simp only [hc_ok, Bool.and_eq_true, decide_eq_true_eq] at hk
  have hl : len = 3 := Nat.eq_of_beq_eq_true hk.1
  subst hl
  have hz := Nat.eq_of_beq_eq_true hk.2.1
  subst hz
  have hw := hk.2.2
  unfold hi_iinc at hh
  split at hh
  next x hx =>
    split at hh
    next l' hl' =>
      cases hh
      obtain ⟨g1, g2, -⟩ := hc_s1_ok hl'
      rw [← hw] at hl'
      exact ⟨Nat.le_refl _, Nat.le_refl _, by subst g2; simp, fun _ _ Q k => hw_iinc X hd (hc_lvm hx rfl) (by rw [← hn]; exact g1) (hc_mono (hc_lv_s1 hl') k)⟩
    · cases hh
  · cases hh

theorem hs_iadd (X : hv_X G p s0 m args cd Ts (hc_own oc) cc nL) (hT : ∀ w ∈ hc_gw, w ∈ Ts) {pc n c s : Nat} {lc st : List Value} {h : hc_H} {r : hc_S ⊕ Option Value} {r1 r2 len : Nat} {ini : Bool} (hd : decode cc pc = .ok (.iadd, len)) (hk : hc_ok oc ini pc (.iadd) len r1 r2 = true) (hh : hi_iadd pc lc st n h c s = some r) : hc_res G p l e R s0 m args below meth cd nL pc lc st n h c s r := by
  simp only [hc_ok] at hk
  have hl : len = 1 := Nat.eq_of_beq_eq_true hk
  subst hl
  unfold hi_iadd at hh
  split at hh
  next y x st =>
    cases hh
    exact ⟨Nat.le_refl _, Nat.le_refl _, rfl, fun _ _ Q k => hw_iadd X hd k⟩
  · cases hh

theorem hs_isub (X : hv_X G p s0 m args cd Ts (hc_own oc) cc nL) (hT : ∀ w ∈ hc_gw, w ∈ Ts) {pc n c s : Nat} {lc st : List Value} {h : hc_H} {r : hc_S ⊕ Option Value} {r1 r2 len : Nat} {ini : Bool} (hd : decode cc pc = .ok (.isub, len)) (hk : hc_ok oc ini pc (.isub) len r1 r2 = true) (hh : hi_isub pc lc st n h c s = some r) : hc_res G p l e R s0 m args below meth cd nL pc lc st n h c s r := by
  simp only [hc_ok] at hk
  have hl : len = 1 := Nat.eq_of_beq_eq_true hk
  subst hl
  unfold hi_isub at hh
  split at hh
  next y x st =>
    cases hh
    exact ⟨Nat.le_refl _, Nat.le_refl _, rfl, fun _ _ Q k => hw_isub X hd k⟩
  · cases hh

theorem hs_imul (X : hv_X G p s0 m args cd Ts (hc_own oc) cc nL) (hT : ∀ w ∈ hc_gw, w ∈ Ts) {pc n c s : Nat} {lc st : List Value} {h : hc_H} {r : hc_S ⊕ Option Value} {r1 r2 len : Nat} {ini : Bool} (hd : decode cc pc = .ok (.imul, len)) (hk : hc_ok oc ini pc (.imul) len r1 r2 = true) (hh : hi_imul pc lc st n h c s = some r) : hc_res G p l e R s0 m args below meth cd nL pc lc st n h c s r := by
  simp only [hc_ok] at hk
  have hl : len = 1 := Nat.eq_of_beq_eq_true hk
  subst hl
  unfold hi_imul at hh
  split at hh
  next y x st =>
    cases hh
    exact ⟨Nat.le_refl _, Nat.le_refl _, rfl, fun _ _ Q k => hw_imul X hd k⟩
  · cases hh

theorem hs_iand (X : hv_X G p s0 m args cd Ts (hc_own oc) cc nL) (hT : ∀ w ∈ hc_gw, w ∈ Ts) {pc n c s : Nat} {lc st : List Value} {h : hc_H} {r : hc_S ⊕ Option Value} {r1 r2 len : Nat} {ini : Bool} (hd : decode cc pc = .ok (.iand, len)) (hk : hc_ok oc ini pc (.iand) len r1 r2 = true) (hh : hi_iand pc lc st n h c s = some r) : hc_res G p l e R s0 m args below meth cd nL pc lc st n h c s r := by
  simp only [hc_ok] at hk
  have hl : len = 1 := Nat.eq_of_beq_eq_true hk
  subst hl
  unfold hi_iand at hh
  split at hh
  next y x st =>
    cases hh
    exact ⟨Nat.le_refl _, Nat.le_refl _, rfl, fun _ _ Q k => hw_iand X hd k⟩
  · cases hh

theorem hs_ior (X : hv_X G p s0 m args cd Ts (hc_own oc) cc nL) (hT : ∀ w ∈ hc_gw, w ∈ Ts) {pc n c s : Nat} {lc st : List Value} {h : hc_H} {r : hc_S ⊕ Option Value} {r1 r2 len : Nat} {ini : Bool} (hd : decode cc pc = .ok (.ior, len)) (hk : hc_ok oc ini pc (.ior) len r1 r2 = true) (hh : hi_ior pc lc st n h c s = some r) : hc_res G p l e R s0 m args below meth cd nL pc lc st n h c s r := by
  simp only [hc_ok] at hk
  have hl : len = 1 := Nat.eq_of_beq_eq_true hk
  subst hl
  unfold hi_ior at hh
  split at hh
  next y x st =>
    cases hh
    exact ⟨Nat.le_refl _, Nat.le_refl _, rfl, fun _ _ Q k => hw_ior X hd k⟩
  · cases hh

theorem hs_ixor (X : hv_X G p s0 m args cd Ts (hc_own oc) cc nL) (hT : ∀ w ∈ hc_gw, w ∈ Ts) {pc n c s : Nat} {lc st : List Value} {h : hc_H} {r : hc_S ⊕ Option Value} {r1 r2 len : Nat} {ini : Bool} (hd : decode cc pc = .ok (.ixor, len)) (hk : hc_ok oc ini pc (.ixor) len r1 r2 = true) (hh : hi_ixor pc lc st n h c s = some r) : hc_res G p l e R s0 m args below meth cd nL pc lc st n h c s r := by
  simp only [hc_ok] at hk
  have hl : len = 1 := Nat.eq_of_beq_eq_true hk
  subst hl
  unfold hi_ixor at hh
  split at hh
  next y x st =>
    cases hh
    exact ⟨Nat.le_refl _, Nat.le_refl _, rfl, fun _ _ Q k => hw_ixor X hd k⟩
  · cases hh

theorem hs_ishl (X : hv_X G p s0 m args cd Ts (hc_own oc) cc nL) (hT : ∀ w ∈ hc_gw, w ∈ Ts) {pc n c s : Nat} {lc st : List Value} {h : hc_H} {r : hc_S ⊕ Option Value} {r1 r2 len : Nat} {ini : Bool} (hd : decode cc pc = .ok (.ishl, len)) (hk : hc_ok oc ini pc (.ishl) len r1 r2 = true) (hh : hi_ishl pc lc st n h c s = some r) : hc_res G p l e R s0 m args below meth cd nL pc lc st n h c s r := by
  simp only [hc_ok] at hk
  have hl : len = 1 := Nat.eq_of_beq_eq_true hk
  subst hl
  unfold hi_ishl at hh
  split at hh
  next y x st =>
    cases hh
    exact ⟨Nat.le_refl _, Nat.le_refl _, rfl, fun _ _ Q k => hw_ishl X hd k⟩
  · cases hh

theorem hs_ladd (X : hv_X G p s0 m args cd Ts (hc_own oc) cc nL) (hT : ∀ w ∈ hc_gw, w ∈ Ts) {pc n c s : Nat} {lc st : List Value} {h : hc_H} {r : hc_S ⊕ Option Value} {r1 r2 len : Nat} {ini : Bool} (hd : decode cc pc = .ok (.ladd, len)) (hk : hc_ok oc ini pc (.ladd) len r1 r2 = true) (hh : hi_ladd pc lc st n h c s = some r) : hc_res G p l e R s0 m args below meth cd nL pc lc st n h c s r := by
  simp only [hc_ok] at hk
  have hl : len = 1 := Nat.eq_of_beq_eq_true hk
  subst hl
  unfold hi_ladd at hh
  split at hh
  next y x st =>
    cases hh
    exact ⟨Nat.le_refl _, Nat.le_refl _, rfl, fun _ _ Q k => hw_ladd X hd k⟩
  · cases hh

theorem hs_lsub (X : hv_X G p s0 m args cd Ts (hc_own oc) cc nL) (hT : ∀ w ∈ hc_gw, w ∈ Ts) {pc n c s : Nat} {lc st : List Value} {h : hc_H} {r : hc_S ⊕ Option Value} {r1 r2 len : Nat} {ini : Bool} (hd : decode cc pc = .ok (.lsub, len)) (hk : hc_ok oc ini pc (.lsub) len r1 r2 = true) (hh : hi_lsub pc lc st n h c s = some r) : hc_res G p l e R s0 m args below meth cd nL pc lc st n h c s r := by
  simp only [hc_ok] at hk
  have hl : len = 1 := Nat.eq_of_beq_eq_true hk
  subst hl
  unfold hi_lsub at hh
  split at hh
  next y x st =>
    cases hh
    exact ⟨Nat.le_refl _, Nat.le_refl _, rfl, fun _ _ Q k => hw_lsub X hd k⟩
  · cases hh

theorem hs_lmul (X : hv_X G p s0 m args cd Ts (hc_own oc) cc nL) (hT : ∀ w ∈ hc_gw, w ∈ Ts) {pc n c s : Nat} {lc st : List Value} {h : hc_H} {r : hc_S ⊕ Option Value} {r1 r2 len : Nat} {ini : Bool} (hd : decode cc pc = .ok (.lmul, len)) (hk : hc_ok oc ini pc (.lmul) len r1 r2 = true) (hh : hi_lmul pc lc st n h c s = some r) : hc_res G p l e R s0 m args below meth cd nL pc lc st n h c s r := by
  simp only [hc_ok] at hk
  have hl : len = 1 := Nat.eq_of_beq_eq_true hk
  subst hl
  unfold hi_lmul at hh
  split at hh
  next y x st =>
    cases hh
    exact ⟨Nat.le_refl _, Nat.le_refl _, rfl, fun _ _ Q k => hw_lmul X hd k⟩
  · cases hh

theorem hs_lor (X : hv_X G p s0 m args cd Ts (hc_own oc) cc nL) (hT : ∀ w ∈ hc_gw, w ∈ Ts) {pc n c s : Nat} {lc st : List Value} {h : hc_H} {r : hc_S ⊕ Option Value} {r1 r2 len : Nat} {ini : Bool} (hd : decode cc pc = .ok (.lor, len)) (hk : hc_ok oc ini pc (.lor) len r1 r2 = true) (hh : hi_lor pc lc st n h c s = some r) : hc_res G p l e R s0 m args below meth cd nL pc lc st n h c s r := by
  simp only [hc_ok] at hk
  have hl : len = 1 := Nat.eq_of_beq_eq_true hk
  subst hl
  unfold hi_lor at hh
  split at hh
  next y x st =>
    cases hh
    exact ⟨Nat.le_refl _, Nat.le_refl _, rfl, fun _ _ Q k => hw_lor X hd k⟩
  · cases hh

theorem hs_lshl (X : hv_X G p s0 m args cd Ts (hc_own oc) cc nL) (hT : ∀ w ∈ hc_gw, w ∈ Ts) {pc n c s : Nat} {lc st : List Value} {h : hc_H} {r : hc_S ⊕ Option Value} {r1 r2 len : Nat} {ini : Bool} (hd : decode cc pc = .ok (.lshl, len)) (hk : hc_ok oc ini pc (.lshl) len r1 r2 = true) (hh : hi_lshl pc lc st n h c s = some r) : hc_res G p l e R s0 m args below meth cd nL pc lc st n h c s r := by
  simp only [hc_ok] at hk
  have hl : len = 1 := Nat.eq_of_beq_eq_true hk
  subst hl
  unfold hi_lshl at hh
  split at hh
  next y x st =>
    cases hh
    exact ⟨Nat.le_refl _, Nat.le_refl _, rfl, fun _ _ Q k => hw_lshl X hd k⟩
  · cases hh

theorem hs_lcmp (X : hv_X G p s0 m args cd Ts (hc_own oc) cc nL) (hT : ∀ w ∈ hc_gw, w ∈ Ts) {pc n c s : Nat} {lc st : List Value} {h : hc_H} {r : hc_S ⊕ Option Value} {r1 r2 len : Nat} {ini : Bool} (hd : decode cc pc = .ok (.lcmp, len)) (hk : hc_ok oc ini pc (.lcmp) len r1 r2 = true) (hh : hi_lcmp pc lc st n h c s = some r) : hc_res G p l e R s0 m args below meth cd nL pc lc st n h c s r := by
  simp only [hc_ok] at hk
  have hl : len = 1 := Nat.eq_of_beq_eq_true hk
  subst hl
  unfold hi_lcmp at hh
  split at hh
  next y x st =>
    cases hh
    exact ⟨Nat.le_refl _, Nat.le_refl _, rfl, fun _ _ Q k => hw_lcmp X hd k⟩
  · cases hh

theorem hs_i2l (X : hv_X G p s0 m args cd Ts (hc_own oc) cc nL) (hT : ∀ w ∈ hc_gw, w ∈ Ts) {pc n c s : Nat} {lc st : List Value} {h : hc_H} {r : hc_S ⊕ Option Value} {r1 r2 len : Nat} {ini : Bool} (hd : decode cc pc = .ok (.i2l, len)) (hk : hc_ok oc ini pc (.i2l) len r1 r2 = true) (hh : hi_i2l pc lc st n h c s = some r) : hc_res G p l e R s0 m args below meth cd nL pc lc st n h c s r := by
  simp only [hc_ok] at hk
  have hl : len = 1 := Nat.eq_of_beq_eq_true hk
  subst hl
  unfold hi_i2l at hh
  split at hh
  next x st =>
    cases hh
    exact ⟨Nat.le_refl _, Nat.le_refl _, rfl, fun _ _ Q k => hw_i2l X hd k⟩
  · cases hh

theorem hs_l2i (X : hv_X G p s0 m args cd Ts (hc_own oc) cc nL) (hT : ∀ w ∈ hc_gw, w ∈ Ts) {pc n c s : Nat} {lc st : List Value} {h : hc_H} {r : hc_S ⊕ Option Value} {r1 r2 len : Nat} {ini : Bool} (hd : decode cc pc = .ok (.l2i, len)) (hk : hc_ok oc ini pc (.l2i) len r1 r2 = true) (hh : hi_l2i pc lc st n h c s = some r) : hc_res G p l e R s0 m args below meth cd nL pc lc st n h c s r := by
  simp only [hc_ok] at hk
  have hl : len = 1 := Nat.eq_of_beq_eq_true hk
  subst hl
  unfold hi_l2i at hh
  split at hh
  next x st =>
    cases hh
    exact ⟨Nat.le_refl _, Nat.le_refl _, rfl, fun _ _ Q k => hw_l2i X hd k⟩
  · cases hh

theorem hs_i2c (X : hv_X G p s0 m args cd Ts (hc_own oc) cc nL) (hT : ∀ w ∈ hc_gw, w ∈ Ts) {pc n c s : Nat} {lc st : List Value} {h : hc_H} {r : hc_S ⊕ Option Value} {r1 r2 len : Nat} {ini : Bool} (hd : decode cc pc = .ok (.i2c, len)) (hk : hc_ok oc ini pc (.i2c) len r1 r2 = true) (hh : hi_i2c pc lc st n h c s = some r) : hc_res G p l e R s0 m args below meth cd nL pc lc st n h c s r := by
  simp only [hc_ok] at hk
  have hl : len = 1 := Nat.eq_of_beq_eq_true hk
  subst hl
  unfold hi_i2c at hh
  split at hh
  next x st =>
    cases hh
    exact ⟨Nat.le_refl _, Nat.le_refl _, rfl, fun _ _ Q k => hw_i2c X hd k⟩
  · cases hh

theorem hs_iushr (X : hv_X G p s0 m args cd Ts (hc_own oc) cc nL) (hT : ∀ w ∈ hc_gw, w ∈ Ts) {pc n c s : Nat} {lc st : List Value} {h : hc_H} {r : hc_S ⊕ Option Value} {r1 r2 len : Nat} {ini : Bool} (hL : hc_LL G LS) (hd : decode cc pc = .ok (.iushr, len)) (hk : hc_ok oc ini pc (.iushr) len r1 r2 = true) (hh : hi_iushr pc lc st n h c s = some r) : hc_res G p l e R s0 m args below meth cd nL pc lc st n h c s r := by
  simp only [hc_ok] at hk
  have hl : len = 1 := Nat.eq_of_beq_eq_true hk
  subst hl
  unfold hi_iushr at hh
  split at hh
  next y x st =>
    cases hh
    exact ⟨Nat.le_refl _, Nat.le_refl _, rfl, fun _ _ Q k => hw_iushr X hd k⟩
  next y j st =>
    split at hh
    next hc =>
      cases hh
      simp only [Bool.and_eq_true, decide_eq_true_eq, Bool.not_eq_true', decide_eq_false_iff_not] at hc
      obtain ⟨c1, c2, c3⟩ := hc
      have c1' := Nat.le_of_ble_eq_true c1
      have hv := (hL.2.2.2.1 j.toNat y (by omega) c2 c3).1
      have hy : y.toNatClampNeg < 32 := by
        have h1 := Int32.lt_iff_toInt_lt.mp c3
        have h2 : (32 : Int32).toInt = 32 := by decide
        show y.toInt.toNat < 32
        omega
      refine ⟨Nat.le_refl _, Nat.le_refl _, rfl, fun _ _ Q k => ?_⟩
      have e1 : (UInt32.ofNat (10000 + 100 * j.toNat + y.toNatClampNeg)).toNat = 10000 + 100 * j.toNat + y.toNatClampNeg := by
        rw [UInt32.toNat_ofNat']
        exact Nat.mod_eq_of_lt (by omega)
      exact hw_iushrS X hd (by rw [e1]; exact hv) k
    · cases hh
  · cases hh

theorem hs_ishr (X : hv_X G p s0 m args cd Ts (hc_own oc) cc nL) (hT : ∀ w ∈ hc_gw, w ∈ Ts) {pc n c s : Nat} {lc st : List Value} {h : hc_H} {r : hc_S ⊕ Option Value} {r1 r2 len : Nat} {ini : Bool} (hL : hc_LL G LS) (hd : decode cc pc = .ok (.ishr, len)) (hk : hc_ok oc ini pc (.ishr) len r1 r2 = true) (hh : hi_ishr pc lc st n h c s = some r) : hc_res G p l e R s0 m args below meth cd nL pc lc st n h c s r := by
  simp only [hc_ok] at hk
  have hl : len = 1 := Nat.eq_of_beq_eq_true hk
  subst hl
  unfold hi_ishr at hh
  split at hh
  next y x st =>
    cases hh
    exact ⟨Nat.le_refl _, Nat.le_refl _, rfl, fun _ _ Q k => hw_ishr X hd k⟩
  next y j st =>
    split at hh
    next hc =>
      cases hh
      simp only [Bool.and_eq_true, decide_eq_true_eq, Bool.not_eq_true', decide_eq_false_iff_not] at hc
      obtain ⟨c1, c2, c3⟩ := hc
      have c1' := Nat.le_of_ble_eq_true c1
      have hv := (hL.2.2.2.1 j.toNat y (by omega) c2 c3).2
      have hy : y.toNatClampNeg < 32 := by
        have h1 := Int32.lt_iff_toInt_lt.mp c3
        have h2 : (32 : Int32).toInt = 32 := by decide
        show y.toInt.toNat < 32
        omega
      refine ⟨Nat.le_refl _, Nat.le_refl _, rfl, fun _ _ Q k => ?_⟩
      have e1 : (UInt32.ofNat (20000 + 100 * j.toNat + y.toNatClampNeg)).toNat = 20000 + 100 * j.toNat + y.toNatClampNeg := by
        rw [UInt32.toNat_ofNat']
        exact Nat.mod_eq_of_lt (by omega)
      exact hw_ishrS X hd (by rw [e1]; exact hv) k
    · cases hh
  · cases hh

theorem hs_i2b (X : hv_X G p s0 m args cd Ts (hc_own oc) cc nL) (hT : ∀ w ∈ hc_gw, w ∈ Ts) {pc n c s : Nat} {lc st : List Value} {h : hc_H} {r : hc_S ⊕ Option Value} {r1 r2 len : Nat} {ini : Bool} (hL : hc_LL G LS) (hd : decode cc pc = .ok (.i2b, len)) (hk : hc_ok oc ini pc (.i2b) len r1 r2 = true) (hh : hi_i2b pc lc st n h c s = some r) : hc_res G p l e R s0 m args below meth cd nL pc lc st n h c s r := by
  simp only [hc_ok] at hk
  have hl : len = 1 := Nat.eq_of_beq_eq_true hk
  subst hl
  unfold hi_i2b at hh
  split at hh
  next x st =>
    cases hh
    exact ⟨Nat.le_refl _, Nat.le_refl _, rfl, fun _ _ Q k => hw_i2b X hd k⟩
  next j st =>
    split at hh
    next hc =>
      cases hh
      simp only [Bool.and_eq_true] at hc
      have c1 := Nat.le_of_ble_eq_true hc.1
      have c2 := Nat.le_of_ble_eq_true hc.2
      refine ⟨Nat.le_refl _, Nat.le_refl _, rfl, fun _ _ Q k => ?_⟩
      have e1 : (UInt32.ofNat (30000 + j.toNat)).toNat = 30000 + j.toNat := by
        rw [UInt32.toNat_ofNat']
        exact Nat.mod_eq_of_lt (by omega)
      exact hw_i2bS X hd (by rw [e1]; exact hL.2.2.2.2 j.toNat c1 (by omega)) k
    · cases hh
  · cases hh

theorem hs_idiv (X : hv_X G p s0 m args cd Ts (hc_own oc) cc nL) (hT : ∀ w ∈ hc_gw, w ∈ Ts) {pc n c s : Nat} {lc st : List Value} {h : hc_H} {r : hc_S ⊕ Option Value} {r1 r2 len : Nat} {ini : Bool} (hd : decode cc pc = .ok (.idiv, len)) (hk : hc_ok oc ini pc (.idiv) len r1 r2 = true) (hh : hi_idiv pc lc st n h c s = some r) : hc_res G p l e R s0 m args below meth cd nL pc lc st n h c s r := by
  simp only [hc_ok] at hk
  have hl : len = 1 := Nat.eq_of_beq_eq_true hk
  subst hl
  unfold hi_idiv at hh
  split at hh
  next y x st =>
    split at hh
    · cases hh
    next hy =>
      cases hh
      exact ⟨Nat.le_refl _, Nat.le_refl _, rfl, fun _ _ Q k => hw_idiv X hd (of_decide_eq_false hy) k⟩
  · cases hh

theorem hs_irem (X : hv_X G p s0 m args cd Ts (hc_own oc) cc nL) (hT : ∀ w ∈ hc_gw, w ∈ Ts) {pc n c s : Nat} {lc st : List Value} {h : hc_H} {r : hc_S ⊕ Option Value} {r1 r2 len : Nat} {ini : Bool} (hd : decode cc pc = .ok (.irem, len)) (hk : hc_ok oc ini pc (.irem) len r1 r2 = true) (hh : hi_irem pc lc st n h c s = some r) : hc_res G p l e R s0 m args below meth cd nL pc lc st n h c s r := by
  simp only [hc_ok] at hk
  have hl : len = 1 := Nat.eq_of_beq_eq_true hk
  subst hl
  unfold hi_irem at hh
  split at hh
  next y x st =>
    split at hh
    · cases hh
    next hy =>
      cases hh
      exact ⟨Nat.le_refl _, Nat.le_refl _, rfl, fun _ _ Q k => hw_irem X hd (of_decide_eq_false hy) k⟩
  · cases hh

theorem hs_dup (X : hv_X G p s0 m args cd Ts (hc_own oc) cc nL) (hT : ∀ w ∈ hc_gw, w ∈ Ts) {pc n c s : Nat} {lc st : List Value} {h : hc_H} {r : hc_S ⊕ Option Value} {r1 r2 len : Nat} {ini : Bool} (hd : decode cc pc = .ok (.dup, len)) (hk : hc_ok oc ini pc (.dup) len r1 r2 = true) (hh : hi_dup pc lc st n h c s = some r) : hc_res G p l e R s0 m args below meth cd nL pc lc st n h c s r := by
  simp only [hc_ok] at hk
  have hl : len = 1 := Nat.eq_of_beq_eq_true hk
  subst hl
  unfold hi_dup at hh
  split at hh
  next v st =>
    split at hh
    · cases hh
    next hy =>
      cases hh
      exact ⟨Nat.le_refl _, Nat.le_refl _, rfl, fun _ _ Q k => hw_dup X hd (hc_two_ok hy) k⟩
  · cases hh

theorem hs_pop (X : hv_X G p s0 m args cd Ts (hc_own oc) cc nL) (hT : ∀ w ∈ hc_gw, w ∈ Ts) {pc n c s : Nat} {lc st : List Value} {h : hc_H} {r : hc_S ⊕ Option Value} {r1 r2 len : Nat} {ini : Bool} (hd : decode cc pc = .ok (.pop, len)) (hk : hc_ok oc ini pc (.pop) len r1 r2 = true) (hh : hi_pop pc lc st n h c s = some r) : hc_res G p l e R s0 m args below meth cd nL pc lc st n h c s r := by
  simp only [hc_ok] at hk
  have hl : len = 1 := Nat.eq_of_beq_eq_true hk
  subst hl
  unfold hi_pop at hh
  split at hh
  next v st =>
    split at hh
    · cases hh
    next hy =>
      cases hh
      exact ⟨Nat.le_refl _, Nat.le_refl _, rfl, fun _ _ Q k => hw_pop X hd (hc_two_ok hy) k⟩
  · cases hh

theorem hs_dup2 (X : hv_X G p s0 m args cd Ts (hc_own oc) cc nL) (hT : ∀ w ∈ hc_gw, w ∈ Ts) {pc n c s : Nat} {lc st : List Value} {h : hc_H} {r : hc_S ⊕ Option Value} {r1 r2 len : Nat} {ini : Bool} (hd : decode cc pc = .ok (.dup2, len)) (hk : hc_ok oc ini pc (.dup2) len r1 r2 = true) (hh : hi_dup2 pc lc st n h c s = some r) : hc_res G p l e R s0 m args below meth cd nL pc lc st n h c s r := by
  simp only [hc_ok] at hk
  have hl : len = 1 := Nat.eq_of_beq_eq_true hk
  subst hl
  unfold hi_dup2 at hh
  split at hh
  next v w st =>
    split at hh
    · cases hh
    next hy =>
      cases hh
      have hy2 := Bool.or_eq_false_iff.mp hy
      exact ⟨Nat.le_refl _, Nat.le_refl _, rfl, fun _ _ Q k => hw_dup2 X hd (hc_two_ok hy2.1) (hc_two_ok hy2.2) k⟩
  · cases hh

theorem hs_ifCond (X : hv_X G p s0 m args cd Ts (hc_own oc) cc nL) (hT : ∀ w ∈ hc_gw, w ∈ Ts) {pc n c s : Nat} {lc st : List Value} {h : hc_H} {r : hc_S ⊕ Option Value} {r1 r2 len : Nat} {ini : Bool} {op : Jvm.ClassFile.Cond} {off : Int} (hL : hc_LL G LS) (hd : decode cc pc = .ok (.ifCond op off, len)) (hk : hc_ok oc ini pc (.ifCond op off) len r1 r2 = true) (hh : hi_ifCond LS op r1 pc lc st n h c s = some r) : hc_res G p l e R s0 m args below meth cd nL pc lc st n h c s r := by
  simp only [hc_ok, Bool.and_eq_true, decide_eq_true_eq] at hk
  have hl : len = 3 := Nat.eq_of_beq_eq_true hk.1
  subst hl
  have ht := hk.2
  unfold hi_ifCond at hh
  split at hh
  next x st =>
    split at hh
    next hc =>
      cases hh
      refine ⟨Nat.le_refl _, Nat.le_refl _, rfl, fun _ _ Q k => ?_⟩
      cases op <;> simp only [hc_cmp, decide_eq_true_eq, Bool.not_eq_true', decide_eq_false_iff_not] at hc
      · exact hw_if_eq X hd ht (fun _ => k) (fun q => absurd hc q)
      · exact hw_if_ne X hd ht (fun _ => k) (fun q => absurd q hc)
      · exact hw_if_lt X hd ht (fun _ => k) (fun q => absurd hc q)
      · exact hw_if_ge X hd ht (fun _ => k) (fun q => absurd hc q)
      · exact hw_if_gt X hd ht (fun _ => k) (fun q => absurd hc q)
      · exact hw_if_le X hd ht (fun _ => k) (fun q => absurd hc q)
    next hc =>
      cases hh
      refine ⟨Nat.le_refl _, Nat.le_refl _, rfl, fun _ _ Q k => ?_⟩
      cases op <;> simp only [hc_cmp, decide_eq_true_eq, Bool.not_eq_false', decide_eq_false_iff_not] at hc
      · exact hw_if_eq X hd ht (fun q => absurd q hc) (fun _ => k)
      · exact hw_if_ne X hd ht (fun q => absurd hc q) (fun _ => k)
      · exact hw_if_lt X hd ht (fun q => absurd q hc) (fun _ => k)
      · exact hw_if_ge X hd ht (fun q => absurd q hc) (fun _ => k)
      · exact hw_if_gt X hd ht (fun q => absurd q hc) (fun _ => k)
      · exact hw_if_le X hd ht (fun q => absurd q hc) (fun _ => k)
  next j st =>
    split at hh
    · split at hh
      · cases hh
      next hb =>
        have hj : j.toNat < 1000 := Nat.not_le.mp (fun q => by rw [Nat.ble_eq_true_of_le q] at hb; cases hb)
        split at hh
        next x hx =>
          cases hh
          have hne := (hL.2.2.1 _ _ hx).2.1 (by omega) (by omega)
          rw [Nat.add_sub_cancel] at hne
          exact ⟨Nat.le_refl _, Nat.le_refl _, rfl, fun _ _ Q k => hw_ifS_eq X hd ht rfl (fun q => absurd q hne) (fun _ => k)⟩
        · cases hh
    · cases hh
  · cases hh
theorem hs_if_icmp (X : hv_X G p s0 m args cd Ts (hc_own oc) cc nL) (hT : ∀ w ∈ hc_gw, w ∈ Ts) {pc n c s : Nat} {lc st : List Value} {h : hc_H} {r : hc_S ⊕ Option Value} {r1 r2 len : Nat} {ini : Bool} {op : Jvm.ClassFile.Cond} {off : Int} (hd : decode cc pc = .ok (.if_icmp op off, len)) (hk : hc_ok oc ini pc (.if_icmp op off) len r1 r2 = true) (hh : hi_if_icmp op r1 pc lc st n h c s = some r) : hc_res G p l e R s0 m args below meth cd nL pc lc st n h c s r := by
  simp only [hc_ok, Bool.and_eq_true, decide_eq_true_eq] at hk
  have hl : len = 3 := Nat.eq_of_beq_eq_true hk.1
  subst hl
  have ht := hk.2
  unfold hi_if_icmp at hh
  split at hh
  next y x st =>
    split at hh
    next hc =>
      cases hh
      refine ⟨Nat.le_refl _, Nat.le_refl _, rfl, fun _ _ Q k => ?_⟩
      cases op <;> simp only [hc_cmp, decide_eq_true_eq, Bool.not_eq_true', decide_eq_false_iff_not] at hc
      · exact hw_icmp_eq X hd ht (fun _ => k) (fun q => absurd hc q)
      · exact hw_icmp_ne X hd ht (fun _ => k) (fun q => absurd q hc)
      · exact hw_icmp_lt X hd ht (fun _ => k) (fun q => absurd hc q)
      · exact hw_icmp_ge X hd ht (fun _ => k) (fun q => absurd hc q)
      · exact hw_icmp_gt X hd ht (fun _ => k) (fun q => absurd hc q)
      · exact hw_icmp_le X hd ht (fun _ => k) (fun q => absurd hc q)
    next hc =>
      cases hh
      refine ⟨Nat.le_refl _, Nat.le_refl _, rfl, fun _ _ Q k => ?_⟩
      cases op <;> simp only [hc_cmp, decide_eq_true_eq, Bool.not_eq_false', decide_eq_false_iff_not] at hc
      · exact hw_icmp_eq X hd ht (fun q => absurd q hc) (fun _ => k)
      · exact hw_icmp_ne X hd ht (fun q => absurd hc q) (fun _ => k)
      · exact hw_icmp_lt X hd ht (fun q => absurd q hc) (fun _ => k)
      · exact hw_icmp_ge X hd ht (fun q => absurd q hc) (fun _ => k)
      · exact hw_icmp_gt X hd ht (fun q => absurd q hc) (fun _ => k)
      · exact hw_icmp_le X hd ht (fun q => absurd q hc) (fun _ => k)
  · cases hh
theorem hs_goto (X : hv_X G p s0 m args cd Ts (hc_own oc) cc nL) (hT : ∀ w ∈ hc_gw, w ∈ Ts) {pc n c s : Nat} {lc st : List Value} {h : hc_H} {r : hc_S ⊕ Option Value} {r1 r2 len : Nat} {ini : Bool} {off : Int} (hd : decode cc pc = .ok (.goto off, len)) (hk : hc_ok oc ini pc (.goto off) len r1 r2 = true) (hh : hi_goto r1 pc lc st n h c s = some r) : hc_res G p l e R s0 m args below meth cd nL pc lc st n h c s r := by
  simp only [hc_ok, Bool.and_eq_true, decide_eq_true_eq] at hk
  have hl : len = 3 := Nat.eq_of_beq_eq_true hk.1
  subst hl
  have ht := hk.2
  unfold hi_goto at hh
  cases hh
  exact ⟨Nat.le_refl _, Nat.le_refl _, rfl, fun _ _ Q k => hw_goto X hd ht k⟩

theorem hs_tableswitch (X : hv_X G p s0 m args cd Ts (hc_own oc) cc nL) (hT : ∀ w ∈ hc_gw, w ∈ Ts) {pc n c s : Nat} {lc st : List Value} {h : hc_H} {r : hc_S ⊕ Option Value} {r1 r2 len : Nat} {ini : Bool} {dflt lo hi : Int} {offs : Array Int} (hL : hc_LL G LS) (hd : decode cc pc = .ok (.tableswitch dflt lo hi offs, len)) (hk : hc_ok oc ini pc (.tableswitch dflt lo hi offs) len r1 r2 = true) (hh : hi_tableswitch LS dflt lo hi offs pc lc st n h c s = some r) : hc_res G p l e R s0 m args below meth cd nL pc lc st n h c s r := by
  unfold hi_tableswitch at hh
  split at hh
  next x st =>
    split at hh
    next hx =>
      split at hh
      next h0 =>
        cases hh
        have h0' := of_decide_eq_true h0
        have hx' : x.toInt < lo ∨ hi < x.toInt := by
          rcases Bool.or_eq_true _ _ ▸ hx with q | q
          · exact Or.inl (of_decide_eq_true q)
          · exact Or.inr (of_decide_eq_true q)
        exact ⟨Nat.le_refl _, Nat.le_refl _, rfl, fun _ _ Q k => hw_tableOut X hd hx' (by omega) k⟩
      · cases hh
    next hx =>
      have hx' := Bool.or_eq_false_iff.mp hx
      split at hh
      · cases hh
      next off ho =>
        split at hh
        next h0 =>
          cases hh
          have h0' := of_decide_eq_true h0
          rw [hc_nth_eq, Array.getElem?_toList] at ho
          exact ⟨Nat.le_refl _, Nat.le_refl _, rfl, fun _ _ Q k => hw_tableIn X hd (of_decide_eq_false hx'.1) (of_decide_eq_false hx'.2) ho (by omega) k⟩
        · cases hh
  next j st =>
    split at hh
    · cases hh
    next x hx =>
      split at hh
      next hc =>
        cases hh
        simp only [Bool.and_eq_true, decide_eq_true_eq] at hc
        have hx2 := (hL.2.2.1 _ _ hx).2.2 (by omega)
        rw [Nat.add_sub_cancel] at hx2
        have hx' : (G.2.1 j.toNat).toInt < lo ∨ hi < (G.2.1 j.toNat).toInt := by
          rcases hx2 with q | q
          · have := Int32.lt_iff_toInt_lt.mp q
            have h0 : (0 : Int32).toInt = 0 := by decide
            left
            omega
          · have := Int32.lt_iff_toInt_lt.mp q
            right
            omega
        exact ⟨Nat.le_refl _, Nat.le_refl _, rfl, fun _ _ Q k => hw_tableOutS X hd hx' (by omega) k⟩
      · cases hh
  · cases hh

end HCX
