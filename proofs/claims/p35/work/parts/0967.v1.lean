/-! WHAT A METHOD MAY WRITE: certificates over groups of cells, a checker of them, its soundness for the evaluator -/
abbrev ug_T : Type := Option (List Nat ⊕ Bool)
abbrev ug_Q : Type := Nat × List ug_T × List ug_T
abbrev ug_X : Type := Nat × List ug_T × Option ug_T × Nat × List (List (Option (List ug_T × List ug_T × Nat × List Nat)))
def ug_z : ug_T := some (.inl [])
def ug_j : ug_T := some (.inr true)
def ug_d : ug_T := some (.inr false)
def ug_V (a : ug_T) (v : Value) : Prop := match a with
  | none => True
  | some (.inl m) => match v with
    | .ref 0 => False
    | .ref (i + 1) => i < 410 ∧ ug_g i ∈ m
    | .long _ => False
    | .double _ => False
    | _ => True
  | some (.inr true) => match v with
    | .long _ => True
    | _ => False
  | some (.inr false) => match v with
    | .double _ => True
    | _ => False
def ug_L : List ug_T → List Value → Prop
  | [], [] => True
  | a :: as, v :: vs => ug_V a v ∧ ug_L as vs
  | _, _ => False
theorem ug_L.cons {a : ug_T} {v : Value} {as : List ug_T} {vs : List Value} (h1 : ug_V a v) (h2 : ug_L as vs) : ug_L (a :: as) (v :: vs) := ⟨h1, h2⟩
theorem ug_L.un {v : Value} {as : List ug_T} {vs : List Value} (h : ug_L as (v :: vs)) : ∃ a bs, as = a :: bs ∧ ug_V a v ∧ ug_L bs vs := by
  cases as with
  | nil => exact absurd h (fun q => q)
  | cons a bs => exact ⟨a, bs, rfl, h.1, h.2⟩
theorem ug_L.unN {as : List ug_T} (h : ug_L as []) : as = [] := by
  cases as with
  | nil => rfl
  | cons a bs => exact absurd h (fun q => q)
theorem ug_L.nth : ∀ {as : List ug_T} {vs : List Value} {k : Nat} {v : Value}, ug_L as vs → hc_nth vs k = some v → ∃ a, hc_nth as k = some a ∧ ug_V a v
  | [], [], k, v, _, e => by rw [hc_nth_eq] at e; simp at e
  | [], w :: vs, k, v, h, _ => absurd h (fun q => q)
  | a :: as, [], k, v, h, _ => absurd h (fun q => q)
  | a :: as, w :: vs, 0, v, h, e => by
    have e' : some w = some v := e
    cases e'
    exact ⟨a, rfl, h.1⟩
  | a :: as, w :: vs, k + 1, v, h, e => ug_L.nth (as := as) (vs := vs) (k := k) h.2 e
theorem ug_L.set : ∀ {as : List ug_T} {vs : List Value} {k : Nat} {a : ug_T} {v : Value}, ug_L as vs → ug_V a v → ug_L (as.set k a) (vs.set k v)
  | [], [], k, a, v, _, _ => True.intro
  | [], w :: vs, k, a, v, h, _ => absurd h (fun q => q)
  | b :: as, [], k, a, v, h, _ => absurd h (fun q => q)
  | b :: as, w :: vs, 0, a, v, h, hv => ⟨hv, h.2⟩
  | b :: as, w :: vs, k + 1, a, v, h, hv => ⟨h.1, ug_L.set (as := as) (vs := vs) (k := k) h.2 hv⟩
def ug_sub (a b : List Nat) : Bool := a.all (fun x => b.any (fun y => Nat.beq x y))
def ug_le (a b : ug_T) : Bool := match b with
  | none => true
  | some (.inl m') => match a with
    | some (.inl m) => ug_sub m m'
    | _ => false
  | some (.inr true) => match a with
    | some (.inr true) => true
    | _ => false
  | some (.inr false) => match a with
    | some (.inr false) => true
    | _ => false
theorem ug_sub_ok {a b : List Nat} (h : ug_sub a b = true) {x : Nat} (hx : x ∈ a) : x ∈ b := by
  have h1 := List.all_eq_true.mp h x hx
  obtain ⟨y, hy, e⟩ := List.any_eq_true.mp h1
  rw [Nat.eq_of_beq_eq_true e]
  exact hy
theorem ug_V.le {a b : ug_T} {v : Value} (h : ug_V a v) (e : ug_le a b = true) : ug_V b v := by
  match b, a, e with
  | none, _, _ => exact True.intro
  | some (.inl m'), some (.inl m), e =>
    match v, h with
    | .ref (i + 1), h => exact ⟨h.1, ug_sub_ok e h.2⟩
    | .int _, _ => exact True.intro
    | .float _, _ => exact True.intro
    | .null, _ => exact True.intro
    | .retAddr _, _ => exact True.intro
  | some (.inr true), some (.inr true), _ => exact h
  | some (.inr false), some (.inr false), _ => exact h
def ug_leL : List ug_T → List ug_T → Bool
  | [], [] => true
  | a :: as, b :: bs => ug_le a b && ug_leL as bs
  | _, _ => false
theorem ug_L.le : ∀ {as bs : List ug_T} {vs : List Value}, ug_L as vs → ug_leL as bs = true → ug_L bs vs
  | [], [], vs, h, _ => h
  | a :: as, b :: bs, [], h, _ => h
  | a :: as, b :: bs, v :: vs, h, e => by
    have e' : (ug_le a b && ug_leL as bs) = true := e
    have e2 := Bool.and_eq_true_iff.mp e'
    exact ⟨h.1.le e2.1, ug_L.le h.2 e2.2⟩
def ug_H (h : hc_H) : Prop := ∀ i, i < 410 → (∀ t fs, hc_get h i = some (.inr (t, fs)) → ∀ k v, hc_nth fs k = some v → ug_V (some (.inl (ug_F (ug_g i) k))) v) ∧ (∀ t a, hc_get h i = some (.inl (t, a)) → ∀ k v, hc_nth a k = some v → ug_V (ug_E (ug_g i)) v)
def ug_W (W : Nat) (h h' : hc_H) : Prop := ∀ i, i < 410 → (∀ t a, hc_get h i = some (.inl (t, a)) → Nat.testBit W (ug_g i) = false → hc_get h' i = some (.inl (t, a))) ∧ (∀ t fs k, hc_get h i = some (.inr (t, fs)) → Nat.testBit W (ug_o (ug_g i) k) = false → ∃ fs', hc_get h' i = some (.inr (t, fs')) ∧ hc_nth fs' k = hc_nth fs k)
theorem ug_W.rfl {W : Nat} {h : hc_H} : ug_W W h h := fun i hi => ⟨fun t a e _ => e, fun t fs k e _ => ⟨fs, e, Eq.refl _⟩⟩
theorem ug_W.trans {W : Nat} {h h' h'' : hc_H} (a : ug_W W h h') (b : ug_W W h' h'') : ug_W W h h'' := fun i hi => ⟨fun t x e w => (b i hi).1 t x ((a i hi).1 t x e w) w, fun t fs k e w => by
  obtain ⟨f1, e1, q1⟩ := (a i hi).2 t fs k e w
  obtain ⟨f2, e2, q2⟩ := (b i hi).2 t f1 k e1 w
  exact ⟨f2, e2, q2.trans q1⟩⟩
def ug_wle (W W' : Nat) : Bool := Nat.beq (Nat.land W W') W
theorem ug_wle_ok {W W' j : Nat} (h : ug_wle W W' = true) (w : Nat.testBit W' j = false) : Nat.testBit W j = false := by
  have e : W &&& W' = W := Nat.eq_of_beq_eq_true h
  rw [← e, Nat.testBit_and, w, Bool.and_false]
theorem ug_W.le {W W' : Nat} {h h' : hc_H} (a : ug_W W h h') (e : ug_wle W W' = true) : ug_W W' h h' := fun i hi => ⟨fun t x q w => (a i hi).1 t x q (ug_wle_ok e w), fun t fs k q w => (a i hi).2 t fs k q (ug_wle_ok e w)⟩
theorem ug_W.arr {W i t : Nat} {a a' : List Value} {h h' : hc_H} (e : hc_get h i = some (.inl (t, a))) (p : hc_put h i (.inl (t, a')) = some h') (w : Nat.testBit W (ug_g i) = true) : ug_W W h h' := by
  intro j hj
  by_cases q : j = i
  · subst q
    refine ⟨fun t2 a2 e2 w2 => ?_, fun t2 fs k e2 w2 => ?_⟩
    · rw [w] at w2
      cases w2
    · rw [e] at e2
      cases e2
  · have hg : hc_get h' j = hc_get h j := by rw [hc_get_put p j, if_neg q]
    exact ⟨fun t2 a2 e2 _ => by rw [hg]; exact e2, fun t2 fs k e2 _ => ⟨fs, by rw [hg]; exact e2, Eq.refl _⟩⟩
theorem ug_H.arr {i t : Nat} {a' : List Value} {h h' : hc_H} (hh : ug_H h) (p : hc_put h i (.inl (t, a')) = some h') (ha : ∀ k v, hc_nth a' k = some v → ug_V (ug_E (ug_g i)) v) : ug_H h' := by
  intro j hj
  by_cases q : j = i
  · subst q
    refine ⟨fun t2 fs e2 => ?_, fun t2 a2 e2 => ?_⟩
    · rw [hc_get_put p j, if_pos rfl] at e2
      cases e2
    · rw [hc_get_put p j, if_pos rfl] at e2
      cases e2
      exact ha
  · have hg : hc_get h' j = hc_get h j := by rw [hc_get_put p j, if_neg q]
    rw [hg]
    exact hh j hj
theorem ug_nth_set {α : Type} {l : List α} {k j : Nat} {x y : α} (h : hc_nth (hc_set l k x) j = some y) : hc_nth l j = some y ∨ (j = k ∧ y = x) := by
  rw [hc_nth_eq, hc_set_eq, List.getElem?_set] at h
  by_cases q : k = j
  · rw [if_pos q] at h
    by_cases q2 : k < l.length
    · rw [if_pos q2] at h
      cases h
      exact Or.inr ⟨q.symm, rfl⟩
    · rw [if_neg q2] at h
      cases h
  · rw [if_neg q] at h
    exact Or.inl (by rw [hc_nth_eq]; exact h)
theorem ug_W.obj {W i t k : Nat} {fs : List Value} {v : Value} {h h' : hc_H} (e : hc_get h i = some (.inr (t, fs))) (p : hc_put h i (.inr (t, hc_set fs k v)) = some h') (w : Nat.testBit W (ug_o (ug_g i) k) = true) : ug_W W h h' := by
  intro j hj
  by_cases q : j = i
  · subst q
    refine ⟨fun t2 a2 e2 w2 => ?_, fun t2 f2 k2 e2 w2 => ?_⟩
    · rw [e] at e2
      cases e2
    · rw [e] at e2
      cases e2
      refine ⟨_, by rw [hc_get_put p j, if_pos (Eq.refl _)], ?_⟩
      have hk : ¬ k = k2 := fun z => by
        subst z
        rw [w] at w2
        cases w2
      rw [hc_nth_eq, hc_set_eq, List.getElem?_set, if_neg hk, hc_nth_eq]
  · have hg : hc_get h' j = hc_get h j := by rw [hc_get_put p j, if_neg q]
    exact ⟨fun t2 a2 e2 _ => by rw [hg]; exact e2, fun t2 f2 k2 e2 _ => ⟨f2, by rw [hg]; exact e2, Eq.refl _⟩⟩
theorem ug_H.obj {i t k : Nat} {fs : List Value} {v : Value} {h h' : hc_H} (hh : ug_H h) (hi : i < 410) (e : hc_get h i = some (.inr (t, fs))) (p : hc_put h i (.inr (t, hc_set fs k v)) = some h') (hv : ug_V (some (.inl (ug_F (ug_g i) k))) v) : ug_H h' := by
  intro j hj
  by_cases q : j = i
  · subst q
    refine ⟨fun t2 f2 e2 => ?_, fun t2 a2 e2 => ?_⟩
    · rw [hc_get_put p j, if_pos rfl] at e2
      cases e2
      intro k2 v2 h2
      rcases ug_nth_set h2 with h3 | ⟨rfl, rfl⟩
      · exact (hh j hj).1 _ _ e k2 v2 h3
      · exact hv
    · rw [hc_get_put p j, if_pos rfl] at e2
      cases e2
  · have hg : hc_get h' j = hc_get h j := by rw [hc_get_put p j, if_neg q]
    rw [hg]
    exact hh j hj
def ug_R (R : Option ug_T) (r : Option Value) : Prop := match R with
  | none => r = none
  | some a => ∃ v, r = some v ∧ ug_V a v
def ug_O (W : Nat) (R : Option ug_T) (qs : List ug_Q) (h : hc_H) (o : hc_S ⊕ Option Value) : Prop := match o with
  | .inl S => ∃ q, q ∈ qs ∧ S.1 = q.1 ∧ ug_L q.2.1 S.2.1 ∧ ug_L q.2.2 S.2.2.1 ∧ ug_H S.2.2.2.2.1 ∧ ug_W W h S.2.2.2.2.1
  | .inr r => ug_R R r
theorem ug_O.m {W : Nat} {R : Option ug_T} {qs : List ug_Q} {h : hc_H} {S : hc_S} (q : ug_Q) (hq : q ∈ qs) (h1 : S.1 = q.1) (h2 : ug_L q.2.1 S.2.1) (h3 : ug_L q.2.2 S.2.2.1) (h4 : ug_H S.2.2.2.2.1) (h5 : ug_W W h S.2.2.2.2.1) : ug_O W R qs h (.inl S) := by
  unfold ug_O
  exact ⟨q, hq, h1, h2, h3, h4, h5⟩
theorem ug_O.l {W : Nat} {R : Option ug_T} {q : ug_Q} {h : hc_H} {S : hc_S} (h1 : S.1 = q.1) (h2 : ug_L q.2.1 S.2.1) (h3 : ug_L q.2.2 S.2.2.1) (h4 : ug_H S.2.2.2.2.1) (h5 : ug_W W h S.2.2.2.2.1) : ug_O W R [q] h (.inl S) := ug_O.m q List.mem_cons_self h1 h2 h3 h4 h5
/-- the steps of the checker -/
def ug_p (x : ug_T) (pc : Nat) (l st : List ug_T) : Option (List ug_Q) := some [(pc, l, x :: st)]
def ug_d1 (pc : Nat) (l st : List ug_T) : Option (List ug_Q) := match st with
  | _ :: st => some [(pc, l, st)]
  | [] => none
def ug_1 (x : ug_T) (pc : Nat) (l st : List ug_T) : Option (List ug_Q) := match st with
  | _ :: st => some [(pc, l, x :: st)]
  | [] => none
def ug_2 (x : ug_T) (pc : Nat) (l st : List ug_T) : Option (List ug_Q) := match st with
  | _ :: _ :: st => some [(pc, l, x :: st)]
  | _ => none
noncomputable def ug_ld (r pc : Nat) (l st : List ug_T) : Option (List ug_Q) := match hc_nth l r with
  | some a => some [(pc, l, a :: st)]
  | none => none
def ug_si (r pc : Nat) (l st : List ug_T) : Option (List ug_Q) := match st with
  | _ :: st => some [(pc, l.set r ug_z, st)]
  | [] => none
def ug_sa (r pc : Nat) (l st : List ug_T) : Option (List ug_Q) := match st with
  | a :: st => some [(pc, l.set r a, st)]
  | [] => none
def ug_sl (r pc : Nat) (l st : List ug_T) : Option (List ug_Q) := match st with
  | _ :: st => some [(pc, (l.set r ug_j).set (r + 1) ug_d, st)]
  | [] => none
def ug_inc (r pc : Nat) (l st : List ug_T) : Option (List ug_Q) := some [(pc, l.set r ug_z, st)]
def ug_dup (pc : Nat) (l st : List ug_T) : Option (List ug_Q) := match st with
  | a :: st => some [(pc, l, a :: a :: st)]
  | [] => none
def ug_dup2 (pc : Nat) (l st : List ug_T) : Option (List ug_Q) := match st with
  | a :: b :: st => some [(pc, l, a :: b :: a :: b :: st)]
  | _ => none
def ug_if1 (r pc : Nat) (l st : List ug_T) : Option (List ug_Q) := match st with
  | _ :: st => some [(r, l, st), (pc, l, st)]
  | [] => none
def ug_if2 (r pc : Nat) (l st : List ug_T) : Option (List ug_Q) := match st with
  | _ :: _ :: st => some [(r, l, st), (pc, l, st)]
  | _ => none
def ug_go (r : Nat) (l st : List ug_T) : Option (List ug_Q) := some [(r, l, st)]
def ug_tab (dflt : Int) (offs : Array Int) (pc : Nat) (l st : List ug_T) : Option (List ug_Q) := match st with
  | _ :: st => some ((dflt :: offs.toList).map (fun o => (((pc : Int) + o).toNat, l, st)))
  | [] => none
noncomputable def ug_gf (r2 : Nat) (xs : List Nat) (pc : Nat) (l st : List ug_T) : Option (List ug_Q) := match st with
  | some (.inl m) :: st => match m.all (fun G => ug_sub (ug_F G r2) xs) with
    | true => some [(pc, l, some (.inl xs) :: st)]
    | false => none
  | _ => none
noncomputable def ug_pf (W r2 : Nat) (pc : Nat) (l st : List ug_T) : Option (List ug_Q) := match st with
  | some (.inl x) :: some (.inl m) :: st => match m.all (fun G => ug_sub x (ug_F G r2) && Nat.testBit W (ug_o G r2)) with
    | true => some [(pc, l, st)]
    | false => none
  | _ => none
noncomputable def ug_al (x : ug_T) (pc : Nat) (l st : List ug_T) : Option (List ug_Q) := match st with
  | _ :: some (.inl m) :: st => match m.all (fun G => ug_le (ug_E G) x) with
    | true => some [(pc, l, x :: st)]
    | false => none
  | _ => none
noncomputable def ug_as (W : Nat) (x : ug_T) (pc : Nat) (l st : List ug_T) : Option (List ug_Q) := match st with
  | _ :: _ :: some (.inl m) :: st => match m.all (fun G => ug_le x (ug_E G) && Nat.testBit W G) with
    | true => some [(pc, l, st)]
    | false => none
  | _ => none
noncomputable def ug_cp (W : Nat) (pc : Nat) (l st : List ug_T) : Option (List ug_Q) := match st with
  | _ :: _ :: some (.inl m) :: _ :: some (.inl m0) :: st => match m.all (fun G => m0.all (fun G0 => ug_le (ug_E G0) (ug_E G)) && Nat.testBit W G) with
    | true => some [(pc, l, st)]
    | false => none
  | _ => none
def ug_str (r1 pc : Nat) (l st : List ug_T) : Option (List ug_Q) := match r1 with
  | 0 => ug_1 ug_z pc l st
  | _ => ug_2 ug_z pc l st
noncomputable def ug_pop (na : Nat) : List ug_T → List ug_T → Option (List ug_T × List ug_T) := Nat.rec (motive := fun _ => List ug_T → List ug_T → Option (List ug_T × List ug_T)) (fun st acc => some (acc, st)) (fun _ ih st acc => match st with
  | [] => none
  | v :: st => ih st (v :: acc)) na
def ug_app (r : Option ug_T) (st : List ug_T) : List ug_T := match r with
  | none => st
  | some v => v :: st
noncomputable def ug_fit (C : Nat → Option ug_X) (W k x : Nat) (as rest : List ug_T) (pc : Nat) (l : List ug_T) : Option (List ug_Q) := match C x with
  | none => none
  | some X => match Nat.beq X.1 k && (ug_leL as X.2.1 && ug_wle X.2.2.2.1 W) with
    | true => some [(pc, l, ug_app X.2.2.1 rest)]
    | false => none
noncomputable def ug_inv0 (C : Nat → Option ug_X) (pg : List (List (Option hc_M))) (W k x pc : Nat) (l st : List ug_T) : Option (List ug_Q) := match hc_get pg k with
  | none => none
  | some e => match ug_pop e.2.2.2.2.2.1 st [] with
    | some (as, a :: rest) => ug_fit C W k x (a :: as) rest pc l
    | _ => none
noncomputable def ug_inv2 (C : Nat → Option ug_X) (pg : List (List (Option hc_M))) (W k x pc : Nat) (l st : List ug_T) : Option (List ug_Q) := match hc_get pg k with
  | none => none
  | some e => match ug_pop e.2.2.2.2.2.1 st [] with
    | some (as, rest) => ug_fit C W k x as rest pc l
    | none => none
noncomputable def ug_iv (C : Nat → Option ug_X) (pg : List (List (Option hc_M))) (W r1 r2 x pc : Nat) (l st : List ug_T) : Option (List ug_Q) := match r2 with
  | 7 => ug_str r1 pc l st
  | _ => ug_inv0 C pg W r1 x pc l st
noncomputable def ug_is (C : Nat → Option ug_X) (pg : List (List (Option hc_M))) (W r1 r2 x pc : Nat) (l st : List ug_T) : Option (List ug_Q) := match r2 with
  | 8 => ug_cp W pc l st
  | _ => ug_inv2 C pg W r1 x pc l st
def ug_rv (R : Option ug_T) (st : List ug_T) : Option (List ug_Q) := match st with
  | [a] => match R with
    | some b => match ug_le a b with
      | true => some []
      | false => none
    | none => none
  | _ => none
def ug_rn (R : Option ug_T) (st : List ug_T) : Option (List ug_Q) := match st with
  | [] => match R with
    | none => some []
    | some _ => none
  | _ => none
theorem ugs_iconst {W : Nat} {R : Option ug_T} {pc n c s : Nat} {l st : List Value} {al ast : List ug_T} {h : hc_H} {o : hc_S ⊕ Option Value} {qs : List ug_Q} {r1 : Nat} (e : hi_iconst r1 pc l st n h c s = some o) (hl : ug_L al l) (hs : ug_L ast st) (hh : ug_H h) (ha : ug_p ug_z (pc + 1) al ast = some qs) : ug_O W R qs h o := by
  cases e
  cases ha
  exact ug_O.l rfl hl (ug_L.cons True.intro hs) hh ug_W.rfl
theorem ugs_bipush {W : Nat} {R : Option ug_T} {pc n c s : Nat} {l st : List Value} {al ast : List ug_T} {h : hc_H} {o : hc_S ⊕ Option Value} {qs : List ug_Q} {r1 : Nat} (e : hi_bipush r1 pc l st n h c s = some o) (hl : ug_L al l) (hs : ug_L ast st) (hh : ug_H h) (ha : ug_p ug_z (pc + 2) al ast = some qs) : ug_O W R qs h o := by
  cases e
  cases ha
  exact ug_O.l rfl hl (ug_L.cons True.intro hs) hh ug_W.rfl
theorem ugs_sipush {W : Nat} {R : Option ug_T} {pc n c s : Nat} {l st : List Value} {al ast : List ug_T} {h : hc_H} {o : hc_S ⊕ Option Value} {qs : List ug_Q} {r1 : Nat} (e : hi_sipush r1 pc l st n h c s = some o) (hl : ug_L al l) (hs : ug_L ast st) (hh : ug_H h) (ha : ug_p ug_z (pc + 3) al ast = some qs) : ug_O W R qs h o := by
  cases e
  cases ha
  exact ug_O.l rfl hl (ug_L.cons True.intro hs) hh ug_W.rfl
theorem ugs_ldc_w {W : Nat} {R : Option ug_T} {pc n c s : Nat} {l st : List Value} {al ast : List ug_T} {h : hc_H} {o : hc_S ⊕ Option Value} {qs : List ug_Q} {r1 : Nat} (e : hi_ldc_w r1 pc l st n h c s = some o) (hl : ug_L al l) (hs : ug_L ast st) (hh : ug_H h) (ha : ug_p ug_z (pc + 3) al ast = some qs) : ug_O W R qs h o := by
  cases e
  cases ha
  exact ug_O.l rfl hl (ug_L.cons True.intro hs) hh ug_W.rfl
theorem ugs_lconst {W : Nat} {R : Option ug_T} {pc n c s : Nat} {l st : List Value} {al ast : List ug_T} {h : hc_H} {o : hc_S ⊕ Option Value} {qs : List ug_Q} {r1 : Nat} (e : hi_lconst r1 pc l st n h c s = some o) (hl : ug_L al l) (hs : ug_L ast st) (hh : ug_H h) (ha : ug_p ug_j (pc + 1) al ast = some qs) : ug_O W R qs h o := by
  cases e
  cases ha
  exact ug_O.l rfl hl (ug_L.cons True.intro hs) hh ug_W.rfl
theorem ugs_ldc2_w {W : Nat} {R : Option ug_T} {pc n c s : Nat} {l st : List Value} {al ast : List ug_T} {h : hc_H} {o : hc_S ⊕ Option Value} {qs : List ug_Q} {r1 : Nat} (e : hi_ldc2_w r1 pc l st n h c s = some o) (hl : ug_L al l) (hs : ug_L ast st) (hh : ug_H h) (ha : ug_p ug_j (pc + 3) al ast = some qs) : ug_O W R qs h o := by
  cases e
  cases ha
  exact ug_O.l rfl hl (ug_L.cons True.intro hs) hh ug_W.rfl
theorem ugs_ldc {W : Nat} {R : Option ug_T} {pc n c s : Nat} {l st : List Value} {al ast : List ug_T} {h : hc_H} {o : hc_S ⊕ Option Value} {qs : List ug_Q} {r1 r2 : Nat} (e : hi_ldc r1 r2 pc l st n h c s = some o) (hl : ug_L al l) (hs : ug_L ast st) (hh : ug_H h) (ha : ug_p ug_z (pc + 2) al ast = some qs) : ug_O W R qs h o := by
  unfold hi_ldc at e
  split at e
  · cases e
    cases ha
    exact ug_O.l rfl hl (ug_L.cons True.intro hs) hh ug_W.rfl
  · cases e
    cases ha
    exact ug_O.l rfl hl (ug_L.cons True.intro hs) hh ug_W.rfl
theorem ugs_iload_n {W : Nat} {R : Option ug_T} {pc n c s : Nat} {l st : List Value} {al ast : List ug_T} {h : hc_H} {o : hc_S ⊕ Option Value} {qs : List ug_Q} {r1 : Nat} (e : hi_iload_n r1 pc l st n h c s = some o) (hl : ug_L al l) (hs : ug_L ast st) (hh : ug_H h) (ha : ug_p ug_z (pc + 1) al ast = some qs) : ug_O W R qs h o := by
  unfold hi_iload_n at e
  split at e
  · cases e
    cases ha
    exact ug_O.l rfl hl (ug_L.cons True.intro hs) hh ug_W.rfl
  · cases e
    cases ha
    exact ug_O.l rfl hl (ug_L.cons True.intro hs) hh ug_W.rfl
  · cases e
theorem ugs_iload {W : Nat} {R : Option ug_T} {pc n c s : Nat} {l st : List Value} {al ast : List ug_T} {h : hc_H} {o : hc_S ⊕ Option Value} {qs : List ug_Q} {r1 : Nat} (e : hi_iload r1 pc l st n h c s = some o) (hl : ug_L al l) (hs : ug_L ast st) (hh : ug_H h) (ha : ug_p ug_z (pc + 2) al ast = some qs) : ug_O W R qs h o := by
  unfold hi_iload at e
  split at e
  · cases e
    cases ha
    exact ug_O.l rfl hl (ug_L.cons True.intro hs) hh ug_W.rfl
  · cases e
    cases ha
    exact ug_O.l rfl hl (ug_L.cons True.intro hs) hh ug_W.rfl
  · cases e
theorem ugs_lload_n {W : Nat} {R : Option ug_T} {pc n c s : Nat} {l st : List Value} {al ast : List ug_T} {h : hc_H} {o : hc_S ⊕ Option Value} {qs : List ug_Q} {r1 : Nat} (e : hi_lload_n r1 pc l st n h c s = some o) (hl : ug_L al l) (hs : ug_L ast st) (hh : ug_H h) (ha : ug_p ug_j (pc + 1) al ast = some qs) : ug_O W R qs h o := by
  unfold hi_lload_n at e
  split at e
  · cases e
    cases ha
    exact ug_O.l rfl hl (ug_L.cons True.intro hs) hh ug_W.rfl
  · cases e
theorem ugs_lload {W : Nat} {R : Option ug_T} {pc n c s : Nat} {l st : List Value} {al ast : List ug_T} {h : hc_H} {o : hc_S ⊕ Option Value} {qs : List ug_Q} {r1 : Nat} (e : hi_lload r1 pc l st n h c s = some o) (hl : ug_L al l) (hs : ug_L ast st) (hh : ug_H h) (ha : ug_p ug_j (pc + 2) al ast = some qs) : ug_O W R qs h o := by
  unfold hi_lload at e
  split at e
  · cases e
    cases ha
    exact ug_O.l rfl hl (ug_L.cons True.intro hs) hh ug_W.rfl
  · cases e
theorem ugs_aload_n {W : Nat} {R : Option ug_T} {pc n c s : Nat} {l st : List Value} {al ast : List ug_T} {h : hc_H} {o : hc_S ⊕ Option Value} {qs : List ug_Q} {r1 : Nat} (e : hi_aload_n r1 pc l st n h c s = some o) (hl : ug_L al l) (hs : ug_L ast st) (hh : ug_H h) (ha : ug_ld r1 (pc + 1) al ast = some qs) : ug_O W R qs h o := by
  unfold hi_aload_n at e
  split at e
  next x hx =>
    obtain ⟨a, ea, hv⟩ := hl.nth hx
    unfold ug_ld at ha
    rw [ea] at ha
    cases e
    cases ha
    exact ug_O.l rfl hl (ug_L.cons hv hs) hh ug_W.rfl
  · cases e
theorem ugs_aload {W : Nat} {R : Option ug_T} {pc n c s : Nat} {l st : List Value} {al ast : List ug_T} {h : hc_H} {o : hc_S ⊕ Option Value} {qs : List ug_Q} {r1 : Nat} (e : hi_aload r1 pc l st n h c s = some o) (hl : ug_L al l) (hs : ug_L ast st) (hh : ug_H h) (ha : ug_ld r1 (pc + 2) al ast = some qs) : ug_O W R qs h o := by
  unfold hi_aload at e
  split at e
  next x hx =>
    obtain ⟨a, ea, hv⟩ := hl.nth hx
    unfold ug_ld at ha
    rw [ea] at ha
    cases e
    cases ha
    exact ug_O.l rfl hl (ug_L.cons hv hs) hh ug_W.rfl
  · cases e
theorem ugs_istore_n {W : Nat} {R : Option ug_T} {pc n c s : Nat} {l st : List Value} {al ast : List ug_T} {h : hc_H} {o : hc_S ⊕ Option Value} {qs : List ug_Q} {r1 : Nat} (e : hi_istore_n r1 pc l st n h c s = some o) (hl : ug_L al l) (hs : ug_L ast st) (hh : ug_H h) (ha : ug_si r1 (pc + 1) al ast = some qs) : ug_O W R qs h o := by
  unfold hi_istore_n at e
  split at e
  · split at e
    next l2 h2 =>
      obtain ⟨-, rfl, -⟩ := hc_s1_ok h2
      obtain ⟨a1, as1, rfl, hv1, hs1⟩ := hs.un
      cases e
      cases ha
      exact ug_O.l rfl (hl.set True.intro) hs1 hh ug_W.rfl
    · cases e
  · split at e
    next l2 h2 =>
      obtain ⟨-, rfl, -⟩ := hc_s1_ok h2
      obtain ⟨a1, as1, rfl, hv1, hs1⟩ := hs.un
      cases e
      cases ha
      exact ug_O.l rfl (hl.set True.intro) hs1 hh ug_W.rfl
    · cases e
  · cases e
theorem ugs_istore {W : Nat} {R : Option ug_T} {pc n c s : Nat} {l st : List Value} {al ast : List ug_T} {h : hc_H} {o : hc_S ⊕ Option Value} {qs : List ug_Q} {r1 : Nat} (e : hi_istore r1 pc l st n h c s = some o) (hl : ug_L al l) (hs : ug_L ast st) (hh : ug_H h) (ha : ug_si r1 (pc + 2) al ast = some qs) : ug_O W R qs h o := by
  unfold hi_istore at e
  split at e
  · split at e
    next l2 h2 =>
      obtain ⟨-, rfl, -⟩ := hc_s1_ok h2
      obtain ⟨a1, as1, rfl, hv1, hs1⟩ := hs.un
      cases e
      cases ha
      exact ug_O.l rfl (hl.set True.intro) hs1 hh ug_W.rfl
    · cases e
  · split at e
    next l2 h2 =>
      obtain ⟨-, rfl, -⟩ := hc_s1_ok h2
      obtain ⟨a1, as1, rfl, hv1, hs1⟩ := hs.un
      cases e
      cases ha
      exact ug_O.l rfl (hl.set True.intro) hs1 hh ug_W.rfl
    · cases e
  · cases e
theorem ugs_astore_n {W : Nat} {R : Option ug_T} {pc n c s : Nat} {l st : List Value} {al ast : List ug_T} {h : hc_H} {o : hc_S ⊕ Option Value} {qs : List ug_Q} {r1 : Nat} (e : hi_astore_n r1 pc l st n h c s = some o) (hl : ug_L al l) (hs : ug_L ast st) (hh : ug_H h) (ha : ug_sa r1 (pc + 1) al ast = some qs) : ug_O W R qs h o := by
  unfold hi_astore_n at e
  split at e
  · split at e
    next l2 h2 =>
      obtain ⟨-, rfl, -⟩ := hc_s1_ok h2
      obtain ⟨a1, as1, rfl, hv1, hs1⟩ := hs.un
      cases e
      cases ha
      exact ug_O.l rfl (hl.set hv1) hs1 hh ug_W.rfl
    · cases e
  · cases e
theorem ugs_astore {W : Nat} {R : Option ug_T} {pc n c s : Nat} {l st : List Value} {al ast : List ug_T} {h : hc_H} {o : hc_S ⊕ Option Value} {qs : List ug_Q} {r1 : Nat} (e : hi_astore r1 pc l st n h c s = some o) (hl : ug_L al l) (hs : ug_L ast st) (hh : ug_H h) (ha : ug_sa r1 (pc + 2) al ast = some qs) : ug_O W R qs h o := by
  unfold hi_astore at e
  split at e
  · split at e
    next l2 h2 =>
      obtain ⟨-, rfl, -⟩ := hc_s1_ok h2
      obtain ⟨a1, as1, rfl, hv1, hs1⟩ := hs.un
      cases e
      cases ha
      exact ug_O.l rfl (hl.set hv1) hs1 hh ug_W.rfl
    · cases e
  · cases e
theorem ugs_lstore_n {W : Nat} {R : Option ug_T} {pc n c s : Nat} {l st : List Value} {al ast : List ug_T} {h : hc_H} {o : hc_S ⊕ Option Value} {qs : List ug_Q} {r1 : Nat} (e : hi_lstore_n r1 pc l st n h c s = some o) (hl : ug_L al l) (hs : ug_L ast st) (hh : ug_H h) (ha : ug_sl r1 (pc + 1) al ast = some qs) : ug_O W R qs h o := by
  unfold hi_lstore_n at e
  split at e
  next x st2 =>
    split at e
    next l2 h2 =>
      obtain ⟨-, rfl, -⟩ := hc_s2_ok h2
      obtain ⟨a1, as1, rfl, hv1, hs1⟩ := hs.un
      cases e
      cases ha
      exact ug_O.l rfl ((hl.set (a := ug_j) (v := .long x) True.intro).set (a := ug_d) (v := .double 0) True.intro) hs1 hh ug_W.rfl
    · cases e
  · cases e
theorem ugs_lstore {W : Nat} {R : Option ug_T} {pc n c s : Nat} {l st : List Value} {al ast : List ug_T} {h : hc_H} {o : hc_S ⊕ Option Value} {qs : List ug_Q} {r1 : Nat} (e : hi_lstore r1 pc l st n h c s = some o) (hl : ug_L al l) (hs : ug_L ast st) (hh : ug_H h) (ha : ug_sl r1 (pc + 2) al ast = some qs) : ug_O W R qs h o := by
  unfold hi_lstore at e
  split at e
  next x st2 =>
    split at e
    next l2 h2 =>
      obtain ⟨-, rfl, -⟩ := hc_s2_ok h2
      obtain ⟨a1, as1, rfl, hv1, hs1⟩ := hs.un
      cases e
      cases ha
      exact ug_O.l rfl ((hl.set (a := ug_j) (v := .long x) True.intro).set (a := ug_d) (v := .double 0) True.intro) hs1 hh ug_W.rfl
    · cases e
  · cases e
theorem ugs_iinc {W : Nat} {R : Option ug_T} {pc n c s : Nat} {l st : List Value} {al ast : List ug_T} {h : hc_H} {o : hc_S ⊕ Option Value} {qs : List ug_Q} {r1 r2 : Nat} (e : hi_iinc r1 r2 pc l st n h c s = some o) (hl : ug_L al l) (hs : ug_L ast st) (hh : ug_H h) (ha : ug_inc r1 (pc + 3) al ast = some qs) : ug_O W R qs h o := by
  unfold hi_iinc at e
  split at e
  · split at e
    next l2 h2 =>
      obtain ⟨-, rfl, -⟩ := hc_s1_ok h2
      cases e
      cases ha
      exact ug_O.l rfl (hl.set True.intro) hs hh ug_W.rfl
    · cases e
  · cases e
theorem ugs_iadd {W : Nat} {R : Option ug_T} {pc n c s : Nat} {l st : List Value} {al ast : List ug_T} {h : hc_H} {o : hc_S ⊕ Option Value} {qs : List ug_Q} (e : hi_iadd pc l st n h c s = some o) (hl : ug_L al l) (hs : ug_L ast st) (hh : ug_H h) (ha : ug_2 ug_z (pc + 1) al ast = some qs) : ug_O W R qs h o := by
  unfold hi_iadd at e
  split at e
  · obtain ⟨a1, as1, rfl, hv1, hs1⟩ := hs.un
    obtain ⟨a2, as2, rfl, hv2, hs2⟩ := hs1.un
    cases e
    cases ha
    exact ug_O.l rfl hl (ug_L.cons True.intro hs2) hh ug_W.rfl
  · cases e
theorem ugs_isub {W : Nat} {R : Option ug_T} {pc n c s : Nat} {l st : List Value} {al ast : List ug_T} {h : hc_H} {o : hc_S ⊕ Option Value} {qs : List ug_Q} (e : hi_isub pc l st n h c s = some o) (hl : ug_L al l) (hs : ug_L ast st) (hh : ug_H h) (ha : ug_2 ug_z (pc + 1) al ast = some qs) : ug_O W R qs h o := by
  unfold hi_isub at e
  split at e
  · obtain ⟨a1, as1, rfl, hv1, hs1⟩ := hs.un
    obtain ⟨a2, as2, rfl, hv2, hs2⟩ := hs1.un
    cases e
    cases ha
    exact ug_O.l rfl hl (ug_L.cons True.intro hs2) hh ug_W.rfl
  · cases e
theorem ugs_imul {W : Nat} {R : Option ug_T} {pc n c s : Nat} {l st : List Value} {al ast : List ug_T} {h : hc_H} {o : hc_S ⊕ Option Value} {qs : List ug_Q} (e : hi_imul pc l st n h c s = some o) (hl : ug_L al l) (hs : ug_L ast st) (hh : ug_H h) (ha : ug_2 ug_z (pc + 1) al ast = some qs) : ug_O W R qs h o := by
  unfold hi_imul at e
  split at e
  · obtain ⟨a1, as1, rfl, hv1, hs1⟩ := hs.un
    obtain ⟨a2, as2, rfl, hv2, hs2⟩ := hs1.un
    cases e
    cases ha
    exact ug_O.l rfl hl (ug_L.cons True.intro hs2) hh ug_W.rfl
  · cases e
theorem ugs_iand {W : Nat} {R : Option ug_T} {pc n c s : Nat} {l st : List Value} {al ast : List ug_T} {h : hc_H} {o : hc_S ⊕ Option Value} {qs : List ug_Q} (e : hi_iand pc l st n h c s = some o) (hl : ug_L al l) (hs : ug_L ast st) (hh : ug_H h) (ha : ug_2 ug_z (pc + 1) al ast = some qs) : ug_O W R qs h o := by
  unfold hi_iand at e
  split at e
  · obtain ⟨a1, as1, rfl, hv1, hs1⟩ := hs.un
    obtain ⟨a2, as2, rfl, hv2, hs2⟩ := hs1.un
    cases e
    cases ha
    exact ug_O.l rfl hl (ug_L.cons True.intro hs2) hh ug_W.rfl
  · cases e
theorem ugs_ior {W : Nat} {R : Option ug_T} {pc n c s : Nat} {l st : List Value} {al ast : List ug_T} {h : hc_H} {o : hc_S ⊕ Option Value} {qs : List ug_Q} (e : hi_ior pc l st n h c s = some o) (hl : ug_L al l) (hs : ug_L ast st) (hh : ug_H h) (ha : ug_2 ug_z (pc + 1) al ast = some qs) : ug_O W R qs h o := by
  unfold hi_ior at e
  split at e
  · obtain ⟨a1, as1, rfl, hv1, hs1⟩ := hs.un
    obtain ⟨a2, as2, rfl, hv2, hs2⟩ := hs1.un
    cases e
    cases ha
    exact ug_O.l rfl hl (ug_L.cons True.intro hs2) hh ug_W.rfl
  · cases e
theorem ugs_ixor {W : Nat} {R : Option ug_T} {pc n c s : Nat} {l st : List Value} {al ast : List ug_T} {h : hc_H} {o : hc_S ⊕ Option Value} {qs : List ug_Q} (e : hi_ixor pc l st n h c s = some o) (hl : ug_L al l) (hs : ug_L ast st) (hh : ug_H h) (ha : ug_2 ug_z (pc + 1) al ast = some qs) : ug_O W R qs h o := by
  unfold hi_ixor at e
  split at e
  · obtain ⟨a1, as1, rfl, hv1, hs1⟩ := hs.un
    obtain ⟨a2, as2, rfl, hv2, hs2⟩ := hs1.un
    cases e
    cases ha
    exact ug_O.l rfl hl (ug_L.cons True.intro hs2) hh ug_W.rfl
  · cases e
theorem ugs_ishl {W : Nat} {R : Option ug_T} {pc n c s : Nat} {l st : List Value} {al ast : List ug_T} {h : hc_H} {o : hc_S ⊕ Option Value} {qs : List ug_Q} (e : hi_ishl pc l st n h c s = some o) (hl : ug_L al l) (hs : ug_L ast st) (hh : ug_H h) (ha : ug_2 ug_z (pc + 1) al ast = some qs) : ug_O W R qs h o := by
  unfold hi_ishl at e
  split at e
  · obtain ⟨a1, as1, rfl, hv1, hs1⟩ := hs.un
    obtain ⟨a2, as2, rfl, hv2, hs2⟩ := hs1.un
    cases e
    cases ha
    exact ug_O.l rfl hl (ug_L.cons True.intro hs2) hh ug_W.rfl
  · cases e
theorem ugs_ladd {W : Nat} {R : Option ug_T} {pc n c s : Nat} {l st : List Value} {al ast : List ug_T} {h : hc_H} {o : hc_S ⊕ Option Value} {qs : List ug_Q} (e : hi_ladd pc l st n h c s = some o) (hl : ug_L al l) (hs : ug_L ast st) (hh : ug_H h) (ha : ug_2 ug_j (pc + 1) al ast = some qs) : ug_O W R qs h o := by
  unfold hi_ladd at e
  split at e
  · obtain ⟨a1, as1, rfl, hv1, hs1⟩ := hs.un
    obtain ⟨a2, as2, rfl, hv2, hs2⟩ := hs1.un
    cases e
    cases ha
    exact ug_O.l rfl hl (ug_L.cons True.intro hs2) hh ug_W.rfl
  · cases e
theorem ugs_lsub {W : Nat} {R : Option ug_T} {pc n c s : Nat} {l st : List Value} {al ast : List ug_T} {h : hc_H} {o : hc_S ⊕ Option Value} {qs : List ug_Q} (e : hi_lsub pc l st n h c s = some o) (hl : ug_L al l) (hs : ug_L ast st) (hh : ug_H h) (ha : ug_2 ug_j (pc + 1) al ast = some qs) : ug_O W R qs h o := by
  unfold hi_lsub at e
  split at e
  · obtain ⟨a1, as1, rfl, hv1, hs1⟩ := hs.un
    obtain ⟨a2, as2, rfl, hv2, hs2⟩ := hs1.un
    cases e
    cases ha
    exact ug_O.l rfl hl (ug_L.cons True.intro hs2) hh ug_W.rfl
  · cases e
theorem ugs_lmul {W : Nat} {R : Option ug_T} {pc n c s : Nat} {l st : List Value} {al ast : List ug_T} {h : hc_H} {o : hc_S ⊕ Option Value} {qs : List ug_Q} (e : hi_lmul pc l st n h c s = some o) (hl : ug_L al l) (hs : ug_L ast st) (hh : ug_H h) (ha : ug_2 ug_j (pc + 1) al ast = some qs) : ug_O W R qs h o := by
  unfold hi_lmul at e
  split at e
  · obtain ⟨a1, as1, rfl, hv1, hs1⟩ := hs.un
    obtain ⟨a2, as2, rfl, hv2, hs2⟩ := hs1.un
    cases e
    cases ha
    exact ug_O.l rfl hl (ug_L.cons True.intro hs2) hh ug_W.rfl
  · cases e
theorem ugs_lor {W : Nat} {R : Option ug_T} {pc n c s : Nat} {l st : List Value} {al ast : List ug_T} {h : hc_H} {o : hc_S ⊕ Option Value} {qs : List ug_Q} (e : hi_lor pc l st n h c s = some o) (hl : ug_L al l) (hs : ug_L ast st) (hh : ug_H h) (ha : ug_2 ug_j (pc + 1) al ast = some qs) : ug_O W R qs h o := by
  unfold hi_lor at e
  split at e
  · obtain ⟨a1, as1, rfl, hv1, hs1⟩ := hs.un
    obtain ⟨a2, as2, rfl, hv2, hs2⟩ := hs1.un
    cases e
    cases ha
    exact ug_O.l rfl hl (ug_L.cons True.intro hs2) hh ug_W.rfl
  · cases e
theorem ugs_lshl {W : Nat} {R : Option ug_T} {pc n c s : Nat} {l st : List Value} {al ast : List ug_T} {h : hc_H} {o : hc_S ⊕ Option Value} {qs : List ug_Q} (e : hi_lshl pc l st n h c s = some o) (hl : ug_L al l) (hs : ug_L ast st) (hh : ug_H h) (ha : ug_2 ug_j (pc + 1) al ast = some qs) : ug_O W R qs h o := by
  unfold hi_lshl at e
  split at e
  · obtain ⟨a1, as1, rfl, hv1, hs1⟩ := hs.un
    obtain ⟨a2, as2, rfl, hv2, hs2⟩ := hs1.un
    cases e
    cases ha
    exact ug_O.l rfl hl (ug_L.cons True.intro hs2) hh ug_W.rfl
  · cases e
theorem ugs_lcmp {W : Nat} {R : Option ug_T} {pc n c s : Nat} {l st : List Value} {al ast : List ug_T} {h : hc_H} {o : hc_S ⊕ Option Value} {qs : List ug_Q} (e : hi_lcmp pc l st n h c s = some o) (hl : ug_L al l) (hs : ug_L ast st) (hh : ug_H h) (ha : ug_2 ug_z (pc + 1) al ast = some qs) : ug_O W R qs h o := by
  unfold hi_lcmp at e
  split at e
  · obtain ⟨a1, as1, rfl, hv1, hs1⟩ := hs.un
    obtain ⟨a2, as2, rfl, hv2, hs2⟩ := hs1.un
    cases e
    cases ha
    exact ug_O.l rfl hl (ug_L.cons True.intro hs2) hh ug_W.rfl
  · cases e
theorem ugs_ishr {W : Nat} {R : Option ug_T} {pc n c s : Nat} {l st : List Value} {al ast : List ug_T} {h : hc_H} {o : hc_S ⊕ Option Value} {qs : List ug_Q} (e : hi_ishr pc l st n h c s = some o) (hl : ug_L al l) (hs : ug_L ast st) (hh : ug_H h) (ha : ug_2 ug_z (pc + 1) al ast = some qs) : ug_O W R qs h o := by
  unfold hi_ishr at e
  split at e
  · obtain ⟨a1, as1, rfl, hv1, hs1⟩ := hs.un
    obtain ⟨a2, as2, rfl, hv2, hs2⟩ := hs1.un
    cases e
    cases ha
    exact ug_O.l rfl hl (ug_L.cons True.intro hs2) hh ug_W.rfl
  · obtain ⟨a1, as1, rfl, hv1, hs1⟩ := hs.un
    obtain ⟨a2, as2, rfl, hv2, hs2⟩ := hs1.un
    split at e
    · cases e
      cases ha
      exact ug_O.l rfl hl (ug_L.cons True.intro hs2) hh ug_W.rfl
    · cases e
  · cases e
theorem ugs_iushr {W : Nat} {R : Option ug_T} {pc n c s : Nat} {l st : List Value} {al ast : List ug_T} {h : hc_H} {o : hc_S ⊕ Option Value} {qs : List ug_Q} (e : hi_iushr pc l st n h c s = some o) (hl : ug_L al l) (hs : ug_L ast st) (hh : ug_H h) (ha : ug_2 ug_z (pc + 1) al ast = some qs) : ug_O W R qs h o := by
  unfold hi_iushr at e
  split at e
  · obtain ⟨a1, as1, rfl, hv1, hs1⟩ := hs.un
    obtain ⟨a2, as2, rfl, hv2, hs2⟩ := hs1.un
    cases e
    cases ha
    exact ug_O.l rfl hl (ug_L.cons True.intro hs2) hh ug_W.rfl
  · obtain ⟨a1, as1, rfl, hv1, hs1⟩ := hs.un
    obtain ⟨a2, as2, rfl, hv2, hs2⟩ := hs1.un
    split at e
    · cases e
      cases ha
      exact ug_O.l rfl hl (ug_L.cons True.intro hs2) hh ug_W.rfl
    · cases e
  · cases e
theorem ugs_idiv {W : Nat} {R : Option ug_T} {pc n c s : Nat} {l st : List Value} {al ast : List ug_T} {h : hc_H} {o : hc_S ⊕ Option Value} {qs : List ug_Q} (e : hi_idiv pc l st n h c s = some o) (hl : ug_L al l) (hs : ug_L ast st) (hh : ug_H h) (ha : ug_2 ug_z (pc + 1) al ast = some qs) : ug_O W R qs h o := by
  unfold hi_idiv at e
  split at e
  · obtain ⟨a1, as1, rfl, hv1, hs1⟩ := hs.un
    obtain ⟨a2, as2, rfl, hv2, hs2⟩ := hs1.un
    split at e
    · cases e
    · cases e
      cases ha
      exact ug_O.l rfl hl (ug_L.cons True.intro hs2) hh ug_W.rfl
  · cases e
theorem ugs_irem {W : Nat} {R : Option ug_T} {pc n c s : Nat} {l st : List Value} {al ast : List ug_T} {h : hc_H} {o : hc_S ⊕ Option Value} {qs : List ug_Q} (e : hi_irem pc l st n h c s = some o) (hl : ug_L al l) (hs : ug_L ast st) (hh : ug_H h) (ha : ug_2 ug_z (pc + 1) al ast = some qs) : ug_O W R qs h o := by
  unfold hi_irem at e
  split at e
  · obtain ⟨a1, as1, rfl, hv1, hs1⟩ := hs.un
    obtain ⟨a2, as2, rfl, hv2, hs2⟩ := hs1.un
    split at e
    · cases e
    · cases e
      cases ha
      exact ug_O.l rfl hl (ug_L.cons True.intro hs2) hh ug_W.rfl
  · cases e
theorem ugs_i2l {W : Nat} {R : Option ug_T} {pc n c s : Nat} {l st : List Value} {al ast : List ug_T} {h : hc_H} {o : hc_S ⊕ Option Value} {qs : List ug_Q} (e : hi_i2l pc l st n h c s = some o) (hl : ug_L al l) (hs : ug_L ast st) (hh : ug_H h) (ha : ug_1 ug_j (pc + 1) al ast = some qs) : ug_O W R qs h o := by
  unfold hi_i2l at e
  split at e
  · obtain ⟨a1, as1, rfl, hv1, hs1⟩ := hs.un
    cases e
    cases ha
    exact ug_O.l rfl hl (ug_L.cons True.intro hs1) hh ug_W.rfl
  · cases e
theorem ugs_l2i {W : Nat} {R : Option ug_T} {pc n c s : Nat} {l st : List Value} {al ast : List ug_T} {h : hc_H} {o : hc_S ⊕ Option Value} {qs : List ug_Q} (e : hi_l2i pc l st n h c s = some o) (hl : ug_L al l) (hs : ug_L ast st) (hh : ug_H h) (ha : ug_1 ug_z (pc + 1) al ast = some qs) : ug_O W R qs h o := by
  unfold hi_l2i at e
  split at e
  · obtain ⟨a1, as1, rfl, hv1, hs1⟩ := hs.un
    cases e
    cases ha
    exact ug_O.l rfl hl (ug_L.cons True.intro hs1) hh ug_W.rfl
  · cases e
theorem ugs_i2c {W : Nat} {R : Option ug_T} {pc n c s : Nat} {l st : List Value} {al ast : List ug_T} {h : hc_H} {o : hc_S ⊕ Option Value} {qs : List ug_Q} (e : hi_i2c pc l st n h c s = some o) (hl : ug_L al l) (hs : ug_L ast st) (hh : ug_H h) (ha : ug_1 ug_z (pc + 1) al ast = some qs) : ug_O W R qs h o := by
  unfold hi_i2c at e
  split at e
  · obtain ⟨a1, as1, rfl, hv1, hs1⟩ := hs.un
    cases e
    cases ha
    exact ug_O.l rfl hl (ug_L.cons True.intro hs1) hh ug_W.rfl
  · cases e
theorem ugs_i2b {W : Nat} {R : Option ug_T} {pc n c s : Nat} {l st : List Value} {al ast : List ug_T} {h : hc_H} {o : hc_S ⊕ Option Value} {qs : List ug_Q} (e : hi_i2b pc l st n h c s = some o) (hl : ug_L al l) (hs : ug_L ast st) (hh : ug_H h) (ha : ug_1 ug_z (pc + 1) al ast = some qs) : ug_O W R qs h o := by
  unfold hi_i2b at e
  split at e
  · obtain ⟨a1, as1, rfl, hv1, hs1⟩ := hs.un
    cases e
    cases ha
    exact ug_O.l rfl hl (ug_L.cons True.intro hs1) hh ug_W.rfl
  · obtain ⟨a1, as1, rfl, hv1, hs1⟩ := hs.un
    split at e
    · cases e
      cases ha
      exact ug_O.l rfl hl (ug_L.cons True.intro hs1) hh ug_W.rfl
    · cases e
  · cases e
theorem ugs_dup {W : Nat} {R : Option ug_T} {pc n c s : Nat} {l st : List Value} {al ast : List ug_T} {h : hc_H} {o : hc_S ⊕ Option Value} {qs : List ug_Q} (e : hi_dup pc l st n h c s = some o) (hl : ug_L al l) (hs : ug_L ast st) (hh : ug_H h) (ha : ug_dup (pc + 1) al ast = some qs) : ug_O W R qs h o := by
  unfold hi_dup at e
  split at e
  · split at e
    · cases e
    · obtain ⟨a1, as1, rfl, hv1, hs1⟩ := hs.un
      cases e
      cases ha
      exact ug_O.l rfl hl (ug_L.cons hv1 (ug_L.cons hv1 hs1)) hh ug_W.rfl
  · cases e
theorem ugs_pop {W : Nat} {R : Option ug_T} {pc n c s : Nat} {l st : List Value} {al ast : List ug_T} {h : hc_H} {o : hc_S ⊕ Option Value} {qs : List ug_Q} (e : hi_pop pc l st n h c s = some o) (hl : ug_L al l) (hs : ug_L ast st) (hh : ug_H h) (ha : ug_d1 (pc + 1) al ast = some qs) : ug_O W R qs h o := by
  unfold hi_pop at e
  split at e
  · split at e
    · cases e
    · obtain ⟨a1, as1, rfl, hv1, hs1⟩ := hs.un
      cases e
      cases ha
      exact ug_O.l rfl hl hs1 hh ug_W.rfl
  · cases e
theorem ugs_dup2 {W : Nat} {R : Option ug_T} {pc n c s : Nat} {l st : List Value} {al ast : List ug_T} {h : hc_H} {o : hc_S ⊕ Option Value} {qs : List ug_Q} (e : hi_dup2 pc l st n h c s = some o) (hl : ug_L al l) (hs : ug_L ast st) (hh : ug_H h) (ha : ug_dup2 (pc + 1) al ast = some qs) : ug_O W R qs h o := by
  unfold hi_dup2 at e
  split at e
  · split at e
    · cases e
    · obtain ⟨a1, as1, rfl, hv1, hs1⟩ := hs.un
      obtain ⟨a2, as2, rfl, hv2, hs2⟩ := hs1.un
      cases e
      cases ha
      exact ug_O.l rfl hl (ug_L.cons hv1 (ug_L.cons hv2 (ug_L.cons hv1 (ug_L.cons hv2 hs2)))) hh ug_W.rfl
  · cases e
theorem ugs_ifCond {W : Nat} {R : Option ug_T} {pc n c s : Nat} {l st : List Value} {al ast : List ug_T} {h : hc_H} {o : hc_S ⊕ Option Value} {qs : List ug_Q} {r1 : Nat} {LS : Nat × (Nat → Option Int32)} {op : Jvm.ClassFile.Cond} (e : hi_ifCond LS op r1 pc l st n h c s = some o) (hl : ug_L al l) (hs : ug_L ast st) (hh : ug_H h) (ha : ug_if1 r1 (pc + 3) al ast = some qs) : ug_O W R qs h o := by
  unfold hi_ifCond at e
  split at e
  · obtain ⟨a1, as1, rfl, hv1, hs1⟩ := hs.un
    split at e
    · cases e
      cases ha
      exact ug_O.m _ List.mem_cons_self rfl hl hs1 hh ug_W.rfl
    · cases e
      cases ha
      exact ug_O.m _ (List.mem_cons_of_mem _ List.mem_cons_self) rfl hl hs1 hh ug_W.rfl
  · obtain ⟨a1, as1, rfl, hv1, hs1⟩ := hs.un
    split at e
    · split at e
      · cases e
      · split at e
        · cases e
          cases ha
          exact ug_O.m _ (List.mem_cons_of_mem _ List.mem_cons_self) rfl hl hs1 hh ug_W.rfl
        · cases e
    · cases e
  · cases e
theorem ugs_if_icmp {W : Nat} {R : Option ug_T} {pc n c s : Nat} {l st : List Value} {al ast : List ug_T} {h : hc_H} {o : hc_S ⊕ Option Value} {qs : List ug_Q} {r1 : Nat} {op : Jvm.ClassFile.Cond} (e : hi_if_icmp op r1 pc l st n h c s = some o) (hl : ug_L al l) (hs : ug_L ast st) (hh : ug_H h) (ha : ug_if2 r1 (pc + 3) al ast = some qs) : ug_O W R qs h o := by
  unfold hi_if_icmp at e
  split at e
  · obtain ⟨a1, as1, rfl, hv1, hs1⟩ := hs.un
    obtain ⟨a2, as2, rfl, hv2, hs2⟩ := hs1.un
    split at e
    · cases e
      cases ha
      exact ug_O.m _ List.mem_cons_self rfl hl hs2 hh ug_W.rfl
    · cases e
      cases ha
      exact ug_O.m _ (List.mem_cons_of_mem _ List.mem_cons_self) rfl hl hs2 hh ug_W.rfl
  · cases e
theorem ugs_goto {W : Nat} {R : Option ug_T} {pc n c s : Nat} {l st : List Value} {al ast : List ug_T} {h : hc_H} {o : hc_S ⊕ Option Value} {qs : List ug_Q} {r1 : Nat} (e : hi_goto r1 pc l st n h c s = some o) (hl : ug_L al l) (hs : ug_L ast st) (hh : ug_H h) (ha : ug_go r1 al ast = some qs) : ug_O W R qs h o := by
  cases e
  cases ha
  exact ug_O.l rfl hl hs hh ug_W.rfl
theorem ugs_tableswitch {W : Nat} {R : Option ug_T} {pc n c s : Nat} {l st : List Value} {al ast : List ug_T} {h : hc_H} {o : hc_S ⊕ Option Value} {qs : List ug_Q} {LS : Nat × (Nat → Option Int32)} {dflt lo hi : Int} {offs : Array Int} (e : hi_tableswitch LS dflt lo hi offs pc l st n h c s = some o) (hl : ug_L al l) (hs : ug_L ast st) (hh : ug_H h) (ha : ug_tab dflt offs pc al ast = some qs) : ug_O W R qs h o := by
  unfold hi_tableswitch at e
  split at e
  · obtain ⟨a1, as1, rfl, hv1, hs1⟩ := hs.un
    split at e
    · split at e
      · cases e
        cases ha
        exact ug_O.m (((pc : Int) + dflt).toNat, al, as1) (List.mem_map.mpr ⟨dflt, List.mem_cons_self, rfl⟩) rfl hl hs1 hh ug_W.rfl
      · cases e
    · split at e
      · cases e
      next off ho =>
        split at e
        · cases e
          cases ha
          rw [hc_nth_eq] at ho
          exact ug_O.m (((pc : Int) + off).toNat, al, as1) (List.mem_map.mpr ⟨off, List.mem_cons_of_mem _ (List.mem_of_getElem? ho), rfl⟩) rfl hl hs1 hh ug_W.rfl
        · cases e
  · obtain ⟨a1, as1, rfl, hv1, hs1⟩ := hs.un
    split at e
    · cases e
    · split at e
      · cases e
        cases ha
        exact ug_O.m (((pc : Int) + dflt).toNat, al, as1) (List.mem_map.mpr ⟨dflt, List.mem_cons_self, rfl⟩) rfl hl hs1 hh ug_W.rfl
      · cases e
  · cases e
theorem ugs_getfield {W : Nat} {R : Option ug_T} {pc n c s : Nat} {l st : List Value} {al ast : List ug_T} {h : hc_H} {o : hc_S ⊕ Option Value} {qs : List ug_Q} {r1 r2 : Nat} {xs : List Nat} (e : hi_getfield r1 r2 pc l st n h c s = some o) (hl : ug_L al l) (hs : ug_L ast st) (hh : ug_H h) (ha : ug_gf r2 xs (pc + 3) al ast = some qs) : ug_O W R qs h o := by
  unfold hi_getfield at e
  split at e
  · obtain ⟨a1, as1, rfl, hv1, hs1⟩ := hs.un
    split at e
    · cases e
    next fs hfs =>
      have ho := hc_obj_ok hfs
      split at e
      · cases e
      next v hv =>
        unfold ug_gf at ha
        split at ha
        next m st2 he =>
          cases he
          split at ha
          next hm =>
            cases e
            cases ha
            have q := (hh _ hv1.1).1 _ _ ho _ _ hv
            exact ug_O.l rfl hl (ug_L.cons (q.le (List.all_eq_true.mp hm _ hv1.2)) hs1) hh ug_W.rfl
          · cases ha
        · cases ha
  · cases e
theorem ugs_putfield {W : Nat} {R : Option ug_T} {pc n c s : Nat} {l st : List Value} {al ast : List ug_T} {h : hc_H} {o : hc_S ⊕ Option Value} {qs : List ug_Q} {r1 r2 : Nat} (e : hi_putfield r1 r2 pc l st n h c s = some o) (hl : ug_L al l) (hs : ug_L ast st) (hh : ug_H h) (ha : ug_pf W r2 (pc + 3) al ast = some qs) : ug_O W R qs h o := by
  unfold hi_putfield at e
  split at e
  · obtain ⟨a1, as1, rfl, hv1, hs1⟩ := hs.un
    obtain ⟨a2, as2, rfl, hv2, hs2⟩ := hs1.un
    split at e
    · cases e
    next fs hfs =>
      have ho := hc_obj_ok hfs
      split at e
      · cases e
      · split at e
        · cases e
        · split at e
          · cases e
          next h2 hp =>
            unfold ug_pf at ha
            split at ha
            next x m st2 he =>
              cases he
              split at ha
              next hm =>
                cases e
                cases ha
                have q := Bool.and_eq_true_iff.mp (List.all_eq_true.mp hm _ hv2.2)
                exact ug_O.l rfl hl hs2 (hh.obj hv2.1 ho hp (hv1.le q.1)) (ug_W.obj ho hp q.2)
              · cases ha
            · cases ha
  · cases e
theorem ugs_ald {W : Nat} {R : Option ug_T} {pc n c s : Nat} {l st : List Value} {al ast : List ug_T} {h : hc_H} {o : hc_S ⊕ Option Value} {qs : List ug_Q} {t : Nat} {x : ug_T} (e : hc_ald t pc l st n h c s = some o) (hl : ug_L al l) (hs : ug_L ast st) (hh : ug_H h) (ha : ug_al x (pc + 1) al ast = some qs) : ug_O W R qs h o := by
  unfold hc_ald at e
  split at e
  · obtain ⟨a1, as1, rfl, hv1, hs1⟩ := hs.un
    obtain ⟨a2, as2, rfl, hv2, hs2⟩ := hs1.un
    split at e
    · cases e
    next a hfa =>
      have ho := hc_arr_ok hfa
      split at e
      · cases e
      next v hv =>
        unfold ug_al at ha
        split at ha
        next m st2 he =>
          cases he
          split at ha
          next hm =>
            cases e
            cases ha
            unfold hc_el at hv
            split at hv
            · cases hv
            · have q := (hh _ hv2.1).2 _ _ ho _ _ hv
              exact ug_O.l rfl hl (ug_L.cons (q.le (List.all_eq_true.mp hm _ hv2.2)) hs2) hh ug_W.rfl
          · cases ha
        · cases ha
  · cases e
theorem ugs_iaload {W : Nat} {R : Option ug_T} {pc n c s : Nat} {l st : List Value} {al ast : List ug_T} {h : hc_H} {o : hc_S ⊕ Option Value} {qs : List ug_Q} {LS : Nat × (Nat → Option Int32)} (e : hi_iaload LS pc l st n h c s = some o) (hl : ug_L al l) (hs : ug_L ast st) (hh : ug_H h) (ha : ug_al ug_z (pc + 1) al ast = some qs) : ug_O W R qs h o := by
  unfold hi_iaload at e
  split at e
  · obtain ⟨a1, as1, rfl, hv1, hs1⟩ := hs.un
    obtain ⟨a2, as2, rfl, hv2, hs2⟩ := hs1.un
    unfold ug_al at ha
    split at ha
    next m st2 he =>
      cases he
      exact absurd hv2 (fun q => q)
    · cases ha
  · exact ugs_ald e hl hs hh ha
theorem ugs_baload {W : Nat} {R : Option ug_T} {pc n c s : Nat} {l st : List Value} {al ast : List ug_T} {h : hc_H} {o : hc_S ⊕ Option Value} {qs : List ug_Q} (e : hi_baload pc l st n h c s = some o) (hl : ug_L al l) (hs : ug_L ast st) (hh : ug_H h) (ha : ug_al ug_z (pc + 1) al ast = some qs) : ug_O W R qs h o := by
  unfold hi_baload at e
  split at e
  next r hr =>
    cases e
    exact ugs_ald hr hl hs hh ha
  · exact ugs_ald e hl hs hh ha
theorem ugs_laload {W : Nat} {R : Option ug_T} {pc n c s : Nat} {l st : List Value} {al ast : List ug_T} {h : hc_H} {o : hc_S ⊕ Option Value} {qs : List ug_Q} (e : hi_laload pc l st n h c s = some o) (hl : ug_L al l) (hs : ug_L ast st) (hh : ug_H h) (ha : ug_al ug_j (pc + 1) al ast = some qs) : ug_O W R qs h o := by
  exact ugs_ald e hl hs hh ha
theorem ugs_aaload {W : Nat} {R : Option ug_T} {pc n c s : Nat} {l st : List Value} {al ast : List ug_T} {h : hc_H} {o : hc_S ⊕ Option Value} {qs : List ug_Q} {xs : List Nat} (e : hi_aaload pc l st n h c s = some o) (hl : ug_L al l) (hs : ug_L ast st) (hh : ug_H h) (ha : ug_al (some (.inl xs)) (pc + 1) al ast = some qs) : ug_O W R qs h o := by
  unfold hi_aaload at e
  split at e
  next r hr =>
    cases e
    exact ugs_ald hr hl hs hh ha
  · exact ugs_ald e hl hs hh ha
theorem ugs_ast {W : Nat} {R : Option ug_T} {pc n c s t i : Nat} {j : Int32} {v : Value} {l st : List Value} {al ast : List ug_T} {h : hc_H} {o : hc_S ⊕ Option Value} {x : ug_T} {m : List Nat} (e : hc_ast t i j v pc l st n h c s = some o) (hl : ug_L al l) (hs : ug_L ast st) (hh : ug_H h) (hv : ug_V x v) (hi : ug_V (some (.inl m)) (.ref (i + 1))) (hm : m.all (fun G => ug_le x (ug_E G) && Nat.testBit W G) = true) : ug_O W R [(pc + 1, al, ast)] h o := by
  unfold hc_ast at e
  split at e
  · cases e
  next a hfa =>
    have ho := hc_arr_ok hfa
    split at e
    · cases e
    · split at e
      · cases e
      next h2 hp =>
        cases e
        have q := Bool.and_eq_true_iff.mp (List.all_eq_true.mp hm _ hi.2)
        refine ug_O.l rfl hl hs (hh.arr hp (fun k w hw => ?_)) (ug_W.arr ho hp q.2)
        rcases ug_nth_set hw with h3 | ⟨rfl, rfl⟩
        · exact (hh _ hi.1).2 _ _ ho _ _ h3
        · exact hv.le q.1
theorem ugs_iastore {W : Nat} {R : Option ug_T} {pc n c s : Nat} {l st : List Value} {al ast : List ug_T} {h : hc_H} {o : hc_S ⊕ Option Value} {qs : List ug_Q} (e : hi_iastore pc l st n h c s = some o) (hl : ug_L al l) (hs : ug_L ast st) (hh : ug_H h) (ha : ug_as W ug_z (pc + 1) al ast = some qs) : ug_O W R qs h o := by
  unfold hi_iastore at e
  split at e
  · obtain ⟨a1, as1, rfl, hv1, hs1⟩ := hs.un
    obtain ⟨a2, as2, rfl, hv2, hs2⟩ := hs1.un
    obtain ⟨a3, as3, rfl, hv3, hs3⟩ := hs2.un
    unfold ug_as at ha
    split at ha
    next m st2 he =>
      cases he
      split at ha
      next hm =>
        cases ha
        exact ugs_ast e hl hs3 hh (x := ug_z) True.intro hv3 hm
      · cases ha
    · cases ha
  · obtain ⟨a1, as1, rfl, hv1, hs1⟩ := hs.un
    obtain ⟨a2, as2, rfl, hv2, hs2⟩ := hs1.un
    obtain ⟨a3, as3, rfl, hv3, hs3⟩ := hs2.un
    unfold ug_as at ha
    split at ha
    next m st2 he =>
      cases he
      split at ha
      next hm =>
        cases ha
        exact ugs_ast e hl hs3 hh (x := ug_z) True.intro hv3 hm
      · cases ha
    · cases ha
  · cases e
theorem ugs_lastore {W : Nat} {R : Option ug_T} {pc n c s : Nat} {l st : List Value} {al ast : List ug_T} {h : hc_H} {o : hc_S ⊕ Option Value} {qs : List ug_Q} (e : hi_lastore pc l st n h c s = some o) (hl : ug_L al l) (hs : ug_L ast st) (hh : ug_H h) (ha : ug_as W ug_j (pc + 1) al ast = some qs) : ug_O W R qs h o := by
  unfold hi_lastore at e
  split at e
  · obtain ⟨a1, as1, rfl, hv1, hs1⟩ := hs.un
    obtain ⟨a2, as2, rfl, hv2, hs2⟩ := hs1.un
    obtain ⟨a3, as3, rfl, hv3, hs3⟩ := hs2.un
    unfold ug_as at ha
    split at ha
    next m st2 he =>
      cases he
      split at ha
      next hm =>
        cases ha
        exact ugs_ast e hl hs3 hh (x := ug_j) True.intro hv3 hm
      · cases ha
    · cases ha
  · cases e
theorem ugs_bastore {W : Nat} {R : Option ug_T} {pc n c s : Nat} {l st : List Value} {al ast : List ug_T} {h : hc_H} {o : hc_S ⊕ Option Value} {qs : List ug_Q} (e : hi_bastore pc l st n h c s = some o) (hl : ug_L al l) (hs : ug_L ast st) (hh : ug_H h) (ha : ug_as W ug_z (pc + 1) al ast = some qs) : ug_O W R qs h o := by
  unfold hi_bastore at e
  split at e
  · obtain ⟨a1, as1, rfl, hv1, hs1⟩ := hs.un
    obtain ⟨a2, as2, rfl, hv2, hs2⟩ := hs1.un
    obtain ⟨a3, as3, rfl, hv3, hs3⟩ := hs2.un
    unfold ug_as at ha
    split at ha
    next m st2 he =>
      cases he
      split at ha
      next hm =>
        cases ha
        split at e
        · exact ugs_ast e hl hs3 hh (x := ug_z) True.intro hv3 hm
        · split at e
          · exact ugs_ast e hl hs3 hh (x := ug_z) True.intro hv3 hm
          · cases e
      · cases ha
    · cases ha
  · obtain ⟨a1, as1, rfl, hv1, hs1⟩ := hs.un
    obtain ⟨a2, as2, rfl, hv2, hs2⟩ := hs1.un
    obtain ⟨a3, as3, rfl, hv3, hs3⟩ := hs2.un
    unfold ug_as at ha
    split at ha
    next m st2 he =>
      cases he
      split at ha
      next hm =>
        cases ha
        split at e
        · exact ugs_ast e hl hs3 hh (x := ug_z) True.intro hv3 hm
        · cases e
      · cases ha
    · cases ha
  · cases e
theorem ugs_arraylength {W : Nat} {R : Option ug_T} {pc n c s : Nat} {l st : List Value} {al ast : List ug_T} {h : hc_H} {o : hc_S ⊕ Option Value} {qs : List ug_Q} {LS : Nat × (Nat → Option Int32)} (e : hi_arraylength LS pc l st n h c s = some o) (hl : ug_L al l) (hs : ug_L ast st) (hh : ug_H h) (ha : ug_1 ug_z (pc + 1) al ast = some qs) : ug_O W R qs h o := by
  unfold hi_arraylength at e
  split at e
  · obtain ⟨a1, as1, rfl, hv1, hs1⟩ := hs.un
    split at e
    · cases e
    · cases e
      cases ha
      exact ug_O.l rfl hl (ug_L.cons True.intro hs1) hh ug_W.rfl
  · obtain ⟨a1, as1, rfl, hv1, hs1⟩ := hs.un
    split at e
    · split at e
      · cases e
      · cases e
        cases ha
        exact ug_O.l rfl hl (ug_L.cons True.intro hs1) hh ug_W.rfl
    · cases e
  · cases e
theorem ugs_str {W : Nat} {R : Option ug_T} {pc n c s : Nat} {l st : List Value} {al ast : List ug_T} {h : hc_H} {o : hc_S ⊕ Option Value} {qs : List ug_Q} {r1 : Nat} (e : hi_str r1 pc l st n h c s = some o) (hl : ug_L al l) (hs : ug_L ast st) (hh : ug_H h) (ha : ug_str r1 (pc + 3) al ast = some qs) : ug_O W R qs h o := by
  unfold hi_str at e
  split at e
  · split at e
    · obtain ⟨a1, as1, rfl, hv1, hs1⟩ := hs.un
      split at e
      · cases e
        cases ha
        exact ug_O.l rfl hl (ug_L.cons True.intro hs1) hh ug_W.rfl
      · cases e
    · cases e
  · split at e
    · obtain ⟨a1, as1, rfl, hv1, hs1⟩ := hs.un
      obtain ⟨a2, as2, rfl, hv2, hs2⟩ := hs1.un
      split at e
      · cases e
      · split at e
        · cases e
          cases ha
          exact ug_O.l rfl hl (ug_L.cons True.intro hs2) hh ug_W.rfl
        · cases e
    · cases e
  next hn0 hn1 =>
    split at e
    · obtain ⟨a1, as1, rfl, hv1, hs1⟩ := hs.un
      obtain ⟨a2, as2, rfl, hv2, hs2⟩ := hs1.un
      split at e
      · cases e
        unfold ug_str at ha
        split at ha
        · exact absurd rfl hn0
        · cases ha
          exact ug_O.l rfl hl (ug_L.cons True.intro hs2) hh ug_W.rfl
      · cases e
    · cases e
theorem ug_pop_ok : ∀ (na : Nat) {ast aacc aas arest : List ug_T} {st acc as rest : List Value}, ug_L ast st → ug_L aacc acc → hc_pop na st acc = some (as, rest) → ug_pop na ast aacc = some (aas, arest) → ug_L aas as ∧ ug_L arest rest
  | 0, ast, aacc, aas, arest, st, acc, as, rest, h1, h2, e, e' => by
    cases e
    cases e'
    exact ⟨h2, h1⟩
  | na + 1, ast, aacc, aas, arest, [], acc, as, rest, h1, h2, e, e' => by cases e
  | na + 1, ast, aacc, aas, arest, v :: st, acc, as, rest, h1, h2, e, e' => by
    obtain ⟨a, bs, rfl, hv, hb⟩ := h1.un
    have e1 : hc_pop na st (v :: acc) = some (as, rest) := e
    have e2 : ug_pop na bs (a :: aacc) = some (aas, arest) := e'
    exact ug_pop_ok na hb (ug_L.cons hv h2) e1 e2
def ug_G (C : Nat → Option ug_X) (pg : List (List (Option hc_M))) (call : Nat → hc_M → List Value → Nat → hc_H → Option hc_R) : Prop := ∀ (j : Nat) (X : ug_X) (e : hc_M) (as : List Value) (n : Nat) (h : hc_H) (Z : hc_R), C j = some X → hc_get pg X.1 = some e → ug_L X.2.1 as → ug_H h → call X.1 e as n h = some Z → ug_H Z.2.2.1 ∧ ug_W X.2.2.2.1 h Z.2.2.1 ∧ ug_R X.2.2.1 Z.1
theorem ug_fit_ok {C : Nat → Option ug_X} {pg : List (List (Option hc_M))} {call : Nat → hc_M → List Value → Nat → hc_H → Option hc_R} (hG : ug_G C pg call) {W : Nat} {R : Option ug_T} {k x pc n : Nat} {e : hc_M} {as rest l : List Value} {aas arest al : List ug_T} {h : hc_H} {Z : hc_R} {qs : List ug_Q} {c s : Nat} (he : hc_get pg k = some e) (hz : call k e as n h = some Z) (hl : ug_L al l) (h1 : ug_L aas as) (h2 : ug_L arest rest) (hh : ug_H h) (ha : ug_fit C W k x aas arest pc al = some qs) : ug_O W R qs h (.inl (pc, l, hc_app Z.1 rest, Z.2.1, Z.2.2.1, c, s)) := by
  unfold ug_fit at ha
  split at ha
  · cases ha
  next X hX =>
    split at ha
    next hb =>
      cases ha
      have b1 := Bool.and_eq_true_iff.mp hb
      have b2 := Bool.and_eq_true_iff.mp b1.2
      have ek := Nat.eq_of_beq_eq_true b1.1
      subst ek
      obtain ⟨g1, g2, g3⟩ := hG x X e as n h Z hX he (h1.le b2.1) hh hz
      refine ug_O.l rfl hl ?_ g1 (g2.le b2.2)
      revert g3
      cases X.2.2.1 with
      | none =>
        intro g3
        have g4 : Z.1 = none := g3
        show ug_L arest (hc_app Z.1 rest)
        rw [g4]
        exact h2
      | some a =>
        rintro ⟨v, g4, g5⟩
        show ug_L (a :: arest) (hc_app Z.1 rest)
        rw [g4]
        exact ug_L.cons g5 h2
    · cases ha
theorem ugs_inv0 {W : Nat} {R : Option ug_T} {pc n c s : Nat} {l st : List Value} {al ast : List ug_T} {h : hc_H} {o : hc_S ⊕ Option Value} {qs : List ug_Q} {r1 : Nat} {C : Nat → Option ug_X} {pg : List (List (Option hc_M))} {call : Nat → hc_M → List Value → Nat → hc_H → Option hc_R} (hG : ug_G C pg call) {x : Nat} (e : hc_inv0 pg call r1 pc l st n h c s = some o) (hl : ug_L al l) (hs : ug_L ast st) (hh : ug_H h) (ha : ug_inv0 C pg W r1 x (pc + 3) al ast = some qs) : ug_O W R qs h o := by
  unfold hc_inv0 at e
  unfold ug_inv0 at ha
  split at e
  · cases e
  next ee hee =>
    rw [hee] at ha
    dsimp only at ha
    split at e
    · cases e
    next as rest hp =>
      split at ha
      next aas a1 arest hpa =>
        obtain ⟨p1, p2⟩ := ug_pop_ok _ hs (show ug_L [] [] from True.intro) hp hpa
        split at e
        · split at e
          · cases e
          · split at e
            · cases e
            · split at e
              · cases e
              next r n2 h2 mc ms hz =>
                cases e
                exact ug_fit_ok (Z := (r, n2, h2, mc, ms)) hG hee hz hl (ug_L.cons p2.1 p1) p2.2 hh ha
        · cases e
      · cases ha
theorem ugs_inv2 {W : Nat} {R : Option ug_T} {pc n c s : Nat} {l st : List Value} {al ast : List ug_T} {h : hc_H} {o : hc_S ⊕ Option Value} {qs : List ug_Q} {r1 : Nat} {C : Nat → Option ug_X} {pg : List (List (Option hc_M))} {call : Nat → hc_M → List Value → Nat → hc_H → Option hc_R} (hG : ug_G C pg call) {x : Nat} (e : hc_inv2 pg call r1 pc l st n h c s = some o) (hl : ug_L al l) (hs : ug_L ast st) (hh : ug_H h) (ha : ug_inv2 C pg W r1 x (pc + 3) al ast = some qs) : ug_O W R qs h o := by
  unfold hc_inv2 at e
  unfold ug_inv2 at ha
  split at e
  · cases e
  next ee hee =>
    rw [hee] at ha
    dsimp only at ha
    split at e
    · cases e
    next as rest hp =>
      split at ha
      next aas arest hpa =>
        obtain ⟨p1, p2⟩ := ug_pop_ok _ hs (show ug_L [] [] from True.intro) hp hpa
        split at e
        · cases e
        · split at e
          · cases e
          next r n2 h2 mc ms hz =>
            cases e
            exact ug_fit_ok (Z := (r, n2, h2, mc, ms)) hG hee hz hl p1 p2 hh ha
      · cases ha
theorem ugs_invokevirtual {W : Nat} {R : Option ug_T} {pc n c s : Nat} {l st : List Value} {al ast : List ug_T} {h : hc_H} {o : hc_S ⊕ Option Value} {qs : List ug_Q} {r1 r2 : Nat} {C : Nat → Option ug_X} {pg : List (List (Option hc_M))} {call : Nat → hc_M → List Value → Nat → hc_H → Option hc_R} (hG : ug_G C pg call) {x : Nat} (e : hi_invokevirtual pg call r1 r2 pc l st n h c s = some o) (hl : ug_L al l) (hs : ug_L ast st) (hh : ug_H h) (ha : ug_iv C pg W r1 r2 x (pc + 3) al ast = some qs) : ug_O W R qs h o := by
  unfold hi_invokevirtual at e
  unfold ug_iv at ha
  split at e
  · exact ugs_str e hl hs hh ha
  next hn =>
    split at ha
    · exact absurd rfl hn
    · exact ugs_inv0 hG e hl hs hh ha
theorem ugs_copy {W : Nat} {R : Option ug_T} {pc n c s : Nat} {l st : List Value} {al ast : List ug_T} {h : hc_H} {o : hc_S ⊕ Option Value} {qs : List ug_Q} {r1 : Nat} {pg : List (List (Option hc_M))} {call : Nat → hc_M → List Value → Nat → hc_H → Option hc_R} (e : hi_invokestatic pg call r1 8 pc l st n h c s = some o) (hl : ug_L al l) (hs : ug_L ast st) (hh : ug_H h) (ha : ug_cp W (pc + 3) al ast = some qs) : ug_O W R qs h o := by
  unfold hi_invokestatic at e
  split at e
  · split at e
    · obtain ⟨a1, as1, rfl, hv1, hs1⟩ := hs.un
      obtain ⟨a2, as2, rfl, hv2, hs2⟩ := hs1.un
      obtain ⟨a3, as3, rfl, hv3, hs3⟩ := hs2.un
      obtain ⟨a4, as4, rfl, hv4, hs4⟩ := hs3.un
      obtain ⟨a5, as5, rfl, hv5, hs5⟩ := hs4.un
      split at e
      · cases e
      next f hf =>
        have of := hc_arr_ok hf
        split at e
        · cases e
        next g hg =>
          have og := hc_arr_ok hg
          split at e
          · cases e
          · split at e
            · cases e
            next h2 hp =>
              unfold ug_cp at ha
              split at ha
              next x1 x2 m x4 m0 st2 he =>
                cases he
                split at ha
                next hm =>
                  cases e
                  cases ha
                  have q := Bool.and_eq_true_iff.mp (List.all_eq_true.mp hm _ hv3.2)
                  exact ug_O.l rfl hl hs5 (hh.arr hp (fun k w hw => ((hh _ hv5.1).2 _ _ of _ _ hw).le (List.all_eq_true.mp q.1 _ hv5.2))) (ug_W.arr og hp q.2)
                · cases ha
              · cases ha
    · cases e
  next hn => exact absurd rfl hn
theorem ugs_invokestatic {W : Nat} {R : Option ug_T} {pc n c s : Nat} {l st : List Value} {al ast : List ug_T} {h : hc_H} {o : hc_S ⊕ Option Value} {qs : List ug_Q} {r1 r2 : Nat} {C : Nat → Option ug_X} {pg : List (List (Option hc_M))} {call : Nat → hc_M → List Value → Nat → hc_H → Option hc_R} (hG : ug_G C pg call) {x : Nat} (e : hi_invokestatic pg call r1 r2 pc l st n h c s = some o) (hl : ug_L al l) (hs : ug_L ast st) (hh : ug_H h) (ha : ug_is C pg W r1 r2 x (pc + 3) al ast = some qs) : ug_O W R qs h o := by
  by_cases q : r2 = 8
  · subst q
    exact ugs_copy e hl hs hh ha
  · unfold hi_invokestatic at e
    unfold ug_is at ha
    split at e
    · exact absurd rfl q
    · split at ha
      · exact absurd rfl q
      · exact ugs_inv2 hG e hl hs hh ha
theorem ugs_return_ {W : Nat} {R : Option ug_T} {pc n c s : Nat} {l st : List Value} {al ast : List ug_T} {h : hc_H} {o : hc_S ⊕ Option Value} {qs : List ug_Q} {ret : Option FieldType} (e : hi_return_ ret pc l st n h c s = some o) (hl : ug_L al l) (hs : ug_L ast st) (hh : ug_H h) (ha : ug_rn R ast = some qs) : ug_O W R qs h o := by
  unfold hi_return_ at e
  split at e
  · split at e
    · cases e
      have := hs.unN
      subst this
      unfold ug_rn at ha
      dsimp only at ha
      split at ha
      · exact rfl
      · cases ha
    · cases e
  · cases e
theorem ugs_ireturn {W : Nat} {R : Option ug_T} {pc n c s : Nat} {l st : List Value} {al ast : List ug_T} {h : hc_H} {o : hc_S ⊕ Option Value} {qs : List ug_Q} {ret : Option FieldType} (e : hi_ireturn ret pc l st n h c s = some o) (hl : ug_L al l) (hs : ug_L ast st) (hh : ug_H h) (ha : ug_rv R ast = some qs) : ug_O W R qs h o := by
  unfold hi_ireturn at e
  split at e
  · split at e
    · cases e
      obtain ⟨a1, as1, rfl, hv1, hs1⟩ := hs.un
      have := hs1.unN
      subst this
      unfold ug_rv at ha
      dsimp only at ha
      split at ha
      next b =>
        split at ha
        next hb => exact ⟨_, rfl, hv1.le hb⟩
        · cases ha
      · cases ha
    · cases e
  · cases e
theorem ugs_lreturn {W : Nat} {R : Option ug_T} {pc n c s : Nat} {l st : List Value} {al ast : List ug_T} {h : hc_H} {o : hc_S ⊕ Option Value} {qs : List ug_Q} {ret : Option FieldType} (e : hi_lreturn ret pc l st n h c s = some o) (hl : ug_L al l) (hs : ug_L ast st) (hh : ug_H h) (ha : ug_rv R ast = some qs) : ug_O W R qs h o := by
  unfold hi_lreturn at e
  split at e
  · split at e
    · cases e
      obtain ⟨a1, as1, rfl, hv1, hs1⟩ := hs.un
      have := hs1.unN
      subst this
      unfold ug_rv at ha
      dsimp only at ha
      split at ha
      next b =>
        split at ha
        next hb => exact ⟨_, rfl, hv1.le hb⟩
        · cases ha
      · cases ha
    · cases e
  · cases e
theorem ugs_areturn {W : Nat} {R : Option ug_T} {pc n c s : Nat} {l st : List Value} {al ast : List ug_T} {h : hc_H} {o : hc_S ⊕ Option Value} {qs : List ug_Q} {ret : Option FieldType} (e : hi_areturn ret pc l st n h c s = some o) (hl : ug_L al l) (hs : ug_L ast st) (hh : ug_H h) (ha : ug_rv R ast = some qs) : ug_O W R qs h o := by
  unfold hi_areturn at e
  split at e
  · split at e
    · cases e
      obtain ⟨a1, as1, rfl, hv1, hs1⟩ := hs.un
      have := hs1.unN
      subst this
      unfold ug_rv at ha
      dsimp only at ha
      split at ha
      next b =>
        split at ha
        next hb => exact ⟨_, rfl, hv1.le hb⟩
        · cases ha
      · cases ha
    · cases e
  · cases e
noncomputable def ug_ab (C : Nat → Option ug_X) (pg : List (List (Option hc_M))) (W : Nat) (R : Option ug_T) (pc : Nat) (l st : List ug_T) (x : Nat) (xs : List Nat) (ii : Instr) (r1 r2 : Nat) : Option (List ug_Q) := match ii with
  | .iconst _ => ug_p ug_z (pc + 1) l st
  | .bipush _ => ug_p ug_z (pc + 2) l st
  | .sipush _ => ug_p ug_z (pc + 3) l st
  | .ldc _ => ug_p ug_z (pc + 2) l st
  | .ldc_w _ => ug_p ug_z (pc + 3) l st
  | .lconst _ => ug_p ug_j (pc + 1) l st
  | .ldc2_w _ => ug_p ug_j (pc + 3) l st
  | .iload_n _ => ug_p ug_z (pc + 1) l st
  | .iload _ => ug_p ug_z (pc + 2) l st
  | .lload_n _ => ug_p ug_j (pc + 1) l st
  | .lload _ => ug_p ug_j (pc + 2) l st
  | .aload_n _ => ug_ld r1 (pc + 1) l st
  | .aload _ => ug_ld r1 (pc + 2) l st
  | .istore_n _ => ug_si r1 (pc + 1) l st
  | .istore _ => ug_si r1 (pc + 2) l st
  | .lstore_n _ => ug_sl r1 (pc + 1) l st
  | .lstore _ => ug_sl r1 (pc + 2) l st
  | .astore_n _ => ug_sa r1 (pc + 1) l st
  | .astore _ => ug_sa r1 (pc + 2) l st
  | .iinc _ _ => ug_inc r1 (pc + 3) l st
  | .iadd => ug_2 ug_z (pc + 1) l st
  | .isub => ug_2 ug_z (pc + 1) l st
  | .imul => ug_2 ug_z (pc + 1) l st
  | .iand => ug_2 ug_z (pc + 1) l st
  | .ior => ug_2 ug_z (pc + 1) l st
  | .ixor => ug_2 ug_z (pc + 1) l st
  | .ishl => ug_2 ug_z (pc + 1) l st
  | .ishr => ug_2 ug_z (pc + 1) l st
  | .iushr => ug_2 ug_z (pc + 1) l st
  | .ladd => ug_2 ug_j (pc + 1) l st
  | .lsub => ug_2 ug_j (pc + 1) l st
  | .lmul => ug_2 ug_j (pc + 1) l st
  | .lor => ug_2 ug_j (pc + 1) l st
  | .idiv => ug_2 ug_z (pc + 1) l st
  | .irem => ug_2 ug_z (pc + 1) l st
  | .lshl => ug_2 ug_j (pc + 1) l st
  | .lcmp => ug_2 ug_z (pc + 1) l st
  | .i2l => ug_1 ug_j (pc + 1) l st
  | .l2i => ug_1 ug_z (pc + 1) l st
  | .i2b => ug_1 ug_z (pc + 1) l st
  | .i2c => ug_1 ug_z (pc + 1) l st
  | .dup => ug_dup (pc + 1) l st
  | .pop => ug_d1 (pc + 1) l st
  | .dup2 => ug_dup2 (pc + 1) l st
  | .ifCond _ _ => ug_if1 r1 (pc + 3) l st
  | .if_icmp _ _ => ug_if2 r1 (pc + 3) l st
  | .goto _ => ug_go r1 l st
  | .tableswitch dflt _ _ offs => ug_tab dflt offs pc l st
  | .getfield _ => ug_gf r2 xs (pc + 3) l st
  | .putfield _ => ug_pf W r2 (pc + 3) l st
  | .iaload => ug_al ug_z (pc + 1) l st
  | .baload => ug_al ug_z (pc + 1) l st
  | .laload => ug_al ug_j (pc + 1) l st
  | .aaload => ug_al (some (.inl xs)) (pc + 1) l st
  | .iastore => ug_as W ug_z (pc + 1) l st
  | .bastore => ug_as W ug_z (pc + 1) l st
  | .lastore => ug_as W ug_j (pc + 1) l st
  | .arraylength => ug_1 ug_z (pc + 1) l st
  | .invokevirtual _ => ug_iv C pg W r1 r2 x (pc + 3) l st
  | .invokestatic _ => ug_is C pg W r1 r2 x (pc + 3) l st
  | .return_ => ug_rn R st
  | .ireturn => ug_rv R st
  | .lreturn => ug_rv R st
  | .areturn => ug_rv R st
  | _ => none
theorem ug_step {W : Nat} {R : Option ug_T} {pc n c s : Nat} {l st : List Value} {al ast : List ug_T} {h : hc_H} {o : hc_S ⊕ Option Value} {qs : List ug_Q} {r1 r2 : Nat} {C : Nat → Option ug_X} {LS : Nat × (Nat → Option Int32)} {pg : List (List (Option hc_M))} {call : Nat → hc_M → List Value → Nat → hc_H → Option hc_R} {ret : Option FieldType} (hG : ug_G C pg call) {x : Nat} {xs : List Nat} {ii : Instr} {f : hc_F} (ef : hc_comp LS pg call ret ii r1 r2 = some f) (e : f pc l st n h c s = some o) (hl : ug_L al l) (hs : ug_L ast st) (hh : ug_H h) (ha : ug_ab C pg W R pc al ast x xs ii r1 r2 = some qs) : ug_O W R qs h o := by
  unfold hc_comp at ef
  split at ef
  · cases ef
    exact ugs_iconst e hl hs hh ha
  · cases ef
    exact ugs_bipush e hl hs hh ha
  · cases ef
    exact ugs_sipush e hl hs hh ha
  · cases ef
    exact ugs_ldc e hl hs hh ha
  · cases ef
    exact ugs_ldc_w e hl hs hh ha
  · cases ef
    exact ugs_lconst e hl hs hh ha
  · cases ef
    exact ugs_ldc2_w e hl hs hh ha
  · cases ef
    exact ugs_iload_n e hl hs hh ha
  · cases ef
    exact ugs_iload e hl hs hh ha
  · cases ef
    exact ugs_lload_n e hl hs hh ha
  · cases ef
    exact ugs_lload e hl hs hh ha
  · cases ef
    exact ugs_aload_n e hl hs hh ha
  · cases ef
    exact ugs_aload e hl hs hh ha
  · cases ef
    exact ugs_istore_n e hl hs hh ha
  · cases ef
    exact ugs_istore e hl hs hh ha
  · cases ef
    exact ugs_lstore_n e hl hs hh ha
  · cases ef
    exact ugs_lstore e hl hs hh ha
  · cases ef
    exact ugs_astore_n e hl hs hh ha
  · cases ef
    exact ugs_astore e hl hs hh ha
  · cases ef
    exact ugs_iinc e hl hs hh ha
  · cases ef
    exact ugs_iadd e hl hs hh ha
  · cases ef
    exact ugs_isub e hl hs hh ha
  · cases ef
    exact ugs_imul e hl hs hh ha
  · cases ef
    exact ugs_iand e hl hs hh ha
  · cases ef
    exact ugs_ior e hl hs hh ha
  · cases ef
    exact ugs_ixor e hl hs hh ha
  · cases ef
    exact ugs_ishl e hl hs hh ha
  · cases ef
    exact ugs_ishr e hl hs hh ha
  · cases ef
    exact ugs_iushr e hl hs hh ha
  · cases ef
    exact ugs_ladd e hl hs hh ha
  · cases ef
    exact ugs_lsub e hl hs hh ha
  · cases ef
    exact ugs_lmul e hl hs hh ha
  · cases ef
    exact ugs_lor e hl hs hh ha
  · cases ef
    exact ugs_idiv e hl hs hh ha
  · cases ef
    exact ugs_irem e hl hs hh ha
  · cases ef
    exact ugs_lshl e hl hs hh ha
  · cases ef
    exact ugs_lcmp e hl hs hh ha
  · cases ef
    exact ugs_i2l e hl hs hh ha
  · cases ef
    exact ugs_l2i e hl hs hh ha
  · cases ef
    exact ugs_i2b e hl hs hh ha
  · cases ef
    exact ugs_i2c e hl hs hh ha
  · cases ef
    exact ugs_dup e hl hs hh ha
  · cases ef
    exact ugs_pop e hl hs hh ha
  · cases ef
    exact ugs_dup2 e hl hs hh ha
  · cases ef
    exact ugs_ifCond e hl hs hh ha
  · cases ef
    exact ugs_if_icmp e hl hs hh ha
  · cases ef
    exact ugs_goto e hl hs hh ha
  · cases ef
    exact ugs_tableswitch e hl hs hh ha
  · cases ef
    exact ugs_getfield e hl hs hh ha
  · cases ef
    exact ugs_putfield e hl hs hh ha
  · cases ef
    exact ugs_iaload e hl hs hh ha
  · cases ef
    exact ugs_baload e hl hs hh ha
  · cases ef
    exact ugs_laload e hl hs hh ha
  · cases ef
    exact ugs_aaload e hl hs hh ha
  · cases ef
    exact ugs_iastore e hl hs hh ha
  · cases ef
    exact ugs_bastore e hl hs hh ha
  · cases ef
    exact ugs_lastore e hl hs hh ha
  · cases ha
  · cases ef
    exact ugs_arraylength e hl hs hh ha
  · cases ha
  · cases ha
  · cases ha
  · cases ha
  · cases ef
    exact ugs_invokevirtual hG e hl hs hh ha
  · cases ha
  · cases ef
    exact ugs_invokestatic hG e hl hs hh ha
  · cases ef
    exact ugs_return_ e hl hs hh ha
  · cases ef
    exact ugs_ireturn e hl hs hh ha
  · cases ef
    exact ugs_lreturn e hl hs hh ha
  · cases ef
    exact ugs_areturn e hl hs hh ha
  · cases ef
noncomputable def ug_ck1 (C : Nat → Option ug_X) (pg : List (List (Option hc_M))) (X : ug_X) (tb : hc_K) (pc : Nat) : Bool := match hc_get X.2.2.2.2 pc with
  | none => true
  | some q => match hc_get tb pc with
    | none => true
    | some I => match ug_ab C pg X.2.2.2.1 X.2.2.1 pc q.1 q.2.1 q.2.2.1 q.2.2.2 I.1 I.2.2.1 I.2.2.2 with
      | none => false
      | some qs => qs.all (fun p => match hc_get X.2.2.2.2 p.1 with
        | none => false
        | some q2 => ug_leL p.2.1 q2.1 && ug_leL p.2.2 q2.2.1)
noncomputable def ug_chk (C : Nat → Option ug_X) (pg : List (List (Option hc_M))) (X : ug_X) (tb : hc_K) : Bool := (List.range (32 * X.2.2.2.2.length)).all (ug_ck1 C pg X tb)
theorem ug_bound {α : Type} {t : List (List (Option α))} {i : Nat} {x : α} (h : hc_get t i = some x) : i < 32 * t.length := by
  unfold hc_get at h
  split at h
  · cases h
  next ch h1 =>
    rw [hc_nth_eq] at h1
    have := (List.getElem?_eq_some_iff.mp h1).1
    omega
theorem ug_run {C : Nat → Option ug_X} {LS : Nat × (Nat → Option Int32)} {pg : List (List (Option hc_M))} {call : Nat → hc_M → List Value → Nat → hc_H → Option hc_R} {ret : Option FieldType} {X : ug_X} {tb : hc_K} (hG : ug_G C pg call) (hk : ug_chk C pg X tb = true) : ∀ (fuel : Nat) (S : hc_S) (Z : hc_R), hc_run LS pg call ret tb fuel S = some Z → (∃ q, hc_get X.2.2.2.2 S.1 = some q ∧ ug_L q.1 S.2.1 ∧ ug_L q.2.1 S.2.2.1) → ug_H S.2.2.2.2.1 → ug_H Z.2.2.1 ∧ ug_W X.2.2.2.1 S.2.2.2.2.1 Z.2.2.1 ∧ ug_R X.2.2.1 Z.1 := by
  intro fuel
  induction fuel with
  | zero => intro S Z e; cases e
  | succ fuel ih =>
    rintro S Z e ⟨q, hq, h1, h2⟩ hh
    have e1 : (match hc_step1 LS pg call ret tb S with
      | none => none
      | some (.inl S') => hc_run LS pg call ret tb fuel S'
      | some (.inr r) => some (r, S.2.2.2.1, S.2.2.2.2.1, S.2.2.2.2.2.1, S.2.2.2.2.2.2)) = some Z := e
    have key : ∀ o, hc_step1 LS pg call ret tb S = some o → match o with
      | .inl S' => (∃ q, hc_get X.2.2.2.2 S'.1 = some q ∧ ug_L q.1 S'.2.1 ∧ ug_L q.2.1 S'.2.2.1) ∧ ug_H S'.2.2.2.2.1 ∧ ug_W X.2.2.2.1 S.2.2.2.2.1 S'.2.2.2.2.1
      | .inr r => ug_R X.2.2.1 r := by
      intro o eo
      unfold hc_step1 at eo
      split at eo
      · cases eo
      next I hI =>
        split at eo
        · cases eo
        next f hf =>
          have c1 := List.all_eq_true.mp hk S.1 (List.mem_range.mpr (ug_bound hq))
          unfold ug_ck1 at c1
          rw [hq, hI] at c1
          try dsimp only at c1
          split at c1
          · cases c1
          next qs hqs =>
            have w := ug_step hG hf eo h1 h2 hh hqs
            unfold ug_O at w
            split at w
            next S' =>
              obtain ⟨p, hp, w1, w2, w3, w4, w5⟩ := w
              have c2 := List.all_eq_true.mp c1 p hp
              try dsimp only at c2
              split at c2
              · cases c2
              next q2 hq2 =>
                have c3 := Bool.and_eq_true_iff.mp c2
                exact ⟨⟨q2, by rw [w1]; exact hq2, w2.le c3.1, w3.le c3.2⟩, w4, w5⟩
            next r => exact w
    split at e1
    · cases e1
    next S' hS =>
      obtain ⟨k1, k2, k3⟩ := key _ hS
      obtain ⟨g1, g2, g3⟩ := ih S' Z e1 k1 k2
      exact ⟨g1, k3.trans g2, g3⟩
    next r hS =>
      cases e1
      exact ⟨hh, ug_W.rfl, key _ hS⟩
def ug_ent : List ug_T → Nat → List ug_T
  | [], n => List.replicate n ug_z
  | some (.inr true) :: as, n => ug_j :: ug_d :: ug_ent as (n - 2)
  | a :: as, n => a :: ug_ent as (n - 1)
def ug_aok (as : List ug_T) : Bool := as.all (fun a => match a with
  | some (.inl _) => true
  | some (.inr true) => true
  | _ => false)
theorem ug_repl : ∀ n : Nat, ug_L (List.replicate n ug_z) (List.replicate n (Value.retAddr 0))
  | 0 => True.intro
  | n + 1 => ⟨True.intro, ug_repl n⟩
theorem ug_ent_ok : ∀ (as : List ug_T) (vs : List Value) (n : Nat), ug_L as vs → ug_aok as = true → ug_L (ug_ent as n) (hc_ent vs n)
  | [], [], n, _, _ => ug_repl n
  | [], v :: vs, n, h, _ => absurd h (fun q => q)
  | a :: as, [], n, h, _ => absurd h (fun q => q)
  | none :: as, v :: vs, n, h, k => by
    have k1 : (false && ug_aok as) = true := k
    cases k1
  | some (.inr false) :: as, v :: vs, n, h, k => by
    have k1 : (false && ug_aok as) = true := k
    cases k1
  | some (.inr true) :: as, v :: vs, n, h, k => by
    have k1 : (true && ug_aok as) = true := k
    have k2 := (Bool.and_eq_true_iff.mp k1).2
    have h1 : ug_V ug_j v := h.1
    match v, h1, h.2 with
    | .long x, _, h2 => exact ⟨True.intro, True.intro, ug_ent_ok as vs (n - 2) h2 k2⟩
  | some (.inl m) :: as, v :: vs, n, h, k => by
    have k1 : (true && ug_aok as) = true := k
    have k2 := (Bool.and_eq_true_iff.mp k1).2
    have h1 : ug_V (some (.inl m)) v := h.1
    have r := ug_ent_ok as vs (n - 1) h.2 k2
    match v, h1 with
    | .int x, _ => exact ⟨True.intro, r⟩
    | .float x, _ => exact ⟨True.intro, r⟩
    | .null, _ => exact ⟨True.intro, r⟩
    | .retAddr x, _ => exact ⟨True.intro, r⟩
    | .ref x, h1 => exact ⟨h1, r⟩
noncomputable def ug_okX (C : Nat → Option ug_X) (pg : List (List (Option hc_M))) (X : ug_X) : Bool := match hc_get pg X.1 with
  | none => true
  | some e => ug_aok X.2.1 && (ug_chk C pg X e.2.2.2.2.2.2 && match hc_get X.2.2.2.2 0 with
    | none => false
    | some q => ug_leL (ug_ent X.2.1 e.2.2.1) q.1 && q.2.1.isEmpty)
theorem ug_ev {C : Nat → Option ug_X} {LS : Nat × (Nat → Option Int32)} {pg : List (List (Option hc_M))} (hok : ∀ (j : Nat) (X : ug_X), C j = some X → ug_okX C pg X = true) (fuel : Nat) : ∀ d : Nat, ug_G C pg (hc_ev LS pg (fun _ _ _ => none) fuel d) := by
  intro d
  induction d with
  | zero => intro j X e as n h Z _ _ _ _ hz; cases hz
  | succ d ih =>
    intro j X e as n h Z hX he hs hh hz
    have h1 : (match Nat.ble (hc_cat as) e.2.2.1 with
      | false => none
      | true => hc_run LS pg (hc_ev LS pg (fun _ _ _ => none) fuel d) e.2.2.2.1 e.2.2.2.2.2.2 fuel (0, hc_ent as e.2.2.1, [], n, h, 0, 0)) = some Z := hz
    have k := hok j X hX
    unfold ug_okX at k
    rw [he] at k
    dsimp only at k
    have k1 := Bool.and_eq_true_iff.mp k
    have k2 := Bool.and_eq_true_iff.mp k1.2
    have k3 := k2.2
    split at k3
    · cases k3
    next q hq =>
      have k4 := Bool.and_eq_true_iff.mp k3
      split at h1
      · cases h1
      · refine ug_run (X := X) ih k2.1 fuel _ Z h1 ⟨q, hq, (ug_ent_ok _ _ _ hs k1.1).le k4.1, ?_⟩ hh
        have : q.2.1 = [] := List.isEmpty_iff.mp k4.2
        rw [this]
        exact True.intro
