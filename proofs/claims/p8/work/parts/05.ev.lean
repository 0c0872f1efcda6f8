/-! THE MACHINE OF THE WORLD, as a function that the kernel can compute: cells as lists, thirty-two to a row -/
abbrev hc_C : Type := (Nat × List Value) ⊕ (Nat × List Value)
abbrev hc_H : Type := List (List (Option hc_C))
abbrev hc_I : Type := Instr × Nat × Nat × Nat
abbrev hc_K : Type := List (List (Option hc_I))
abbrev hc_M : Type := MethodName × ByteArray × Nat × Option FieldType × Nat × Nat × hc_K
abbrev hc_S : Type := Nat × List Value × List Value × Nat × hc_H × Nat × Nat
abbrev hc_R : Type := Option Value × Nat × hc_H × Nat × Nat
noncomputable def hc_nth {α : Type} (l : List α) : Nat → Option α := List.rec (motive := fun _ => Nat → Option α) (fun _ => none) (fun a _ ih n => Nat.rec (motive := fun _ => Option α) (some a) (fun m _ => ih m) n) l
noncomputable def hc_set {α : Type} (l : List α) : Nat → α → List α := List.rec (motive := fun _ => Nat → α → List α) (fun _ _ => []) (fun a t ih n x => Nat.rec (motive := fun _ => List α) (x :: t) (fun m _ => a :: ih m x) n) l
noncomputable def hc_get {α : Type} (t : List (List (Option α))) (i : Nat) : Option α := match hc_nth t (i / 32) with
  | none => none
  | some ch => match hc_nth ch (i % 32) with
    | none => none
    | some x => x
noncomputable def hc_put (t : hc_H) (i : Nat) (e : hc_C) : Option hc_H := match hc_nth t (i / 32) with
  | none => none
  | some ch => match hc_nth ch (i % 32) with
    | none => none
    | some _ => some (hc_set t (i / 32) (hc_set ch (i % 32) (some e)))
theorem hc_nth_eq {α : Type} : ∀ (l : List α) (n : Nat), hc_nth l n = l[n]?
  | [], n => by simp [hc_nth]
  | a :: l, 0 => rfl
  | a :: l, n + 1 => by
    show hc_nth l n = _
    rw [hc_nth_eq l n]
    simp
theorem hc_set_eq {α : Type} : ∀ (l : List α) (n : Nat) (x : α), hc_set l n x = l.set n x
  | [], n, x => by simp [hc_set]
  | a :: l, 0, x => rfl
  | a :: l, n + 1, x => by
    show a :: hc_set l n x = _
    rw [hc_set_eq l n x]
    rfl
theorem hc_get_put {t t' : hc_H} {i : Nat} {e : hc_C} (h : hc_put t i e = some t') (j : Nat) : hc_get t' j = if j = i then some e else hc_get t j := by
  unfold hc_put at h
  split at h
  · cases h
  next ch h1 =>
    split at h
    · cases h
    next x h2 =>
      cases h
      rw [hc_nth_eq] at h1 h2
      have l1 : i / 32 < t.length := (List.getElem?_eq_some_iff.mp h1).1
      have l2 : i % 32 < ch.length := (List.getElem?_eq_some_iff.mp h2).1
      unfold hc_get
      rw [hc_nth_eq, hc_set_eq, hc_set_eq, List.getElem?_set]
      by_cases e1 : i / 32 = j / 32
      · rw [if_pos e1, if_pos (by omega)]
        simp only [hc_nth_eq]
        rw [List.getElem?_set]
        by_cases e2 : i % 32 = j % 32
        · have : j = i := by omega
          subst this
          simp [l2]
        · have : ¬ j = i := fun q => e2 (by rw [q])
          rw [if_neg e2, if_neg this]
          rw [← e1, h1]
      · have : ¬ j = i := fun q => e1 (by rw [q])
        rw [if_neg e1, if_neg this]
        simp only [hc_nth_eq]
def hc_toE (c : hc_C) : hv_E := match c with
  | .inl a => .inl (a.1, a.2.length, fun j => a.2.getD j .null)
  | .inr o => .inr (o.1, fun j => o.2.getD j .null)
noncomputable def hc_f (h : hc_H) : hv_H := fun i => (hc_get h i).map hc_toE
theorem hc_f_put {t t' : hc_H} {i : Nat} {e : hc_C} (h : hc_put t i e = some t') : hc_f t' = hv_up (hc_f t) i (hc_toE e) := by
  funext j
  unfold hc_f hv_up
  rw [hc_get_put h j]
  by_cases hj : j = i <;> simp [hj]
noncomputable def hc_pop (na : Nat) : List Value → List Value → Option (List Value × List Value) := Nat.rec (motive := fun _ => List Value → List Value → Option (List Value × List Value)) (fun st acc => some (acc, st)) (fun _ ih st acc => match st with
  | [] => none
  | v :: st => ih st (v :: acc)) na
theorem hc_pop_eq : ∀ (na : Nat) (st acc as rest : List Value), hc_pop na st acc = some (as, rest) → ∃ bs : List Value, as = bs ++ acc ∧ bs.length = na ∧ st = bs.reverse ++ rest
  | 0, st, acc, as, rest, h => by
    cases h
    exact ⟨[], rfl, rfl, rfl⟩
  | na + 1, [], acc, as, rest, h => by cases h
  | na + 1, v :: st, acc, as, rest, h => by
    have h' : hc_pop na st (v :: acc) = some (as, rest) := h
    obtain ⟨bs, h1, h2, h3⟩ := hc_pop_eq na st (v :: acc) as rest h'
    exact ⟨bs ++ [v], by simp [h1], by simp [h2], by simp [h3]⟩
noncomputable def hc_cat (st : List Value) : Nat := List.rec (motive := fun _ => Nat) 0 (fun v _ ih => (match v with
  | .long _ => 2
  | .double _ => 2
  | _ => 1) + ih) st
theorem hc_cat_eq : ∀ st : List Value, hc_cat st = (st.map fun v => v.category).sum
  | [] => rfl
  | v :: st => by
    show _ + hc_cat st = _
    rw [hc_cat_eq st]
    cases v <;> simp [Value.category]
/-- the locals: a list; .retAddr stands for none, .double for a long's second half -/
noncomputable def hc_ent (as : List Value) : Nat → List Value := List.rec (motive := fun _ => Nat → List Value) (fun n => List.replicate n (.retAddr 0)) (fun v _ ih n => match v with
  | .long x => .long x :: .double 0 :: ih (n - 2)
  | .double x => .double x :: .double 0 :: ih (n - 2)
  | v => v :: ih (n - 1)) as
def hc_isV (v : Value) : Bool := match v with
  | .retAddr _ => false
  | .double _ => false
  | _ => true
def hc_lv (l : List Value) : List (Nat × Value) := (List.range l.length).filterMap (fun i => match l[i]? with
  | some v => if hc_isV v then some (i, v) else none
  | none => none)
theorem hc_lv_mem {l : List Value} {i : Nat} {v : Value} : (i, v) ∈ hc_lv l ↔ l[i]? = some v ∧ hc_isV v = true := by
  unfold hc_lv
  rw [List.mem_filterMap]
  constructor
  · rintro ⟨j, -, h⟩
    split at h
    next w hw =>
      split at h
      next hv => cases h; exact ⟨hw, hv⟩
      · cases h
    · cases h
  · rintro ⟨h1, h2⟩
    refine ⟨i, List.mem_range.mpr (List.getElem?_eq_some_iff.mp h1).1, ?_⟩
    rw [h1]
    simp [h2]
def hc_two (v : Option Value) : Bool := match v with
  | some (.long _) => true
  | _ => false
def hc_two2 (v : Value) : Bool := match v with
  | .long _ => true
  | .double _ => true
  | _ => false
/-- a store of one word, of two words -/
noncomputable def hc_s1 (l : List Value) (i : Nat) (v : Value) : Option (List Value) := match hc_nth l i with
  | none => none
  | some _ => Nat.rec (motive := fun _ => Option (List Value)) (some (hc_set l i v)) (fun m _ => match hc_two (hc_nth l m) with
    | true => none
    | false => some (hc_set l i v)) i
noncomputable def hc_s2 (l : List Value) (i : Nat) (v : Value) : Option (List Value) := match hc_nth l (i + 1) with
  | none => none
  | some _ => Nat.rec (motive := fun _ => Option (List Value)) (some (hc_set (hc_set l i v) (i + 1) (.double 0))) (fun m _ => match hc_two (hc_nth l m) with
    | true => none
    | false => some (hc_set (hc_set l i v) (i + 1) (.double 0))) i
theorem hc_s1_ok {l l' : List Value} {i : Nat} {v : Value} (h : hc_s1 l i v = some l') : i < l.length ∧ l' = l.set i v ∧ ∀ (j : Nat) (w : Value), l[j]? = some w → hc_isV w = true → ¬ (j + 1 = i ∧ w.category = 2) := by
  unfold hc_s1 at h
  split at h
  · cases h
  next x hx =>
    rw [hc_nth_eq] at hx
    refine ⟨(List.getElem?_eq_some_iff.mp hx).1, ?_⟩
    cases i with
    | zero =>
      cases h
      exact ⟨hc_set_eq _ _ _, fun j w _ _ q => by omega⟩
    | succ m =>
      dsimp only at h
      split at h
      · cases h
      next ht =>
        cases h
        refine ⟨hc_set_eq _ _ _, fun j w hw hv q => ?_⟩
        have e : j = m := by omega
        subst e
        rw [hc_nth_eq, hw] at ht
        cases w <;> simp_all [hc_two, Value.category, hc_isV]
theorem hc_s2_ok {l l' : List Value} {i : Nat} {v : Value} (h : hc_s2 l i v = some l') : i + 1 < l.length ∧ l' = (l.set i v).set (i + 1) (.double 0) ∧ ∀ (j : Nat) (w : Value), l[j]? = some w → hc_isV w = true → ¬ (j + 1 = i ∧ w.category = 2) := by
  unfold hc_s2 at h
  split at h
  · cases h
  next x hx =>
    rw [hc_nth_eq] at hx
    refine ⟨(List.getElem?_eq_some_iff.mp hx).1, ?_⟩
    cases i with
    | zero =>
      cases h
      exact ⟨by rw [hc_set_eq, hc_set_eq], fun j w _ _ q => by omega⟩
    | succ m =>
      dsimp only at h
      split at h
      · cases h
      next ht =>
        cases h
        refine ⟨by rw [hc_set_eq, hc_set_eq], fun j w hw hv q => ?_⟩
        have e : j = m := by omega
        subst e
        rw [hc_nth_eq, hw] at ht
        cases w <;> simp_all [hc_two, Value.category, hc_isV]
theorem hc_lv_s1 {l l' : List Value} {i : Nat} {v : Value} (h : hc_s1 l i v = some l') : ∀ q ∈ hc_lv l', q ∈ hv_s1 i v (hc_lv l) := by
  obtain ⟨h1, h2, h3⟩ := hc_s1_ok h
  subst h2
  rintro ⟨j, w⟩ hq
  obtain ⟨g1, g2⟩ := hc_lv_mem.mp hq
  rw [List.getElem?_set] at g1
  unfold hv_s1
  by_cases e : i = j
  · subst e
    rw [if_pos rfl, if_pos h1] at g1
    cases g1
    exact List.mem_cons_self
  · rw [if_neg e] at g1
    refine List.mem_cons_of_mem _ (List.mem_filter.mpr ⟨hc_lv_mem.mpr ⟨g1, g2⟩, ?_⟩)
    have hn := h3 j w g1 g2
    have e' : ¬ j = i := fun q => e q.symm
    by_cases e2 : j + 1 = i
    · have : ¬ w.category = 2 := fun q => hn ⟨e2, q⟩
      simp [e', this]
    · simp [e', e2]
theorem hc_lv_s2 {l l' : List Value} {i : Nat} {v : Value} (h : hc_s2 l i v = some l') : ∀ q ∈ hc_lv l', q ∈ hv_s2 i v (hc_lv l) := by
  obtain ⟨h1, h2, h3⟩ := hc_s2_ok h
  subst h2
  rintro ⟨j, w⟩ hq
  obtain ⟨g1, g2⟩ := hc_lv_mem.mp hq
  rw [List.getElem?_set] at g1
  unfold hv_s2
  by_cases e0 : i + 1 = j
  · rw [if_pos e0, if_pos (by rw [List.length_set]; omega)] at g1
    cases g1
    cases g2
  · rw [if_neg e0, List.getElem?_set] at g1
    by_cases e : i = j
    · subst e
      rw [if_pos rfl, if_pos (by omega)] at g1
      cases g1
      exact List.mem_cons_self
    · rw [if_neg e] at g1
      refine List.mem_cons_of_mem _ (List.mem_filter.mpr ⟨hc_lv_mem.mpr ⟨g1, g2⟩, ?_⟩)
      have hn := h3 j w g1 g2
      have e' : ¬ j = i := fun q => e q.symm
      have e0' : ¬ j = i + 1 := fun q => e0 q.symm
      by_cases e2 : j + 1 = i
      · have : ¬ w.category = 2 := fun q => hn ⟨e2, q⟩
        simp [e', e0', this]
      · simp [e', e0', e2]
theorem hc_ent_at : ∀ (as : List Value) (n i : Nat) (v : Value), hv_words as ≤ n → (hc_ent as n)[i]? = some v → hc_isV v = true → ∀ b : Nat, (b + i, v) ∈ lv_args b as
  | [], n, i, v, _, h, hv, b => by
    have h' : (List.replicate n (Value.retAddr 0))[i]? = some v := h
    rw [List.getElem?_replicate] at h'
    split at h'
    · cases h'; cases hv
    · cases h'
  | a :: as, n, i, v, hw, h, hv, b => by
    have hwa : hv_words (a :: as) = a.category + hv_words as := by simp [hv_words]
    by_cases hc : a.category = 2
    · cases a with
      | long x =>
        have h' : (Value.long x :: .double 0 :: hc_ent as (n - 2))[i]? = some v := h
        match i, h' with
        | 0, h' => cases h'; exact List.mem_cons_self
        | 1, h' => cases h'; cases hv
        | i + 2, h' =>
          have := hc_ent_at as (n - 2) i v (by rw [hwa, hc] at hw; omega) h' hv (b + 2)
          rw [show b + 2 + i = b + (i + 2) by omega] at this
          exact List.mem_cons_of_mem _ this
      | double x =>
        have h' : (Value.double x :: .double 0 :: hc_ent as (n - 2))[i]? = some v := h
        match i, h' with
        | 0, h' => cases h'; cases hv
        | 1, h' => cases h'; cases hv
        | i + 2, h' =>
          have := hc_ent_at as (n - 2) i v (by rw [hwa, hc] at hw; omega) h' hv (b + 2)
          rw [show b + 2 + i = b + (i + 2) by omega] at this
          exact List.mem_cons_of_mem _ this
      | int x => cases hc
      | float x => cases hc
      | null => cases hc
      | ref x => cases hc
      | retAddr x => cases hc
    · have hc1 : a.category = 1 := (lv_cat a).resolve_right hc
      have h' : (a :: hc_ent as (n - 1))[i]? = some v := by
        cases a <;> first | exact h | exact absurd rfl hc
      match i, h' with
      | 0, h' => cases h'; exact List.mem_cons_self
      | i + 1, h' =>
        have := hc_ent_at as (n - 1) i v (by rw [hwa, hc1] at hw; omega) h' hv (b + 1)
        rw [show b + 1 + i = b + (i + 1) by omega] at this
        show _ ∈ (b, a) :: lv_args (if a.category = 2 then b + 2 else b + 1) as
        rw [if_neg hc]
        exact List.mem_cons_of_mem _ this
/-- one instruction -/
def hc_nx (pc : Nat) (l st : List Value) (n : Nat) (h : hc_H) (c s : Nat) : Option (hc_S ⊕ Option Value) := some (.inl (pc, l, st, n, h, c, s))
noncomputable def hc_ld (l : List Value) (i : Nat) (k : Value → Option (hc_S ⊕ Option Value)) : Option (hc_S ⊕ Option Value) := match hc_nth l i with
  | none => none
  | some v => k v
noncomputable def hc_cmp (op : Jvm.ClassFile.Cond) (x y : Int32) : Bool := match op with
  | .eq => decide (x = y)
  | .ne => !decide (x = y)
  | .lt => decide (x < y)
  | .ge => decide (y ≤ x)
  | .gt => decide (y < x)
  | .le => decide (x ≤ y)
def hc_arr (t : Nat) (e : Option hc_C) : Option (List Value) := match e with
  | some (.inl a) => match Nat.beq a.1 t with
    | true => some a.2
    | false => none
  | _ => none
def hc_obj (t : Nat) (e : Option hc_C) : Option (List Value) := match e with
  | some (.inr a) => match Nat.beq a.1 t with
    | true => some a.2
    | false => none
  | _ => none
def hc_isI (v : Value) : Bool := match v with
  | .int _ => true
  | .float _ => true
  | _ => false
def hc_fit (ty : FieldType) (v : Value) : Bool := match ty with
  | .int => hc_isI v
  | .boolean => match v with
    | .int x => decide (x = 0) || decide (x = 1)
    | _ => false
  | .object _ => match v with
    | .ref _ => true
    | .null => true
    | _ => false
  | .array _ => match v with
    | .ref _ => true
    | .null => true
    | _ => false
  | _ => false
def hc_rtv (ret : Option FieldType) (v : Value) : Bool := match ret with
  | some .int => hc_isI v
  | some .boolean => match v with
    | .int x => decide (x = 0) || decide (x = 1)
    | _ => false
  | _ => false
/-- the element at j -/
noncomputable def hc_el (l : List Value) (j : Int32) : Option Value := match decide (j < 0) with
  | true => none
  | false => hc_nth l j.toNatClampNeg
noncomputable def hc_ald (t : Nat) (pc : Nat) (l st : List Value) (n : Nat) (h : hc_H) (c s : Nat) : Option (hc_S ⊕ Option Value) := match st with
  | .int j :: .ref (i + 1) :: st => match hc_arr t (hc_get h i) with
    | none => none
    | some a => match hc_el a j with
      | none => none
      | some v => hc_nx (pc + 1) l (v :: st) n h c s
  | _ => none
noncomputable def hc_ast (t i : Nat) (j : Int32) (v : Value) (pc : Nat) (l st : List Value) (n : Nat) (h : hc_H) (c s : Nat) : Option (hc_S ⊕ Option Value) := match hc_arr t (hc_get h i) with
  | none => none
  | some a => match hc_el a j with
    | none => none
    | some _ => match hc_put h i (.inl (t, hc_set a j.toNatClampNeg v)) with
      | none => none
      | some h' => hc_nx (pc + 1) l st n h' c s
def hc_app (r : Option Value) (st : List Value) : List Value := match r with
  | none => st
  | some v => v :: st
def hc_tyX (ci kf : Nat) : FieldType := match ci with
  | 0 => tyX0 kf
  | 1 => tyX1 kf
  | 2 => tyX2 kf
  | 3 => tyX3 kf
  | 4 => tyX4 kf
  | 5 => tyX5 kf
  | 6 => tyX6 kf
  | 7 => tyX7 kf
  | 8 => tyX8 kf
  | 9 => tyX9 kf
  | _ => tyX10 kf
def hc_nf (ci : Nat) : Nat := match ci with
  | 0 => 6
  | 1 => 6
  | 2 => 11
  | 3 => 3
  | 4 => 9
  | 5 => 8
  | 6 => 4
  | 7 => 3
  | 8 => 2
  | 9 => 17
  | _ => 64
noncomputable def hc_rows (t : hc_H) (n : Nat) (K : Nat) (N : Nat) : Option hc_H := Nat.rec (motive := fun _ => Option hc_H) (some t) (fun i ih => match ih with
  | none => none
  | some t => hc_put t (n + i) (.inl (1, List.replicate K (.int 0)))) N
section HCS
variable (pg : List (List (Option hc_M))) (call : Nat → hc_M → List Value → Nat → hc_H → Option hc_R)
noncomputable def hc_inv0 (k : Nat) (pc : Nat) (l st : List Value) (n : Nat) (h : hc_H) (c s : Nat) : Option (hc_S ⊕ Option Value) := match hc_get pg k with
  | none => none
  | some e => match hc_pop e.2.2.2.2.2.1 st [] with
    | none => none
    | some (as, rest) => match rest with
      | .ref (i + 1) :: rest => match hc_obj e.2.2.2.2.1 (hc_get h i) with
        | none => none
        | some _ => match Nat.ble (hc_cat rest) 8 with
          | false => none
          | true => match call k e (.ref (i + 1) :: as) n h with
            | none => none
            | some (r, n', h', mc, ms) => hc_nx (pc + 3) l (hc_app r rest) n' h' (c + mc) (s + ms)
      | _ => none
noncomputable def hc_inv1 (k : Nat) (pc : Nat) (l st : List Value) (n : Nat) (h : hc_H) (c s : Nat) : Option (hc_S ⊕ Option Value) := match hc_get pg k with
  | none => none
  | some e => match hc_pop e.2.2.2.2.2.1 st [] with
    | none => none
    | some (as, rest) => match rest with
      | .ref a :: rest => match Nat.ble (hc_cat rest) 8 with
        | false => none
        | true => match call k e (.ref a :: as) n h with
          | none => none
          | some (r, n', h', mc, ms) => hc_nx (pc + 3) l (hc_app r rest) n' h' (c + mc) (s + ms)
      | _ => none
noncomputable def hc_inv2 (k : Nat) (pc : Nat) (l st : List Value) (n : Nat) (h : hc_H) (c s : Nat) : Option (hc_S ⊕ Option Value) := match hc_get pg k with
  | none => none
  | some e => match hc_pop e.2.2.2.2.2.1 st [] with
    | none => none
    | some (as, rest) => match Nat.ble (hc_cat rest) 8 with
      | false => none
      | true => match call k e as n h with
        | none => none
        | some (r, n', h', mc, ms) => hc_nx (pc + 3) l (hc_app r rest) n' h' (c + mc) (s + ms)
end HCS
noncomputable def hi_iconst (r1 : Nat) (pc : Nat) (l st : List Value) (n : Nat) (h : hc_H) (c s : Nat) : Option (hc_S ⊕ Option Value) := hc_nx (pc + 1) l (.int (Int32.ofNat r1) :: st) n h c s
noncomputable def hi_bipush (r1 : Nat) (pc : Nat) (l st : List Value) (n : Nat) (h : hc_H) (c s : Nat) : Option (hc_S ⊕ Option Value) := hc_nx (pc + 2) l (.int (Int32.ofNat r1) :: st) n h c s
noncomputable def hi_sipush (r1 : Nat) (pc : Nat) (l st : List Value) (n : Nat) (h : hc_H) (c s : Nat) : Option (hc_S ⊕ Option Value) := hc_nx (pc + 3) l (.int (Int32.ofNat r1) :: st) n h c s
noncomputable def hc_ixf (x : Int32) (l : List Nat) : Nat → Int32 := List.rec (motive := fun _ => Nat → Int32) (fun _ => -1) (fun b _ ih k => match decide (Int32.ofNat b = x) with
  | true => Int32.ofNat k
  | false => ih (k + 1)) l
noncomputable def hi_str (r1 : Nat) (pc : Nat) (l st : List Value) (n : Nat) (h : hc_H) (c s : Nat) : Option (hc_S ⊕ Option Value) := match r1 with
  | 0 => match st with
    | .retAddr k :: st => match Nat.ble (hc_cat st) 8 with
      | true => hc_nx (pc + 3) l (.int (Int32.ofNat (hc_txt k).length) :: st) n h c s
      | false => none
    | _ => none
  | 1 => match st with
    | .int i :: .retAddr k :: st => match decide (i < 0) || !Nat.ble (hc_cat st) 8 with
      | true => none
      | false => match hc_nth (hc_txt k) i.toNatClampNeg with
        | some b => hc_nx (pc + 3) l (.int (Int32.ofNat b) :: st) n h c s
        | none => none
    | _ => none
  | _ => match st with
    | .int x :: .retAddr k :: st => match Nat.ble (hc_cat st) 8 with
      | true => hc_nx (pc + 3) l (.int (hc_ixf x (hc_txt k) 0) :: st) n h c s
      | false => none
    | _ => none
noncomputable def hi_ldc (r1 r2 : Nat) (pc : Nat) (l st : List Value) (n : Nat) (h : hc_H) (c s : Nat) : Option (hc_S ⊕ Option Value) := match r2 with
  | 0 => hc_nx (pc + 2) l (.int (Int32.ofNat r1) :: st) n h c s
  | _ => hc_nx (pc + 2) l (.retAddr r1 :: st) n h c s
noncomputable def hi_ldc_w (r1 : Nat) (pc : Nat) (l st : List Value) (n : Nat) (h : hc_H) (c s : Nat) : Option (hc_S ⊕ Option Value) := hc_nx (pc + 3) l (.int (Int32.ofNat r1) :: st) n h c s
noncomputable def hi_lconst (r1 : Nat) (pc : Nat) (l st : List Value) (n : Nat) (h : hc_H) (c s : Nat) : Option (hc_S ⊕ Option Value) := hc_nx (pc + 1) l (.long (Int64.ofNat r1) :: st) n h c s
noncomputable def hi_ldc2_w (r1 : Nat) (pc : Nat) (l st : List Value) (n : Nat) (h : hc_H) (c s : Nat) : Option (hc_S ⊕ Option Value) := hc_nx (pc + 3) l (.long (Int64.ofNat r1) :: st) n h c s
noncomputable def hi_iload_n (r1 : Nat) (pc : Nat) (l st : List Value) (n : Nat) (h : hc_H) (c s : Nat) : Option (hc_S ⊕ Option Value) := match hc_nth l r1 with
    | some (.int x) => hc_nx (pc + 1) l (.int x :: st) n h c s
    | some (.float x) => hc_nx (pc + 1) l (.float x :: st) n h c s
    | _ => none
noncomputable def hi_iload (r1 : Nat) (pc : Nat) (l st : List Value) (n : Nat) (h : hc_H) (c s : Nat) : Option (hc_S ⊕ Option Value) := match hc_nth l r1 with
    | some (.int x) => hc_nx (pc + 2) l (.int x :: st) n h c s
    | some (.float x) => hc_nx (pc + 2) l (.float x :: st) n h c s
    | _ => none
noncomputable def hi_lload_n (r1 : Nat) (pc : Nat) (l st : List Value) (n : Nat) (h : hc_H) (c s : Nat) : Option (hc_S ⊕ Option Value) := match hc_nth l r1 with
    | some (.long x) => hc_nx (pc + 1) l (.long x :: st) n h c s
    | _ => none
noncomputable def hi_lload (r1 : Nat) (pc : Nat) (l st : List Value) (n : Nat) (h : hc_H) (c s : Nat) : Option (hc_S ⊕ Option Value) := match hc_nth l r1 with
    | some (.long x) => hc_nx (pc + 2) l (.long x :: st) n h c s
    | _ => none
noncomputable def hi_aload_n (r1 : Nat) (pc : Nat) (l st : List Value) (n : Nat) (h : hc_H) (c s : Nat) : Option (hc_S ⊕ Option Value) := match hc_nth l r1 with
    | some (.ref x) => hc_nx (pc + 1) l (.ref x :: st) n h c s
    | _ => none
noncomputable def hi_aload (r1 : Nat) (pc : Nat) (l st : List Value) (n : Nat) (h : hc_H) (c s : Nat) : Option (hc_S ⊕ Option Value) := match hc_nth l r1 with
    | some (.ref x) => hc_nx (pc + 2) l (.ref x :: st) n h c s
    | _ => none
noncomputable def hi_istore_n (r1 : Nat) (pc : Nat) (l st : List Value) (n : Nat) (h : hc_H) (c s : Nat) : Option (hc_S ⊕ Option Value) := match st with
    | .int x :: st => match hc_s1 l r1 (.int x) with
      | some l => hc_nx (pc + 1) l st n h c s
      | none => none
    | .float x :: st => match hc_s1 l r1 (.float x) with
      | some l => hc_nx (pc + 1) l st n h c s
      | none => none
    | _ => none
noncomputable def hi_istore (r1 : Nat) (pc : Nat) (l st : List Value) (n : Nat) (h : hc_H) (c s : Nat) : Option (hc_S ⊕ Option Value) := match st with
    | .int x :: st => match hc_s1 l r1 (.int x) with
      | some l => hc_nx (pc + 2) l st n h c s
      | none => none
    | .float x :: st => match hc_s1 l r1 (.float x) with
      | some l => hc_nx (pc + 2) l st n h c s
      | none => none
    | _ => none
noncomputable def hi_lstore_n (r1 : Nat) (pc : Nat) (l st : List Value) (n : Nat) (h : hc_H) (c s : Nat) : Option (hc_S ⊕ Option Value) := match st with
    | .long x :: st => match hc_s2 l r1 (.long x) with
      | some l => hc_nx (pc + 1) l st n h c s
      | none => none
    | _ => none
noncomputable def hi_lstore (r1 : Nat) (pc : Nat) (l st : List Value) (n : Nat) (h : hc_H) (c s : Nat) : Option (hc_S ⊕ Option Value) := match st with
    | .long x :: st => match hc_s2 l r1 (.long x) with
      | some l => hc_nx (pc + 2) l st n h c s
      | none => none
    | _ => none
noncomputable def hi_astore_n (r1 : Nat) (pc : Nat) (l st : List Value) (n : Nat) (h : hc_H) (c s : Nat) : Option (hc_S ⊕ Option Value) := match st with
    | .ref x :: st => match hc_s1 l r1 (.ref x) with
      | some l => hc_nx (pc + 1) l st n h c s
      | none => none
    | _ => none
noncomputable def hi_astore (r1 : Nat) (pc : Nat) (l st : List Value) (n : Nat) (h : hc_H) (c s : Nat) : Option (hc_S ⊕ Option Value) := match st with
    | .ref x :: st => match hc_s1 l r1 (.ref x) with
      | some l => hc_nx (pc + 2) l st n h c s
      | none => none
    | _ => none
noncomputable def hi_iinc (r1 : Nat) (r2 : Nat) (pc : Nat) (l st : List Value) (n : Nat) (h : hc_H) (c s : Nat) : Option (hc_S ⊕ Option Value) := match hc_nth l r1 with
    | some (.int x) => match hc_s1 l r1 (.int (x + Int32.ofNat r2)) with
      | some l => hc_nx (pc + 3) l st n h c s
      | none => none
    | _ => none
noncomputable def hi_iadd (pc : Nat) (l st : List Value) (n : Nat) (h : hc_H) (c s : Nat) : Option (hc_S ⊕ Option Value) := match st with
    | .int y :: .int x :: st => hc_nx (pc + 1) l (.int (x + y) :: st) n h c s
    | _ => none
noncomputable def hi_isub (pc : Nat) (l st : List Value) (n : Nat) (h : hc_H) (c s : Nat) : Option (hc_S ⊕ Option Value) := match st with
    | .int y :: .int x :: st => hc_nx (pc + 1) l (.int (x - y) :: st) n h c s
    | _ => none
noncomputable def hi_imul (pc : Nat) (l st : List Value) (n : Nat) (h : hc_H) (c s : Nat) : Option (hc_S ⊕ Option Value) := match st with
    | .int y :: .int x :: st => hc_nx (pc + 1) l (.int (x * y) :: st) n h c s
    | _ => none
noncomputable def hi_iand (pc : Nat) (l st : List Value) (n : Nat) (h : hc_H) (c s : Nat) : Option (hc_S ⊕ Option Value) := match st with
    | .int y :: .int x :: st => hc_nx (pc + 1) l (.int (x &&& y) :: st) n h c s
    | _ => none
noncomputable def hi_ior (pc : Nat) (l st : List Value) (n : Nat) (h : hc_H) (c s : Nat) : Option (hc_S ⊕ Option Value) := match st with
    | .int y :: .int x :: st => hc_nx (pc + 1) l (.int (x ||| y) :: st) n h c s
    | _ => none
noncomputable def hi_ixor (pc : Nat) (l st : List Value) (n : Nat) (h : hc_H) (c s : Nat) : Option (hc_S ⊕ Option Value) := match st with
    | .int y :: .int x :: st => hc_nx (pc + 1) l (.int (x ^^^ y) :: st) n h c s
    | _ => none
noncomputable def hi_ishl (pc : Nat) (l st : List Value) (n : Nat) (h : hc_H) (c s : Nat) : Option (hc_S ⊕ Option Value) := match st with
    | .int y :: .int x :: st => hc_nx (pc + 1) l (.int (x <<< (y &&& 31)) :: st) n h c s
    | _ => none
noncomputable def hi_ishr (pc : Nat) (l st : List Value) (n : Nat) (h : hc_H) (c s : Nat) : Option (hc_S ⊕ Option Value) := match st with
    | .int y :: .int x :: st => hc_nx (pc + 1) l (.int (x >>> (y &&& 31)) :: st) n h c s
    | .int y :: .float j :: st => match Nat.ble (j.toNat + 1) 100 && (!decide (y < 0) && decide (y < 32)) with
      | true => hc_nx (pc + 1) l (.float (UInt32.ofNat (20000 + 100 * j.toNat + y.toNatClampNeg)) :: st) n h c s
      | false => none
    | _ => none
noncomputable def hi_iushr (pc : Nat) (l st : List Value) (n : Nat) (h : hc_H) (c s : Nat) : Option (hc_S ⊕ Option Value) := match st with
    | .int y :: .int x :: st => hc_nx (pc + 1) l (.int ((x.toUInt32 >>> (y.toUInt32 &&& Int32.toUInt32 31)).toInt32) :: st) n h c s
    | .int y :: .float j :: st => match Nat.ble (j.toNat + 1) 100 && (!decide (y < 0) && decide (y < 32)) with
      | true => hc_nx (pc + 1) l (.float (UInt32.ofNat (10000 + 100 * j.toNat + y.toNatClampNeg)) :: st) n h c s
      | false => none
    | _ => none
noncomputable def hi_ladd (pc : Nat) (l st : List Value) (n : Nat) (h : hc_H) (c s : Nat) : Option (hc_S ⊕ Option Value) := match st with
    | .long y :: .long x :: st => hc_nx (pc + 1) l (.long (x + y) :: st) n h c s
    | _ => none
noncomputable def hi_lsub (pc : Nat) (l st : List Value) (n : Nat) (h : hc_H) (c s : Nat) : Option (hc_S ⊕ Option Value) := match st with
    | .long y :: .long x :: st => hc_nx (pc + 1) l (.long (x - y) :: st) n h c s
    | _ => none
noncomputable def hi_lmul (pc : Nat) (l st : List Value) (n : Nat) (h : hc_H) (c s : Nat) : Option (hc_S ⊕ Option Value) := match st with
    | .long y :: .long x :: st => hc_nx (pc + 1) l (.long (x * y) :: st) n h c s
    | _ => none
noncomputable def hi_lor (pc : Nat) (l st : List Value) (n : Nat) (h : hc_H) (c s : Nat) : Option (hc_S ⊕ Option Value) := match st with
    | .long y :: .long x :: st => hc_nx (pc + 1) l (.long (x ||| y) :: st) n h c s
    | _ => none
noncomputable def hi_idiv (pc : Nat) (l st : List Value) (n : Nat) (h : hc_H) (c s : Nat) : Option (hc_S ⊕ Option Value) := match st with
    | .int y :: .int x :: st => match decide (y = 0) with
      | true => none
      | false => hc_nx (pc + 1) l (.int (x / y) :: st) n h c s
    | _ => none
noncomputable def hi_irem (pc : Nat) (l st : List Value) (n : Nat) (h : hc_H) (c s : Nat) : Option (hc_S ⊕ Option Value) := match st with
    | .int y :: .int x :: st => match decide (y = 0) with
      | true => none
      | false => hc_nx (pc + 1) l (.int (x - x / y * y) :: st) n h c s
    | _ => none
noncomputable def hi_lshl (pc : Nat) (l st : List Value) (n : Nat) (h : hc_H) (c s : Nat) : Option (hc_S ⊕ Option Value) := match st with
    | .int y :: .long x :: st => hc_nx (pc + 1) l (.long (x <<< (y.toInt64 &&& 63)) :: st) n h c s
    | _ => none
noncomputable def hi_lcmp (pc : Nat) (l st : List Value) (n : Nat) (h : hc_H) (c s : Nat) : Option (hc_S ⊕ Option Value) := match st with
    | .long y :: .long x :: st => hc_nx (pc + 1) l (.int (lg_cmp x y) :: st) n h c s
    | _ => none
noncomputable def hi_i2l (pc : Nat) (l st : List Value) (n : Nat) (h : hc_H) (c s : Nat) : Option (hc_S ⊕ Option Value) := match st with
    | .int x :: st => hc_nx (pc + 1) l (.long x.toInt64 :: st) n h c s
    | _ => none
noncomputable def hi_l2i (pc : Nat) (l st : List Value) (n : Nat) (h : hc_H) (c s : Nat) : Option (hc_S ⊕ Option Value) := match st with
    | .long x :: st => hc_nx (pc + 1) l (.int x.toInt32 :: st) n h c s
    | _ => none
noncomputable def hi_i2b (pc : Nat) (l st : List Value) (n : Nat) (h : hc_H) (c s : Nat) : Option (hc_S ⊕ Option Value) := match st with
    | .int x :: st => hc_nx (pc + 1) l (.int x.toInt8.toInt32 :: st) n h c s
    | .float j :: st => match Nat.ble 10000 j.toNat && Nat.ble (j.toNat + 1) 30000 with
      | true => hc_nx (pc + 1) l (.float (UInt32.ofNat (30000 + j.toNat)) :: st) n h c s
      | false => none
    | _ => none
noncomputable def hi_i2c (pc : Nat) (l st : List Value) (n : Nat) (h : hc_H) (c s : Nat) : Option (hc_S ⊕ Option Value) := match st with
    | .int x :: st => hc_nx (pc + 1) l (.int (x.toUInt32 % 65536).toInt32 :: st) n h c s
    | _ => none
noncomputable def hi_dup (pc : Nat) (l st : List Value) (n : Nat) (h : hc_H) (c s : Nat) : Option (hc_S ⊕ Option Value) := match st with
    | v :: st => match hc_two2 v with
      | true => none
      | false => hc_nx (pc + 1) l (v :: v :: st) n h c s
    | _ => none
noncomputable def hi_pop (pc : Nat) (l st : List Value) (n : Nat) (h : hc_H) (c s : Nat) : Option (hc_S ⊕ Option Value) := match st with
    | v :: st => match hc_two2 v with
      | true => none
      | false => hc_nx (pc + 1) l st n h c s
    | _ => none
noncomputable def hi_dup2 (pc : Nat) (l st : List Value) (n : Nat) (h : hc_H) (c s : Nat) : Option (hc_S ⊕ Option Value) := match st with
    | v :: w :: st => match hc_two2 v || hc_two2 w with
      | true => none
      | false => hc_nx (pc + 1) l (v :: w :: v :: w :: st) n h c s
    | _ => none
noncomputable def hi_ifCond (LS : Nat × (Nat → Option Int32)) (op : Jvm.ClassFile.Cond) (r1 : Nat) (pc : Nat) (l st : List Value) (n : Nat) (h : hc_H) (c s : Nat) : Option (hc_S ⊕ Option Value) := match st with
    | .int x :: st => match hc_cmp op x 0 with
      | true => hc_nx r1 l st n h c s
      | false => hc_nx (pc + 3) l st n h c s
    | .float j :: st => match op with
      | .eq => match Nat.ble 1000 j.toNat with
        | true => none
        | false => match LS.2 (j.toNat + 100000) with
          | some _ => hc_nx (pc + 3) l st n h c s
          | none => none
      | _ => none
    | _ => none
noncomputable def hi_if_icmp (op : Jvm.ClassFile.Cond) (r1 : Nat) (pc : Nat) (l st : List Value) (n : Nat) (h : hc_H) (c s : Nat) : Option (hc_S ⊕ Option Value) := match st with
    | .int y :: .int x :: st => match hc_cmp op x y with
      | true => hc_nx r1 l st n h c s
      | false => hc_nx (pc + 3) l st n h c s
    | _ => none
noncomputable def hi_goto (r1 : Nat) (pc : Nat) (l st : List Value) (n : Nat) (h : hc_H) (c s : Nat) : Option (hc_S ⊕ Option Value) := hc_nx r1 l st n h c s
noncomputable def hi_tableswitch (LS : Nat × (Nat → Option Int32)) (dflt lo hi : Int) (offs : Array Int) (pc : Nat) (l st : List Value) (n : Nat) (h : hc_H) (c s : Nat) : Option (hc_S ⊕ Option Value) := match st with
    | .int x :: st => match decide (x.toInt < lo) || decide (hi < x.toInt) with
      | true => match decide (0 ≤ (pc : Int) + dflt) with
        | true => hc_nx ((pc : Int) + dflt).toNat l st n h c s
        | false => none
      | false => match hc_nth offs.toList (x.toInt - lo).toNat with
        | none => none
        | some off => match decide (0 ≤ (pc : Int) + off) with
          | true => hc_nx ((pc : Int) + off).toNat l st n h c s
          | false => none
    | .float j :: st => match LS.2 (j.toNat + 200000) with
      | none => none
      | some x => match decide (0 ≤ lo) && (decide (hi ≤ x.toInt) && decide (0 ≤ (pc : Int) + dflt)) with
        | true => hc_nx ((pc : Int) + dflt).toNat l st n h c s
        | false => none
    | _ => none
noncomputable def hi_getfield (r1 : Nat) (r2 : Nat) (pc : Nat) (l st : List Value) (n : Nat) (h : hc_H) (c s : Nat) : Option (hc_S ⊕ Option Value) := match st with
    | .ref (i + 1) :: st => match hc_obj r1 (hc_get h i) with
      | none => none
      | some fs => match hc_nth fs r2 with
        | none => none
        | some v => hc_nx (pc + 3) l (v :: st) n h c s
    | _ => none
noncomputable def hi_putfield (r1 : Nat) (r2 : Nat) (pc : Nat) (l st : List Value) (n : Nat) (h : hc_H) (c s : Nat) : Option (hc_S ⊕ Option Value) := match st with
    | v :: .ref (i + 1) :: st => match hc_obj r1 (hc_get h i) with
      | none => none
      | some fs => match hc_fit (hc_tyX r1 r2) v with
        | false => none
        | true => match hc_nth fs r2 with
          | none => none
          | some _ => match hc_put h i (.inr (r1, hc_set fs r2 v)) with
            | none => none
            | some h => hc_nx (pc + 3) l st n h c s
    | _ => none
noncomputable def hi_iaload (LS : Nat × (Nat → Option Int32)) (pc : Nat) (l st : List Value) (n : Nat) (h : hc_H) (c s : Nat) : Option (hc_S ⊕ Option Value) := match st with
    | .int j :: .ref 0 :: st => match decide (j < 0) || Nat.ble LS.1 j.toNatClampNeg with
      | true => none
      | false => match LS.2 j.toNatClampNeg with
        | some x => hc_nx (pc + 1) l (.int x :: st) n h c s
        | none => hc_nx (pc + 1) l (.float (UInt32.ofNat j.toNatClampNeg) :: st) n h c s
    | st => hc_ald 1 pc l st n h c s
noncomputable def hi_baload (pc : Nat) (l st : List Value) (n : Nat) (h : hc_H) (c s : Nat) : Option (hc_S ⊕ Option Value) := match hc_ald 0 pc l st n h c s with
    | some r => some r
    | none => hc_ald 3 pc l st n h c s
noncomputable def hi_laload (pc : Nat) (l st : List Value) (n : Nat) (h : hc_H) (c s : Nat) : Option (hc_S ⊕ Option Value) := hc_ald 2 pc l st n h c s
noncomputable def hi_aaload (pc : Nat) (l st : List Value) (n : Nat) (h : hc_H) (c s : Nat) : Option (hc_S ⊕ Option Value) := match hc_ald 4 pc l st n h c s with
    | some r => some r
    | none => hc_ald 5 pc l st n h c s
noncomputable def hi_iastore (pc : Nat) (l st : List Value) (n : Nat) (h : hc_H) (c s : Nat) : Option (hc_S ⊕ Option Value) := match st with
    | .int x :: .int j :: .ref (i + 1) :: st => hc_ast 1 i j (.int x) pc l st n h c s
    | .float x :: .int j :: .ref (i + 1) :: st => hc_ast 1 i j (.float x) pc l st n h c s
    | _ => none
noncomputable def hi_bastore (pc : Nat) (l st : List Value) (n : Nat) (h : hc_H) (c s : Nat) : Option (hc_S ⊕ Option Value) := match st with
    | .int x :: .int j :: .ref (i + 1) :: st => match hc_arr 0 (hc_get h i) with
      | some _ => hc_ast 0 i j (.int x.toInt8.toInt32) pc l st n h c s
      | none => match decide (x = 0) || decide (x = 1) with
        | true => hc_ast 3 i j (.int x) pc l st n h c s
        | false => none
    | .float x :: .int j :: .ref (i + 1) :: st => match Nat.ble 40000 x.toNat && Nat.ble (x.toNat + 1) 60000 with
      | true => hc_ast 0 i j (.float x) pc l st n h c s
      | false => none
    | _ => none
noncomputable def hi_lastore (pc : Nat) (l st : List Value) (n : Nat) (h : hc_H) (c s : Nat) : Option (hc_S ⊕ Option Value) := match st with
    | .long x :: .int j :: .ref (i + 1) :: st => hc_ast 2 i j (.long x) pc l st n h c s
    | _ => none
noncomputable def hi_aastore (pc : Nat) (l st : List Value) (n : Nat) (h : hc_H) (c s : Nat) : Option (hc_S ⊕ Option Value) := match st with
    | .ref (iv + 1) :: .int j :: .ref (i + 1) :: st => match hc_obj 2 (hc_get h iv) with
      | none => none
      | some _ => hc_ast 4 i j (.ref (iv + 1)) pc l st n h c s
    | _ => none
noncomputable def hi_arraylength (LS : Nat × (Nat → Option Int32)) (pc : Nat) (l st : List Value) (n : Nat) (h : hc_H) (c s : Nat) : Option (hc_S ⊕ Option Value) := match st with
    | .ref 0 :: st => match Nat.beq LS.1 0 with
      | true => none
      | false => hc_nx (pc + 1) l (.int (Int32.ofNat LS.1) :: st) n h c s
    | .ref (i + 1) :: st => match hc_get h i with
      | some (.inl a) => match Nat.ble 6 a.1 with
        | true => none
        | false => hc_nx (pc + 1) l (.int (Int32.ofNat a.2.length) :: st) n h c s
      | _ => none
    | _ => none
noncomputable def hi_new (r1 : Nat) (pc : Nat) (l st : List Value) (n : Nat) (h : hc_H) (c s : Nat) : Option (hc_S ⊕ Option Value) := match hc_put h n (.inr (r1, (List.range (hc_nf r1)).map (fun k => defaultValue (hc_tyX r1 k)))) with
    | none => none
    | some h => hc_nx (pc + 3) l (.ref (n + 1) :: st) (n + 1) h (c + 1) (s + hc_nf r1)
def hc_zero (r1 : Nat) : Value := match r1 with
  | 2 => .long 0
  | _ => .int 0
noncomputable def hi_newarray (r1 : Nat) (pc : Nat) (l st : List Value) (n : Nat) (h : hc_H) (c s : Nat) : Option (hc_S ⊕ Option Value) := match st with
    | .int j :: st => match decide (j < 0) || Nat.ble 100000 j.toNatClampNeg with
      | true => none
      | false => match hc_put h n (.inl (r1, List.replicate j.toNatClampNeg (hc_zero r1))) with
        | none => none
        | some h => hc_nx (pc + 2) l (.ref (n + 1) :: st) (n + 1) h (c + 1) (s + j.toNatClampNeg)
    | _ => none
noncomputable def hi_anewarray (pc : Nat) (l st : List Value) (n : Nat) (h : hc_H) (c s : Nat) : Option (hc_S ⊕ Option Value) := match st with
    | .int j :: st => match decide (j < 0) || Nat.ble 100000 j.toNatClampNeg with
      | true => none
      | false => match hc_put h n (.inl (4, List.replicate j.toNatClampNeg .null)) with
        | none => none
        | some h => hc_nx (pc + 3) l (.ref (n + 1) :: st) (n + 1) h (c + 1) (s + j.toNatClampNeg)
    | _ => none
noncomputable def hi_multianewarray (pc : Nat) (l st : List Value) (n : Nat) (h : hc_H) (c s : Nat) : Option (hc_S ⊕ Option Value) := match st with
    | .int b :: .int a :: st => match decide (a < 0) || decide (b < 0) || Nat.ble 100000 a.toNatClampNeg || Nat.ble 100000 b.toNatClampNeg with
      | true => none
      | false => match hc_put h n (.inl (5, (List.range a.toNatClampNeg).map (fun i => .ref (n + 1 + i + 1)))) with
        | none => none
        | some h => match hc_rows h (n + 1) b.toNatClampNeg a.toNatClampNeg with
          | none => none
          | some h => hc_nx (pc + 4) l (.ref (n + 1) :: st) (n + 1 + a.toNatClampNeg) h (c + 1 + a.toNatClampNeg) (s + a.toNatClampNeg + a.toNatClampNeg * b.toNatClampNeg)
    | _ => none
noncomputable def hi_invokevirtual (pg : List (List (Option hc_M))) (call : Nat → hc_M → List Value → Nat → hc_H → Option hc_R) (r1 r2 : Nat) (pc : Nat) (l st : List Value) (n : Nat) (h : hc_H) (c s : Nat) : Option (hc_S ⊕ Option Value) := match r2 with
    | 7 => hi_str r1 pc l st n h c s
    | _ => hc_inv0 pg call r1 pc l st n h c s
noncomputable def hi_invokespecial (pg : List (List (Option hc_M))) (call : Nat → hc_M → List Value → Nat → hc_H → Option hc_R) (r1 : Nat) (r2 : Nat) (pc : Nat) (l st : List Value) (n : Nat) (h : hc_H) (c s : Nat) : Option (hc_S ⊕ Option Value) := match r2 with
    | 9 => match st with
      | .ref _ :: st => match Nat.ble (hc_cat st) 8 with
        | false => none
        | true => hc_nx (pc + 3) l st n h c s
      | _ => none
    | _ => hc_inv1 pg call r1 pc l st n h c s
noncomputable def hi_invokestatic (pg : List (List (Option hc_M))) (call : Nat → hc_M → List Value → Nat → hc_H → Option hc_R) (r1 : Nat) (r2 : Nat) (pc : Nat) (l st : List Value) (n : Nat) (h : hc_H) (c s : Nat) : Option (hc_S ⊕ Option Value) := match r2 with
    | 8 => match st with
      | .int z :: .int dp :: .ref (i1 + 1) :: .int sp :: .ref (i0 + 1) :: st => match hc_arr 1 (hc_get h i0) with
        | none => none
        | some f => match hc_arr 1 (hc_get h i1) with
          | none => none
          | some g => match decide (sp = 0) && (decide (dp = 0) && (!decide (z < 0) && (Nat.beq z.toNatClampNeg f.length && (Nat.beq f.length g.length && (f.all hc_isI && Nat.ble (hc_cat st) 8))))) with
            | false => none
            | true => match hc_put h i1 (.inl (1, f)) with
              | none => none
              | some h => hc_nx (pc + 3) l st n h c s
      | _ => none
    | _ => hc_inv2 pg call r1 pc l st n h c s
noncomputable def hi_return_ (ret : Option FieldType) (pc : Nat) (l st : List Value) (n : Nat) (h : hc_H) (c s : Nat) : Option (hc_S ⊕ Option Value) := match st with
    | [] => match ret with
      | none => some (.inr none)
      | some _ => none
    | _ => none
noncomputable def hi_ireturn (ret : Option FieldType) (pc : Nat) (l st : List Value) (n : Nat) (h : hc_H) (c s : Nat) : Option (hc_S ⊕ Option Value) := match st with
    | [v] => match hc_rtv ret v with
      | true => some (.inr (some v))
      | false => none
    | _ => none
noncomputable def hi_lreturn (ret : Option FieldType) (pc : Nat) (l st : List Value) (n : Nat) (h : hc_H) (c s : Nat) : Option (hc_S ⊕ Option Value) := match st with
    | [.long x] => match ret with
      | some .long => some (.inr (some (.long x)))
      | _ => none
    | _ => none
noncomputable def hi_areturn (ret : Option FieldType) (pc : Nat) (l st : List Value) (n : Nat) (h : hc_H) (c s : Nat) : Option (hc_S ⊕ Option Value) := match st with
    | [.ref a] => match ret with
      | some (.array _) => some (.inr (some (.ref a)))
      | _ => none
    | _ => none
abbrev hc_F : Type := Nat → List Value → List Value → Nat → hc_H → Nat → Nat → Option (hc_S ⊕ Option Value)
noncomputable def hc_comp (LS : Nat × (Nat → Option Int32)) (pg : List (List (Option hc_M))) (call : Nat → hc_M → List Value → Nat → hc_H → Option hc_R) (ret : Option FieldType) (ii : Instr) (r1 r2 : Nat) : Option hc_F := match ii with
  | .iconst _ => some (hi_iconst r1)
  | .bipush _ => some (hi_bipush r1)
  | .sipush _ => some (hi_sipush r1)
  | .ldc _ => some (hi_ldc r1 r2)
  | .ldc_w _ => some (hi_ldc_w r1)
  | .lconst _ => some (hi_lconst r1)
  | .ldc2_w _ => some (hi_ldc2_w r1)
  | .iload_n _ => some (hi_iload_n r1)
  | .iload _ => some (hi_iload r1)
  | .lload_n _ => some (hi_lload_n r1)
  | .lload _ => some (hi_lload r1)
  | .aload_n _ => some (hi_aload_n r1)
  | .aload _ => some (hi_aload r1)
  | .istore_n _ => some (hi_istore_n r1)
  | .istore _ => some (hi_istore r1)
  | .lstore_n _ => some (hi_lstore_n r1)
  | .lstore _ => some (hi_lstore r1)
  | .astore_n _ => some (hi_astore_n r1)
  | .astore _ => some (hi_astore r1)
  | .iinc _ _ => some (hi_iinc r1 r2)
  | .iadd => some (hi_iadd)
  | .isub => some (hi_isub)
  | .imul => some (hi_imul)
  | .iand => some (hi_iand)
  | .ior => some (hi_ior)
  | .ixor => some (hi_ixor)
  | .ishl => some (hi_ishl)
  | .ishr => some (hi_ishr)
  | .iushr => some (hi_iushr)
  | .ladd => some (hi_ladd)
  | .lsub => some (hi_lsub)
  | .lmul => some (hi_lmul)
  | .lor => some (hi_lor)
  | .idiv => some (hi_idiv)
  | .irem => some (hi_irem)
  | .lshl => some (hi_lshl)
  | .lcmp => some (hi_lcmp)
  | .i2l => some (hi_i2l)
  | .l2i => some (hi_l2i)
  | .i2b => some (hi_i2b)
  | .i2c => some (hi_i2c)
  | .dup => some (hi_dup)
  | .pop => some (hi_pop)
  | .dup2 => some (hi_dup2)
  | .ifCond op _ => some (hi_ifCond LS op r1)
  | .if_icmp op _ => some (hi_if_icmp op r1)
  | .goto _ => some (hi_goto r1)
  | .tableswitch dflt lo hi offs => some (hi_tableswitch LS dflt lo hi offs)
  | .getfield _ => some (hi_getfield r1 r2)
  | .putfield _ => some (hi_putfield r1 r2)
  | .iaload => some (hi_iaload LS)
  | .baload => some (hi_baload)
  | .laload => some (hi_laload)
  | .aaload => some (hi_aaload)
  | .iastore => some (hi_iastore)
  | .bastore => some (hi_bastore)
  | .lastore => some (hi_lastore)
  | .aastore => some (hi_aastore)
  | .arraylength => some (hi_arraylength LS)
  | .new _ => some (hi_new r1)
  | .newarray _ => some (hi_newarray r1)
  | .anewarray _ => some (hi_anewarray)
  | .multianewarray _ _ => some (hi_multianewarray)
  | .invokevirtual _ => some (hi_invokevirtual pg call r1 r2)
  | .invokespecial _ => some (hi_invokespecial pg call r1 r2)
  | .invokestatic _ => some (hi_invokestatic pg call r1 r2)
  | .return_ => some (hi_return_ ret)
  | .ireturn => some (hi_ireturn ret)
  | .lreturn => some (hi_lreturn ret)
  | .areturn => some (hi_areturn ret)
  | _ => none
section HCR
variable (LS : Nat × (Nat → Option Int32)) (pg : List (List (Option hc_M)))
noncomputable def hc_step1 (call : Nat → hc_M → List Value → Nat → hc_H → Option hc_R) (ret : Option FieldType) (tb : hc_K) (S : hc_S) : Option (hc_S ⊕ Option Value) := match hc_get tb S.1 with
  | none => none
  | some I => match hc_comp LS pg call ret I.1 I.2.2.1 I.2.2.2 with
    | none => none
    | some f => f S.1 S.2.1 S.2.2.1 S.2.2.2.1 S.2.2.2.2.1 S.2.2.2.2.2.1 S.2.2.2.2.2.2
noncomputable def hc_run (call : Nat → hc_M → List Value → Nat → hc_H → Option hc_R) (ret : Option FieldType) (tb : hc_K) (fuel : Nat) : hc_S → Option hc_R := Nat.rec (motive := fun _ => hc_S → Option hc_R) (fun _ => none) (fun _ ih S => match hc_step1 LS pg call ret tb S with
  | none => none
  | some (.inl S') => ih S'
  | some (.inr r) => some (r, S.2.2.2.1, S.2.2.2.2.1, S.2.2.2.2.2.1, S.2.2.2.2.2.2)) fuel
noncomputable def hc_steps (call : Nat → hc_M → List Value → Nat → hc_H → Option hc_R) (ret : Option FieldType) (tb : hc_K) (fuel : Nat) : hc_S → Option hc_S := Nat.rec (motive := fun _ => hc_S → Option hc_S) (fun S => some S) (fun _ ih S => match hc_step1 LS pg call ret tb S with
  | some (.inl S') => ih S'
  | _ => none) fuel
noncomputable def hc_till (call : Nat → hc_M → List Value → Nat → hc_H → Option hc_R) (ret : Option FieldType) (tb : hc_K) (tgt : Nat) (fuel : Nat) : hc_S → Option hc_S := Nat.rec (motive := fun _ => hc_S → Option hc_S) (fun _ => none) (fun _ ih S => match Nat.beq S.1 tgt with
  | true => some S
  | false => match hc_step1 LS pg call ret tb S with
    | some (.inl S') => ih S'
    | _ => none) fuel
noncomputable def hc_ev (orc : Nat → List Value → hc_H → Option Value) (fuel : Nat) (d : Nat) : Nat → hc_M → List Value → Nat → hc_H → Option hc_R := Nat.rec (motive := fun _ => Nat → hc_M → List Value → Nat → hc_H → Option hc_R) (fun _ _ _ _ _ => none) (fun _ ih k e as n h => match orc k as h with
  | some v => some (some v, n, h, 0, 0)
  | none => match Nat.ble (hc_cat as) e.2.2.1 with
    | false => none
    | true => hc_run LS pg ih e.2.2.2.1 e.2.2.2.2.2.2 fuel (0, hc_ent as e.2.2.1, [], n, h, 0, 0)) d
end HCR
