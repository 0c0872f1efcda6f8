/-! THE WORLD: the script at b, cells from the address B on, numbered from 1; a symbol (.float j) is the script's int j -/
abbrev hv_E : Type := (Nat × Nat × (Nat → Value)) ⊕ (Nat × (Nat → Value))
abbrev hv_H : Type := Nat → Option hv_E
abbrev hv_G : Type := (Nat × Nat × Nat) × (Nat → Int32) × va_G × (Nat → ClassId)
def hv_ad (G : hv_G) (i : Nat) : Nat := match i with
  | 0 => G.1.2.1
  | i + 1 => G.1.1 + i
def hx_k (k : Nat) : Nat := match k with
  | 0 => 0
  | _ => 1
def hv_v (G : hv_G) (v : Value) : Value := match v with
  | .ref i => .ref (hv_ad G i)
  | .float j => .int (G.2.1 j.toNat)
  | .int x => .int x
  | .long x => .long x
  | .null => .null
  | .double x => .double x
  | .retAddr x => .ref (G.2.2.2 (1000 + hx_k x))
def hv_tyl : List FieldType := [.byte, .int, .long, .boolean, .object "HeardNext$Life", .array .int]
def hv_tys (G : hv_G) : List (ClassId × FieldType) := [(G.2.2.2 0, .byte), (G.2.2.2 1, .int), (G.2.2.2 2, .long), (G.2.2.2 3, .boolean), (G.2.2.2 4, .object "HeardNext$Life"), (G.2.2.2 5, .array .int)]
theorem hv_tys_at {G : hv_G} {t : Nat} {ty : FieldType} (h : hv_tyl[t]? = some ty) : (hv_tys G)[t]? = some (G.2.2.2 t, ty) := by
  match t, h with
  | 0, h => cases h; rfl
  | 1, h => cases h; rfl
  | 2, h => cases h; rfl
  | 3, h => cases h; rfl
  | 4, h => cases h; rfl
  | 5, h => cases h; rfl
  | t + 6, h => simp [hv_tyl] at h
def hv_at (G : hv_G) (i : Nat) (e : hv_E) (H : Heap) : Prop := match e with
  | .inl a => H[G.1.1 + i]? = some (arrV (G.2.2.2 a.1) a.2.1 (fun j => hv_v G (a.2.2 j)))
  | .inr o => ∃ r : vw_C, vwCl[o.1]? = some r ∧ t_OB (G.1.1 + i) (G.2.2.1.1 o.1) r.2.2 (G.2.2.1.2 o.1) H (fun k => hv_v G (o.2 k))
def hv_P (G : hv_G) (n : Nat) (hp : hv_H) (H : Heap) : Prop := H.size = G.1.1 + n ∧ ∀ (i : Nat) (e : hv_E), hp i = some e → hv_at G i e H
def hv_up (hp : hv_H) (i : Nat) (e : hv_E) : hv_H := fun j => if j = i then some e else hp j
def hv_uv (f : Nat → Value) (k : Nat) (v : Value) : Nat → Value := fun j => if j = k then v else f j
theorem hv_v_uv (G : hv_G) (f : Nat → Value) (k : Nat) (v : Value) : (fun j => hv_v G (hv_uv f k v j)) = updV (fun j => hv_v G (f j)) k (hv_v G v) := by
  funext j
  unfold hv_uv updV
  by_cases h : j = k <;> simp [h]
theorem hv_at.kept {G : hv_G} {i : Nat} {e : hv_E} {H H1 : Heap} (h : hv_at G i e H) (hq : H1[G.1.1 + i]? = H[G.1.1 + i]?) : hv_at G i e H1 := by
  match e, h with
  | .inl a, h => exact hq.trans h
  | .inr o, h =>
    obtain ⟨r, h1, h2⟩ := h
    exact ⟨r, h1, h2.kept hq⟩
theorem hv_at.lt {G : hv_G} {i : Nat} {e : hv_E} {H : Heap} (h : hv_at G i e H) : G.1.1 + i < H.size := by
  match e, h with
  | .inl a, h => exact (Array.getElem?_eq_some_iff.mp h).1
  | .inr o, h =>
    obtain ⟨r, h1, cell, h2, -⟩ := h
    exact (Array.getElem?_eq_some_iff.mp h2).1
theorem hv_P.set {G : hv_G} {n : Nat} {hp : hv_H} {i : Nat} {e : hv_E} {H H1 : Heap} (h : hv_P G n hp H) (he : hv_at G i e H1) (hz : H1.size = H.size) (oq : ∀ q : Nat, q ≠ G.1.1 + i → H1[q]? = H[q]?) : hv_P G n (hv_up hp i e) H1 := by
  refine ⟨hz.trans h.1, fun j x hj => ?_⟩
  unfold hv_up at hj
  by_cases hji : j = i
  · subst hji
    rw [if_pos rfl] at hj
    cases hj
    exact he
  · rw [if_neg hji] at hj
    exact (h.2 j x hj).kept (oq _ (by omega))
theorem hv_P.push {G : hv_G} {n : Nat} {hp : hv_H} {e : hv_E} {H H1 : Heap} (h : hv_P G n hp H) (he : hv_at G n e H1) (hz : H1.size = H.size + 1) (oq : ∀ q : Nat, q < H.size → H1[q]? = H[q]?) : hv_P G (n + 1) (hv_up hp n e) H1 := by
  refine ⟨by rw [hz, h.1]; omega, fun j x hj => ?_⟩
  unfold hv_up at hj
  by_cases hji : j = n
  · subst hji
    rw [if_pos rfl] at hj
    cases hj
    exact he
  · rw [if_neg hji] at hj
    exact (h.2 j x hj).kept (oq _ (h.2 j x hj).lt)
def hv_l (G : hv_G) (lv : List (Nat × Value)) : List (Nat × Value) := lv.map (fun q => (q.1, hv_v G q.2))
/-! THE TEXTS: where they lie (G.2.2.2 at 1000 and 1001), what they say, at a state z that all later ones keep -/
/-- the text constants: .retAddr k on the pile stands for the k-th -/
def hc_txt (k : Nat) : List Nat := match k with
  | 0 => [59, 61, 43, 45, 42, 47, 60, 40, 41]
  | _ => [104, 111, 117, 115, 101, 32, 115, 101, 110, 100, 115, 32, 107, 101, 101, 112, 115, 32, 116, 117, 114, 110, 115, 32, 104, 117, 109, 115, 32, 100, 105, 101, 115, 32, 103, 114, 105, 101, 102, 32, 115, 101, 101, 100, 32, 105, 102, 32, 116, 104, 101, 110, 32, 101, 108, 115, 101, 32, 100, 111, 111, 114, 32, 104, 111, 117, 114, 32, 100, 97, 121, 32, 112, 97, 114, 116, 32, 119, 97, 110, 116, 115, 32, 97, 103, 101, 32, 112, 97, 114, 116, 115, 32, 109, 97, 110, 121, 32, 104, 97, 100, 32]
def hx_ix (k : Nat) : Nat := match k with
  | 0 => 39
  | _ => 50
def hx_tt (k : Nat) : String := match k with
  | 0 => ";=+-*/<()"
  | _ => "house sends keeps turns hums dies grief seed if then else door hour day part wants age parts many had "
def hx_T (a : Nat) (bs : List Nat) (z : State) : Prop := ∃ (d : Nat) (C arr : Cell), z.heap[a]? = some C ∧ C.vm.isStatics = false ∧ z.vm.findClass "java/lang/String" = some C.cls ∧ (Cond.exactly (.arg 0) "java/lang/String").before #[.ref a] z = true ∧ z.fieldOf? a "java/lang/String" "value" "[B" = some (.ref d) ∧ z.fieldOf? a "java/lang/String" "coder" "B" = some (.int 0) ∧ z.heap[d]? = some arr ∧ z.isArrayOf arr .byte ∧ arr.vm ≠ .unknown ∧ arr.slots.size = bs.length ∧ ∀ (i b : Nat), bs[i]? = some b → arr.slots[i]? = some (.int (Int32.ofNat b))
def hx_Z (z : State) : Prop := Jvm.Lib.Cold.StaticIs z "java/lang/String" "COMPACT_STRINGS" "Z" (.int 1) ∧ ∃ fmt : Value, Jvm.Lib.Cold.StaticIs z "jdk/internal/util/Preconditions" "SIOOBE_FORMATTER" "Ljava/util/function/BiFunction;" fmt ∧ fmt.isRef = true
def hx_R (G : hv_G) (U : State) : Prop := ∀ k : Nat, (Cond.stringRef "HeardNext$Tokens" (hx_ix k) (hx_tt k)).before #[] U = true ∧ (Term.string "HeardNext$Tokens" (hx_ix k)).eval #[] U none [] U = some (.ref (G.2.2.2 (1000 + hx_k k)))
def hx_K (G : hv_G) (U : State) : Prop := hx_R G U ∧ ∃ z : State, z.heap.size ≤ G.1.1 ∧ (∀ (y : Nat) (c : Cell), z.heap[y]? = some c → U.heap[y]? = some c) ∧ z.vm.Alike U.vm ∧ hx_Z z ∧ ∀ k : Nat, hx_T (G.2.2.2 (1000 + hx_k k)) (hc_txt k) z
theorem hx_keepT {a : Nat} {bs : List Nat} {z U : State} (hal : z.vm.Alike U.vm) (hk : ∀ (y : Nat) (c : Cell), z.heap[y]? = some c → U.heap[y]? = some c) (h : hx_T a bs z) : hx_T a bs U := by
  obtain ⟨d, C, arr, h1, h2, h3, h4, h5, h6, h7, h8, h9, h10, h11⟩ := h
  have fk : ∀ (name desc : String), U.fieldOf? a "java/lang/String" name desc = z.fieldOf? a "java/lang/String" name desc := fun name desc => by
    have e1 : U.fieldOf? a "java/lang/String" name desc = (z.setVm U.vm).fieldOf? a "java/lang/String" name desc := by
      have e0 : U.heap[a]? = (z.setVm U.vm).heap[a]? := (hk a C h1).trans h1.symm
      simp only [State.fieldOf?, State.fieldNamed?, State.fieldFound?, e0]
      rfl
    exact e1.trans (State.fieldOf?_setVm hal a _ _ _)
  refine ⟨d, C, arr, hk _ _ h1, h2, by rw [hal.findClass]; exact h3, ?_, by rw [fk]; exact h5, by rw [fk]; exact h6, hk _ _ h7, State.isArrayOf_alike hal h8, h9, h10, h11⟩
  have e2 : (Cond.exactly (.arg 0) "java/lang/String").before #[.ref a] (z.setVm U.vm) = true := (exactly_setVm_of hal (b := a) rfl rfl).trans h4
  have e3 : (Cond.exactly (.arg 0) "java/lang/String").before #[.ref a] U = (Cond.exactly (.arg 0) "java/lang/String").before #[.ref a] (z.setVm U.vm) := by
    have e0 : U.heap[a]? = (z.setVm U.vm).heap[a]? := (hk a C h1).trans h1.symm
    have e4 : (#[Value.ref a] : Array Value)[0]? = some (.ref a) := rfl
    simp only [Cond.before, Cond.holds, Cond.value, Term.eval, e4, State.vm_setVm]
    cases hf : U.vm.findClass "java/lang/String" with
    | none => rfl
    | some c =>
      simp only [e0]
  rw [e3]
  exact e2
theorem hx_keepS {z U : State} {cls name desc : String} {v : Value} (hal : z.vm.Alike U.vm) (hk : ∀ (y : Nat) (c : Cell), z.heap[y]? = some c → U.heap[y]? = some c) (h : Jvm.Lib.Cold.StaticIs z cls name desc v) : Jvm.Lib.Cold.StaticIs U cls name desc v := by
  obtain ⟨cf, i, k, f, a1, cell1, h1, h2, h3, h4, h5, h6, h7⟩ := h
  obtain ⟨k', hk', he⟩ := State.fieldFound?_setVm hal h1
  exact ⟨cf, i, k', f, a1, cell1, hk', h2, by rw [he]; exact h3, by rw [he]; exact h4, hk _ _ h5, h6, h7⟩
/-- what a state knows of the texts -/
theorem hx_K.at {G : hv_G} {U : State} (h : hx_K G U) : hx_Z U ∧ ∀ k : Nat, hx_T (G.2.2.2 (1000 + hx_k k)) (hc_txt k) U := by
  obtain ⟨-, z, -, hk, hal, ⟨z1, fmt, z2, z3⟩, ht⟩ := h
  exact ⟨⟨hx_keepS hal hk z1, fmt, hx_keepS hal hk z2, z3⟩, fun k => hx_keepT hal hk (ht k)⟩
theorem hx_R.moved {G : hv_G} {s U : State} (hW : s.WarmedH U.vm) (h : hx_R G s) : hx_R G U := by
  intro k
  obtain ⟨h1, h2⟩ := h k
  have hcur : ∃ cur, s.vm.findClass "HeardNext$Tokens" = some cur := by
    simp only [Term.eval] at h2
    cases hf : s.vm.findClass "HeardNext$Tokens" with
    | none => simp [hf] at h2
    | some c => exact ⟨c, rfl⟩
  obtain ⟨cur, hcur⟩ := hcur
  have g1 := Cond.stringRef_warmed hW h1
  have g2 := Term.string_eval_warmed hW hcur h1 h2
  refine ⟨?_, ?_⟩
  · rw [← g1]
    simp only [Cond.before, Cond.holds, Cond.value, State.vm_setVm, State.names, State.poolOf?, State.resolvedAt?]
    rfl
  · rw [← g2]
    exact Term.string_eval_of_vm rfl
theorem hx_K.moved {G : hv_G} {s U : State} (hW : s.WarmedH U.vm) (hU : ∀ q : Nat, q < G.1.1 → U.heap[q]? = s.heap[q]?) (h : hx_K G s) : hx_K G U := by
  obtain ⟨h1, z, hz, hk, hal, hZ⟩ := h
  refine ⟨h1.moved hW, z, hz, fun y c hy => ?_, hal.trans hW.alike, hZ⟩
  have hlt : y < z.heap.size := (Array.getElem?_eq_some_iff.mp hy).1
  rw [hU y (by omega)]
  exact hk y c hy
def hv_X (G : hv_G) (p : Program) (s : State) (m : MethodId) (args : Array Value) (c : Code) (Ts : List Cond) (own : String) (cc : ByteArray) (nL : Nat) : Prop :=
  p.tables.exec = Jvm.exec ∧ c.code = cc ∧ c.maxLocals = nL ∧ s.vm.findClass own = some m.cls ∧ (∀ w ∈ Ts, w.before args s = true) ∧ va_K G.2.2.1 vwCl (hv_tys G) s ∧ G.1.1 ≤ s.heap.size ∧ G.1.2.1 < G.1.1 ∧ hx_K G s ∧ va_X G.1.2.1 G.1.2.2 G.2.1 s s.heap
def hv_W (G : hv_G) (p : Program) (l : Launch) (e : Env) (R : Room) (s : State) (m : MethodId) (args : Array Value) (below : List Frame) (meth : Method) (c : Code) (nL : Nat) (Q : State → Prop) (n : Nat) (hp : hv_H) (cells slots pc : Nat) (lv : List (Nat × Value)) (st : List Value) : Prop :=
  ∀ (H : Heap) (locs : List Loc) (ls : Array Slot), hv_P G n hp H → (∀ q : Nat, q < G.1.1 → H[q]? = s.heap[q]?) → (∀ q ∈ locs, G.1.1 ≤ q.base) → lv_has ls nL (hv_l G lv) → W p l e R s m args below meth c H locs cells slots Q (F0 m pc ls (st.map (hv_v G)))
def hv_s1 (i : Nat) (v : Value) (lv : List (Nat × Value)) : List (Nat × Value) := (i, v) :: lv.filter (fun q => !(q.1 == i) && !(q.1 + 1 == i && q.2.category == 2))
def hv_s2 (i : Nat) (v : Value) (lv : List (Nat × Value)) : List (Nat × Value) := (i, v) :: lv.filter (fun q => !(q.1 == i) && (!(q.1 == i + 1) && !(q.1 + 1 == i && q.2.category == 2)))
theorem hv_cat (G : hv_G) (v : Value) : (hv_v G v).category = v.category := by cases v <;> rfl
theorem hv_l_s1 (G : hv_G) (i : Nat) (v : Value) (lv : List (Nat × Value)) : (i, hv_v G v) :: (hv_l G lv).filter (fun q => !(q.1 == i) && !(q.1 + 1 == i && q.2.category == 2)) = hv_l G (hv_s1 i v lv) := by
  unfold hv_l hv_s1
  rw [List.map_cons, List.filter_map]
  congr 3
  funext q
  simp only [Function.comp, hv_cat]
theorem hv_l_s2 (G : hv_G) (i : Nat) (v : Value) (lv : List (Nat × Value)) : (i, hv_v G v) :: (hv_l G lv).filter (fun q => !(q.1 == i) && (!(q.1 == i + 1) && !(q.1 + 1 == i && q.2.category == 2))) = hv_l G (hv_s2 i v lv) := by
  unfold hv_l hv_s2
  rw [List.map_cons, List.filter_map]
  congr 3
  funext q
  simp only [Function.comp, hv_cat]
theorem hv_l_at {G : hv_G} {ls : Array Slot} {nL : Nat} {lv : List (Nat × Value)} (h : lv_has ls nL (hv_l G lv)) {i : Nat} {v : Value} (hm : (i, v) ∈ lv) : ls[i]? = some (.val (hv_v G v)) := h.2.2 (i, hv_v G v) (List.mem_map.mpr ⟨(i, v), hm, rfl⟩)
theorem hv_cats (G : hv_G) (st : List Value) : ((st.map (hv_v G)).map fun v => v.category).sum = (st.map fun v => v.category).sum := by
  rw [List.map_map]
  congr 1
  apply List.map_congr_left
  intro v _
  exact hv_cat G v
section HW
variable {G : hv_G} {p : Program} {l : Launch} {e : Env} {R : Room} {s : State} {m : MethodId} {args : Array Value} {below : List Frame} {meth : Method} {c : Code} {nL : Nat} {Q : State → Prop} {n : Nat} {hp : hv_H} {cells slots pc : Nat} {lv : List (Nat × Value)} {st : List Value} {Ts : List Cond} {own : String} {cc : ByteArray}
theorem hw_iconst (X : hv_X G p s m args c Ts own cc nL) {z : Int} {v : Int32} (hd : decode cc pc = .ok (.iconst z, 1)) (hv : Int32.ofInt z = v) (k : hv_W G p l e R s m args below meth c nL Q n hp cells slots (pc + 1) lv (.int v :: st)) : hv_W G p l e R s m args below meth c nL Q n hp cells slots pc lv st := fun H locs ls h1 h2 h3 h4 => lv_iconst X.1 X.2.1 hd hv (k H locs ls h1 h2 h3 h4)
theorem hw_bipush (X : hv_X G p s m args c Ts own cc nL) {z : Int} {v : Int32} (hd : decode cc pc = .ok (.bipush z, 2)) (hv : (Int8.ofInt z).toInt32 = v) (k : hv_W G p l e R s m args below meth c nL Q n hp cells slots (pc + 2) lv (.int v :: st)) : hv_W G p l e R s m args below meth c nL Q n hp cells slots pc lv st := fun H locs ls h1 h2 h3 h4 => lv_bipush X.1 X.2.1 hd hv (k H locs ls h1 h2 h3 h4)
theorem hw_sipush (X : hv_X G p s m args c Ts own cc nL) {z : Int} {v : Int32} (hd : decode cc pc = .ok (.sipush z, 3)) (hv : (Int16.ofInt z).toInt32 = v) (k : hv_W G p l e R s m args below meth c nL Q n hp cells slots (pc + 3) lv (.int v :: st)) : hv_W G p l e R s m args below meth c nL Q n hp cells slots pc lv st := fun H locs ls h1 h2 h3 h4 => lv_sipush X.1 X.2.1 hd hv (k H locs ls h1 h2 h3 h4)
theorem hw_lconst (X : hv_X G p s m args c Ts own cc nL) {z : Fin 2} {v : Int64} (hd : decode cc pc = .ok (.lconst z, 1)) (hv : Int64.ofNat (z : Nat) = v) (k : hv_W G p l e R s m args below meth c nL Q n hp cells slots (pc + 1) lv (.long v :: st)) : hv_W G p l e R s m args below meth c nL Q n hp cells slots pc lv st := fun H locs ls h1 h2 h3 h4 => lv_lconst X.1 X.2.1 hd hv (k H locs ls h1 h2 h3 h4)
theorem hw_ldc (X : hv_X G p s m args c Ts own cc nL) {ix : Nat} {v : Int32} (hd : decode cc pc = .ok (.ldc ix, 2)) (hw : Cond.constant own ix v ∈ Ts) (k : hv_W G p l e R s m args below meth c nL Q n hp cells slots (pc + 2) lv (.int v :: st)) : hv_W G p l e R s m args below meth c nL Q n hp cells slots pc lv st := fun H locs ls h1 h2 h3 h4 => lv_ldc X.1 X.2.1 X.2.2.2.1 (X.2.2.2.2.1 _ hw) hd (k H locs ls h1 h2 h3 h4)
theorem hw_ldcw (X : hv_X G p s m args c Ts own cc nL) {ix : Nat} {v : Int32} (hd : decode cc pc = .ok (.ldc_w ix, 3)) (hw : Cond.constant own ix v ∈ Ts) (k : hv_W G p l e R s m args below meth c nL Q n hp cells slots (pc + 3) lv (.int v :: st)) : hv_W G p l e R s m args below meth c nL Q n hp cells slots pc lv st := fun H locs ls h1 h2 h3 h4 => lv_ldcw X.1 X.2.1 X.2.2.2.1 (X.2.2.2.2.1 _ hw) hd (k H locs ls h1 h2 h3 h4)
theorem hw_ldc2 (X : hv_X G p s m args c Ts own cc nL) {ix : Nat} {v : Int64} (hd : decode cc pc = .ok (.ldc2_w ix, 3)) (hw : Cond.constantLong own ix v ∈ Ts) (k : hv_W G p l e R s m args below meth c nL Q n hp cells slots (pc + 3) lv (.long v :: st)) : hv_W G p l e R s m args below meth c nL Q n hp cells slots pc lv st := fun H locs ls h1 h2 h3 h4 => lv_ldc2 X.1 X.2.1 X.2.2.2.1 (X.2.2.2.2.1 _ hw) hd (k H locs ls h1 h2 h3 h4)
theorem hw_iload_n (X : hv_X G p s m args c Ts own cc nL) {kf : Fin 4} {i : Nat} {x : Int32} (hd : decode cc pc = .ok (.iload_n kf, 1)) (hi : (kf : Nat) = i) (hm : (i, .int x) ∈ lv) (k : hv_W G p l e R s m args below meth c nL Q n hp cells slots (pc + 1) lv (.int x :: st)) : hv_W G p l e R s m args below meth c nL Q n hp cells slots pc lv st := fun H locs ls h1 h2 h3 h4 => lv_iload_n X.1 X.2.1 hd hi (hv_l_at h4 hm) (k H locs ls h1 h2 h3 h4)
theorem hw_iload_nS (X : hv_X G p s m args c Ts own cc nL) {kf : Fin 4} {i : Nat} {x : UInt32} (hd : decode cc pc = .ok (.iload_n kf, 1)) (hi : (kf : Nat) = i) (hm : (i, .float x) ∈ lv) (k : hv_W G p l e R s m args below meth c nL Q n hp cells slots (pc + 1) lv (.float x :: st)) : hv_W G p l e R s m args below meth c nL Q n hp cells slots pc lv st := fun H locs ls h1 h2 h3 h4 => lv_iload_n X.1 X.2.1 hd hi (hv_l_at h4 hm) (k H locs ls h1 h2 h3 h4)
theorem hw_iload (X : hv_X G p s m args c Ts own cc nL) {i : Nat} {x : Int32} (hd : decode cc pc = .ok (.iload i, 2)) (hm : (i, .int x) ∈ lv) (k : hv_W G p l e R s m args below meth c nL Q n hp cells slots (pc + 2) lv (.int x :: st)) : hv_W G p l e R s m args below meth c nL Q n hp cells slots pc lv st := fun H locs ls h1 h2 h3 h4 => lv_iload X.1 X.2.1 hd (hv_l_at h4 hm) (k H locs ls h1 h2 h3 h4)
theorem hw_iloadS (X : hv_X G p s m args c Ts own cc nL) {i : Nat} {x : UInt32} (hd : decode cc pc = .ok (.iload i, 2)) (hm : (i, .float x) ∈ lv) (k : hv_W G p l e R s m args below meth c nL Q n hp cells slots (pc + 2) lv (.float x :: st)) : hv_W G p l e R s m args below meth c nL Q n hp cells slots pc lv st := fun H locs ls h1 h2 h3 h4 => lv_iload X.1 X.2.1 hd (hv_l_at h4 hm) (k H locs ls h1 h2 h3 h4)
theorem hw_lload_n (X : hv_X G p s m args c Ts own cc nL) {kf : Fin 4} {i : Nat} {x : Int64} (hd : decode cc pc = .ok (.lload_n kf, 1)) (hi : (kf : Nat) = i) (hm : (i, .long x) ∈ lv) (k : hv_W G p l e R s m args below meth c nL Q n hp cells slots (pc + 1) lv (.long x :: st)) : hv_W G p l e R s m args below meth c nL Q n hp cells slots pc lv st := fun H locs ls h1 h2 h3 h4 => lv_lload_n X.1 X.2.1 hd hi (hv_l_at h4 hm) (k H locs ls h1 h2 h3 h4)
theorem hw_lload (X : hv_X G p s m args c Ts own cc nL) {i : Nat} {x : Int64} (hd : decode cc pc = .ok (.lload i, 2)) (hm : (i, .long x) ∈ lv) (k : hv_W G p l e R s m args below meth c nL Q n hp cells slots (pc + 2) lv (.long x :: st)) : hv_W G p l e R s m args below meth c nL Q n hp cells slots pc lv st := fun H locs ls h1 h2 h3 h4 => lv_lload X.1 X.2.1 hd (hv_l_at h4 hm) (k H locs ls h1 h2 h3 h4)
theorem hw_aload_n (X : hv_X G p s m args c Ts own cc nL) {kf : Fin 4} {i : Nat} {x : Nat} (hd : decode cc pc = .ok (.aload_n kf, 1)) (hi : (kf : Nat) = i) (hm : (i, .ref x) ∈ lv) (k : hv_W G p l e R s m args below meth c nL Q n hp cells slots (pc + 1) lv (.ref x :: st)) : hv_W G p l e R s m args below meth c nL Q n hp cells slots pc lv st := fun H locs ls h1 h2 h3 h4 => lv_aload_n X.1 X.2.1 hd hi (hv_l_at h4 hm) (k H locs ls h1 h2 h3 h4)
theorem hw_aload (X : hv_X G p s m args c Ts own cc nL) {i : Nat} {x : Nat} (hd : decode cc pc = .ok (.aload i, 2)) (hm : (i, .ref x) ∈ lv) (k : hv_W G p l e R s m args below meth c nL Q n hp cells slots (pc + 2) lv (.ref x :: st)) : hv_W G p l e R s m args below meth c nL Q n hp cells slots pc lv st := fun H locs ls h1 h2 h3 h4 => lv_aload X.1 X.2.1 hd (hv_l_at h4 hm) (k H locs ls h1 h2 h3 h4)
theorem hw_istore_n (X : hv_X G p s m args c Ts own cc nL) {kf : Fin 4} {i : Nat} {x : Int32} (hd : decode cc pc = .ok (.istore_n kf, 1)) (hi : (kf : Nat) = i) (hn : i < nL) (k : hv_W G p l e R s m args below meth c nL Q n hp cells slots (pc + 1) (hv_s1 i (.int x) lv) st) : hv_W G p l e R s m args below meth c nL Q n hp cells slots pc lv (.int x :: st) := fun H locs ls h1 h2 h3 h4 => lv_istore_n X.1 X.2.1 hd hi h4 hn (hv_l_s1 G i (.int x) lv) (fun ls h4 => k H locs ls h1 h2 h3 h4)
theorem hw_istore_nS (X : hv_X G p s m args c Ts own cc nL) {kf : Fin 4} {i : Nat} {x : UInt32} (hd : decode cc pc = .ok (.istore_n kf, 1)) (hi : (kf : Nat) = i) (hn : i < nL) (k : hv_W G p l e R s m args below meth c nL Q n hp cells slots (pc + 1) (hv_s1 i (.float x) lv) st) : hv_W G p l e R s m args below meth c nL Q n hp cells slots pc lv (.float x :: st) := fun H locs ls h1 h2 h3 h4 => lv_istore_n X.1 X.2.1 hd hi h4 hn (hv_l_s1 G i (.float x) lv) (fun ls h4 => k H locs ls h1 h2 h3 h4)
theorem hw_istore (X : hv_X G p s m args c Ts own cc nL) {i : Nat} {x : Int32} (hd : decode cc pc = .ok (.istore i, 2)) (hn : i < nL) (k : hv_W G p l e R s m args below meth c nL Q n hp cells slots (pc + 2) (hv_s1 i (.int x) lv) st) : hv_W G p l e R s m args below meth c nL Q n hp cells slots pc lv (.int x :: st) := fun H locs ls h1 h2 h3 h4 => lv_istore X.1 X.2.1 hd h4 hn (hv_l_s1 G i (.int x) lv) (fun ls h4 => k H locs ls h1 h2 h3 h4)
theorem hw_istoreS (X : hv_X G p s m args c Ts own cc nL) {i : Nat} {x : UInt32} (hd : decode cc pc = .ok (.istore i, 2)) (hn : i < nL) (k : hv_W G p l e R s m args below meth c nL Q n hp cells slots (pc + 2) (hv_s1 i (.float x) lv) st) : hv_W G p l e R s m args below meth c nL Q n hp cells slots pc lv (.float x :: st) := fun H locs ls h1 h2 h3 h4 => lv_istore X.1 X.2.1 hd h4 hn (hv_l_s1 G i (.float x) lv) (fun ls h4 => k H locs ls h1 h2 h3 h4)
theorem hw_lstore_n (X : hv_X G p s m args c Ts own cc nL) {kf : Fin 4} {i : Nat} {x : Int64} (hd : decode cc pc = .ok (.lstore_n kf, 1)) (hi : (kf : Nat) = i) (hn : i + 1 < nL) (k : hv_W G p l e R s m args below meth c nL Q n hp cells slots (pc + 1) (hv_s2 i (.long x) lv) st) : hv_W G p l e R s m args below meth c nL Q n hp cells slots pc lv (.long x :: st) := fun H locs ls h1 h2 h3 h4 => lv_lstore_n X.1 X.2.1 hd hi h4 hn (hv_l_s2 G i (.long x) lv) (fun ls h4 => k H locs ls h1 h2 h3 h4)
theorem hw_lstore (X : hv_X G p s m args c Ts own cc nL) {i : Nat} {x : Int64} (hd : decode cc pc = .ok (.lstore i, 2)) (hn : i + 1 < nL) (k : hv_W G p l e R s m args below meth c nL Q n hp cells slots (pc + 2) (hv_s2 i (.long x) lv) st) : hv_W G p l e R s m args below meth c nL Q n hp cells slots pc lv (.long x :: st) := fun H locs ls h1 h2 h3 h4 => lv_lstore X.1 X.2.1 hd h4 hn (hv_l_s2 G i (.long x) lv) (fun ls h4 => k H locs ls h1 h2 h3 h4)
theorem hw_astore_n (X : hv_X G p s m args c Ts own cc nL) {kf : Fin 4} {i : Nat} {x : Nat} (hd : decode cc pc = .ok (.astore_n kf, 1)) (hi : (kf : Nat) = i) (hn : i < nL) (k : hv_W G p l e R s m args below meth c nL Q n hp cells slots (pc + 1) (hv_s1 i (.ref x) lv) st) : hv_W G p l e R s m args below meth c nL Q n hp cells slots pc lv (.ref x :: st) := fun H locs ls h1 h2 h3 h4 => lv_astore_n X.1 X.2.1 hd hi h4 hn (hv_l_s1 G i (.ref x) lv) (fun ls h4 => k H locs ls h1 h2 h3 h4)
theorem hw_astore (X : hv_X G p s m args c Ts own cc nL) {i : Nat} {x : Nat} (hd : decode cc pc = .ok (.astore i, 2)) (hn : i < nL) (k : hv_W G p l e R s m args below meth c nL Q n hp cells slots (pc + 2) (hv_s1 i (.ref x) lv) st) : hv_W G p l e R s m args below meth c nL Q n hp cells slots pc lv (.ref x :: st) := fun H locs ls h1 h2 h3 h4 => lv_astore X.1 X.2.1 hd h4 hn (hv_l_s1 G i (.ref x) lv) (fun ls h4 => k H locs ls h1 h2 h3 h4)
theorem hw_iinc (X : hv_X G p s m args c Ts own cc nL) {i : Nat} {z : Int} {x : Int32} (hd : decode cc pc = .ok (.iinc i z, 3)) (hm : (i, .int x) ∈ lv) (hn : i < nL) (k : hv_W G p l e R s m args below meth c nL Q n hp cells slots (pc + 3) (hv_s1 i (.int (x + Int32.ofInt z)) lv) st) : hv_W G p l e R s m args below meth c nL Q n hp cells slots pc lv st := by
  intro H locs ls h1 h2 h3 h4
  have hm' : (i, Value.int x) ∈ hv_l G lv := List.mem_map.mpr ⟨(i, .int x), hm, rfl⟩
  obtain ⟨k0, hk0⟩ := List.mem_iff_getElem?.mp hm'
  exact lv_iinc X.1 X.2.1 hd h4 hk0 rfl hn (hv_l_s1 G i (.int (x + Int32.ofInt z)) lv) (fun ls h4 => k H locs ls h1 h2 h3 h4)
theorem hw_iadd (X : hv_X G p s m args c Ts own cc nL) {x y : Int32} (hd : decode cc pc = .ok (.iadd, 1))  (k : hv_W G p l e R s m args below meth c nL Q n hp cells slots (pc + 1) lv (.int (x + y) :: st)) : hv_W G p l e R s m args below meth c nL Q n hp cells slots pc lv (.int y :: .int x :: st) := fun H locs ls h1 h2 h3 h4 => lv_iadd X.1 X.2.1 hd (k H locs ls h1 h2 h3 h4)
theorem hw_isub (X : hv_X G p s m args c Ts own cc nL) {x y : Int32} (hd : decode cc pc = .ok (.isub, 1))  (k : hv_W G p l e R s m args below meth c nL Q n hp cells slots (pc + 1) lv (.int (x - y) :: st)) : hv_W G p l e R s m args below meth c nL Q n hp cells slots pc lv (.int y :: .int x :: st) := fun H locs ls h1 h2 h3 h4 => lv_isub X.1 X.2.1 hd (k H locs ls h1 h2 h3 h4)
theorem hw_imul (X : hv_X G p s m args c Ts own cc nL) {x y : Int32} (hd : decode cc pc = .ok (.imul, 1))  (k : hv_W G p l e R s m args below meth c nL Q n hp cells slots (pc + 1) lv (.int (x * y) :: st)) : hv_W G p l e R s m args below meth c nL Q n hp cells slots pc lv (.int y :: .int x :: st) := fun H locs ls h1 h2 h3 h4 => lv_imul X.1 X.2.1 hd (k H locs ls h1 h2 h3 h4)
theorem hw_iand (X : hv_X G p s m args c Ts own cc nL) {x y : Int32} (hd : decode cc pc = .ok (.iand, 1))  (k : hv_W G p l e R s m args below meth c nL Q n hp cells slots (pc + 1) lv (.int (x &&& y) :: st)) : hv_W G p l e R s m args below meth c nL Q n hp cells slots pc lv (.int y :: .int x :: st) := fun H locs ls h1 h2 h3 h4 => lv_iand X.1 X.2.1 hd (k H locs ls h1 h2 h3 h4)
theorem hw_ior (X : hv_X G p s m args c Ts own cc nL) {x y : Int32} (hd : decode cc pc = .ok (.ior, 1))  (k : hv_W G p l e R s m args below meth c nL Q n hp cells slots (pc + 1) lv (.int (x ||| y) :: st)) : hv_W G p l e R s m args below meth c nL Q n hp cells slots pc lv (.int y :: .int x :: st) := fun H locs ls h1 h2 h3 h4 => lv_ior X.1 X.2.1 hd (k H locs ls h1 h2 h3 h4)
theorem hw_ixor (X : hv_X G p s m args c Ts own cc nL) {x y : Int32} (hd : decode cc pc = .ok (.ixor, 1))  (k : hv_W G p l e R s m args below meth c nL Q n hp cells slots (pc + 1) lv (.int (x ^^^ y) :: st)) : hv_W G p l e R s m args below meth c nL Q n hp cells slots pc lv (.int y :: .int x :: st) := fun H locs ls h1 h2 h3 h4 => lv_ixor X.1 X.2.1 hd (k H locs ls h1 h2 h3 h4)
theorem hw_idiv (X : hv_X G p s m args c Ts own cc nL) {x y : Int32} (hd : decode cc pc = .ok (.idiv, 1)) (hne : ¬ y = 0) (k : hv_W G p l e R s m args below meth c nL Q n hp cells slots (pc + 1) lv (.int (x / y) :: st)) : hv_W G p l e R s m args below meth c nL Q n hp cells slots pc lv (.int y :: .int x :: st) := fun H locs ls h1 h2 h3 h4 => lv_idiv X.1 X.2.1 hd hne (k H locs ls h1 h2 h3 h4)
theorem hw_irem (X : hv_X G p s m args c Ts own cc nL) {x y : Int32} (hd : decode cc pc = .ok (.irem, 1)) (hne : ¬ y = 0) (k : hv_W G p l e R s m args below meth c nL Q n hp cells slots (pc + 1) lv (.int (x - x / y * y) :: st)) : hv_W G p l e R s m args below meth c nL Q n hp cells slots pc lv (.int y :: .int x :: st) := fun H locs ls h1 h2 h3 h4 => lv_irem X.1 X.2.1 hd hne (k H locs ls h1 h2 h3 h4)
theorem hw_ishl (X : hv_X G p s m args c Ts own cc nL) {x y : Int32} (hd : decode cc pc = .ok (.ishl, 1))  (k : hv_W G p l e R s m args below meth c nL Q n hp cells slots (pc + 1) lv (.int (x <<< (y &&& 31)) :: st)) : hv_W G p l e R s m args below meth c nL Q n hp cells slots pc lv (.int y :: .int x :: st) := fun H locs ls h1 h2 h3 h4 => lv_ishl X.1 X.2.1 hd (k H locs ls h1 h2 h3 h4)
theorem hw_ishr (X : hv_X G p s m args c Ts own cc nL) {x y : Int32} (hd : decode cc pc = .ok (.ishr, 1))  (k : hv_W G p l e R s m args below meth c nL Q n hp cells slots (pc + 1) lv (.int (x >>> (y &&& 31)) :: st)) : hv_W G p l e R s m args below meth c nL Q n hp cells slots pc lv (.int y :: .int x :: st) := fun H locs ls h1 h2 h3 h4 => lv_ishr X.1 X.2.1 hd (k H locs ls h1 h2 h3 h4)
theorem hw_iushr (X : hv_X G p s m args c Ts own cc nL) {x y : Int32} (hd : decode cc pc = .ok (.iushr, 1))  (k : hv_W G p l e R s m args below meth c nL Q n hp cells slots (pc + 1) lv (.int ((x.toUInt32 >>> (y.toUInt32 &&& Int32.toUInt32 31)).toInt32) :: st)) : hv_W G p l e R s m args below meth c nL Q n hp cells slots pc lv (.int y :: .int x :: st) := fun H locs ls h1 h2 h3 h4 => lv_iushr X.1 X.2.1 hd rfl (k H locs ls h1 h2 h3 h4)
theorem hw_ladd (X : hv_X G p s m args c Ts own cc nL) {x y : Int64} (hd : decode cc pc = .ok (.ladd, 1))  (k : hv_W G p l e R s m args below meth c nL Q n hp cells slots (pc + 1) lv (.long (x + y) :: st)) : hv_W G p l e R s m args below meth c nL Q n hp cells slots pc lv (.long y :: .long x :: st) := fun H locs ls h1 h2 h3 h4 => lv_ladd X.1 X.2.1 hd (k H locs ls h1 h2 h3 h4)
theorem hw_lsub (X : hv_X G p s m args c Ts own cc nL) {x y : Int64} (hd : decode cc pc = .ok (.lsub, 1))  (k : hv_W G p l e R s m args below meth c nL Q n hp cells slots (pc + 1) lv (.long (x - y) :: st)) : hv_W G p l e R s m args below meth c nL Q n hp cells slots pc lv (.long y :: .long x :: st) := fun H locs ls h1 h2 h3 h4 => lv_lsub X.1 X.2.1 hd (k H locs ls h1 h2 h3 h4)
theorem hw_lmul (X : hv_X G p s m args c Ts own cc nL) {x y : Int64} (hd : decode cc pc = .ok (.lmul, 1))  (k : hv_W G p l e R s m args below meth c nL Q n hp cells slots (pc + 1) lv (.long (x * y) :: st)) : hv_W G p l e R s m args below meth c nL Q n hp cells slots pc lv (.long y :: .long x :: st) := fun H locs ls h1 h2 h3 h4 => lv_lmul X.1 X.2.1 hd (k H locs ls h1 h2 h3 h4)
theorem hw_lor (X : hv_X G p s m args c Ts own cc nL) {x y : Int64} (hd : decode cc pc = .ok (.lor, 1))  (k : hv_W G p l e R s m args below meth c nL Q n hp cells slots (pc + 1) lv (.long (x ||| y) :: st)) : hv_W G p l e R s m args below meth c nL Q n hp cells slots pc lv (.long y :: .long x :: st) := fun H locs ls h1 h2 h3 h4 => lv_lor X.1 X.2.1 hd (k H locs ls h1 h2 h3 h4)
theorem hw_lshl (X : hv_X G p s m args c Ts own cc nL) {x : Int64} {y : Int32} (hd : decode cc pc = .ok (.lshl, 1))  (k : hv_W G p l e R s m args below meth c nL Q n hp cells slots (pc + 1) lv (.long (x <<< (y.toInt64 &&& 63)) :: st)) : hv_W G p l e R s m args below meth c nL Q n hp cells slots pc lv (.int y :: .long x :: st) := fun H locs ls h1 h2 h3 h4 => lv_lshl X.1 X.2.1 hd rfl (k H locs ls h1 h2 h3 h4)
theorem hw_lcmp (X : hv_X G p s m args c Ts own cc nL) {x y : Int64} (hd : decode cc pc = .ok (.lcmp, 1))  (k : hv_W G p l e R s m args below meth c nL Q n hp cells slots (pc + 1) lv (.int (lg_cmp x y) :: st)) : hv_W G p l e R s m args below meth c nL Q n hp cells slots pc lv (.long y :: .long x :: st) := fun H locs ls h1 h2 h3 h4 => W.lcmp X.1 X.2.1 hd (k H locs ls h1 h2 h3 h4)
theorem hw_i2l (X : hv_X G p s m args c Ts own cc nL) {x : Int32} (hd : decode cc pc = .ok (.i2l, 1))  (k : hv_W G p l e R s m args below meth c nL Q n hp cells slots (pc + 1) lv (.long x.toInt64 :: st)) : hv_W G p l e R s m args below meth c nL Q n hp cells slots pc lv (.int x :: st) := fun H locs ls h1 h2 h3 h4 => lv_i2l X.1 X.2.1 hd rfl (k H locs ls h1 h2 h3 h4)
theorem hw_l2i (X : hv_X G p s m args c Ts own cc nL) {x : Int64} (hd : decode cc pc = .ok (.l2i, 1))  (k : hv_W G p l e R s m args below meth c nL Q n hp cells slots (pc + 1) lv (.int x.toInt32 :: st)) : hv_W G p l e R s m args below meth c nL Q n hp cells slots pc lv (.long x :: st) := fun H locs ls h1 h2 h3 h4 => lv_l2i X.1 X.2.1 hd rfl (k H locs ls h1 h2 h3 h4)
theorem hw_i2b (X : hv_X G p s m args c Ts own cc nL) {x : Int32} (hd : decode cc pc = .ok (.i2b, 1))  (k : hv_W G p l e R s m args below meth c nL Q n hp cells slots (pc + 1) lv (.int x.toInt8.toInt32 :: st)) : hv_W G p l e R s m args below meth c nL Q n hp cells slots pc lv (.int x :: st) := fun H locs ls h1 h2 h3 h4 => lv_i2b X.1 X.2.1 hd rfl (k H locs ls h1 h2 h3 h4)
theorem hw_i2c (X : hv_X G p s m args c Ts own cc nL) {x : Int32} (hd : decode cc pc = .ok (.i2c, 1))  (k : hv_W G p l e R s m args below meth c nL Q n hp cells slots (pc + 1) lv (.int (x.toUInt32 % 65536).toInt32 :: st)) : hv_W G p l e R s m args below meth c nL Q n hp cells slots pc lv (.int x :: st) := fun H locs ls h1 h2 h3 h4 => lv_i2c X.1 X.2.1 hd rfl (k H locs ls h1 h2 h3 h4)
theorem hw_iushrS (X : hv_X G p s m args c Ts own cc nL) {y : Int32} {j i : UInt32} (hd : decode cc pc = .ok (.iushr, 1)) (hv : G.2.1 i.toNat = ((G.2.1 j.toNat).toUInt32 >>> (y.toUInt32 &&& Int32.toUInt32 31)).toInt32) (k : hv_W G p l e R s m args below meth c nL Q n hp cells slots (pc + 1) lv (.float i :: st)) : hv_W G p l e R s m args below meth c nL Q n hp cells slots pc lv (.int y :: .float j :: st) := by
  intro H locs ls h1 h2 h3 h4
  have hk := k H locs ls h1 h2 h3 h4
  have e : hv_v G (.float i) = .int (((G.2.1 j.toNat).toUInt32 >>> (y.toUInt32 &&& Int32.toUInt32 31)).toInt32) := congrArg Value.int hv
  rw [List.map_cons, e] at hk
  exact lv_iushr X.1 X.2.1 hd rfl hk
theorem hw_ishrS (X : hv_X G p s m args c Ts own cc nL) {y : Int32} {j i : UInt32} (hd : decode cc pc = .ok (.ishr, 1)) (hv : G.2.1 i.toNat = (G.2.1 j.toNat) >>> (y &&& 31)) (k : hv_W G p l e R s m args below meth c nL Q n hp cells slots (pc + 1) lv (.float i :: st)) : hv_W G p l e R s m args below meth c nL Q n hp cells slots pc lv (.int y :: .float j :: st) := by
  intro H locs ls h1 h2 h3 h4
  have hk := k H locs ls h1 h2 h3 h4
  have e : hv_v G (.float i) = .int ((G.2.1 j.toNat) >>> (y &&& 31)) := congrArg Value.int hv
  rw [List.map_cons, e] at hk
  exact lv_ishr X.1 X.2.1 hd hk
theorem hw_i2bS (X : hv_X G p s m args c Ts own cc nL) {j i : UInt32} (hd : decode cc pc = .ok (.i2b, 1)) (hv : G.2.1 i.toNat = (G.2.1 j.toNat).toInt8.toInt32) (k : hv_W G p l e R s m args below meth c nL Q n hp cells slots (pc + 1) lv (.float i :: st)) : hv_W G p l e R s m args below meth c nL Q n hp cells slots pc lv (.float j :: st) := by
  intro H locs ls h1 h2 h3 h4
  have hk := k H locs ls h1 h2 h3 h4
  have e : hv_v G (.float i) = .int (G.2.1 j.toNat).toInt8.toInt32 := congrArg Value.int hv
  rw [List.map_cons, e] at hk
  exact lv_i2b X.1 X.2.1 hd rfl hk
theorem hw_dup (X : hv_X G p s m args c Ts own cc nL) {v : Value} (hd : decode cc pc = .ok (.dup, 1)) (hc : v.category = 1) (k : hv_W G p l e R s m args below meth c nL Q n hp cells slots (pc + 1) lv (v :: v :: st)) : hv_W G p l e R s m args below meth c nL Q n hp cells slots pc lv (v :: st) := fun H locs ls h1 h2 h3 h4 => lv_dup X.1 X.2.1 hd ((hv_cat G v).trans hc) (k H locs ls h1 h2 h3 h4)
theorem hw_pop (X : hv_X G p s m args c Ts own cc nL) {v : Value} (hd : decode cc pc = .ok (.pop, 1)) (hc : v.category = 1) (k : hv_W G p l e R s m args below meth c nL Q n hp cells slots (pc + 1) lv st) : hv_W G p l e R s m args below meth c nL Q n hp cells slots pc lv (v :: st) := fun H locs ls h1 h2 h3 h4 => lv_pop X.1 X.2.1 hd ((hv_cat G v).trans hc) (k H locs ls h1 h2 h3 h4)
theorem hw_dup2 (X : hv_X G p s m args c Ts own cc nL) {v w : Value} (hd : decode cc pc = .ok (.dup2, 1)) (hc : v.category = 1) (hw : w.category = 1) (k : hv_W G p l e R s m args below meth c nL Q n hp cells slots (pc + 1) lv (v :: w :: v :: w :: st)) : hv_W G p l e R s m args below meth c nL Q n hp cells slots pc lv (v :: w :: st) := fun H locs ls h1 h2 h3 h4 => lv_dup2_11 X.1 X.2.1 hd ((hv_cat G v).trans hc) ((hv_cat G w).trans hw) (k H locs ls h1 h2 h3 h4)
theorem hw_if_eq (X : hv_X G p s m args c Ts own cc nL) {x : Int32} {off : Int} {tgt : Nat} (hd : decode cc pc = .ok (.ifCond .eq off, 3)) (ht : (pc : Int) + off = (tgt : Int)) (kt : x = 0 → hv_W G p l e R s m args below meth c nL Q n hp cells slots tgt lv st) (kf : ¬ x = 0 → hv_W G p l e R s m args below meth c nL Q n hp cells slots (pc + 3) lv st) : hv_W G p l e R s m args below meth c nL Q n hp cells slots pc lv (.int x :: st) := fun H locs ls h1 h2 h3 h4 => lv_if_eq X.1 X.2.1 hd ht (fun q => kt q H locs ls h1 h2 h3 h4) (fun q => kf q H locs ls h1 h2 h3 h4)
theorem hw_ifS_eq (X : hv_X G p s m args c Ts own cc nL) {j : UInt32} {x : Int32} {off : Int} {tgt : Nat} (hd : decode cc pc = .ok (.ifCond .eq off, 3)) (ht : (pc : Int) + off = (tgt : Int)) (hj : G.2.1 j.toNat = x) (kt : x = 0 → hv_W G p l e R s m args below meth c nL Q n hp cells slots tgt lv st) (kf : ¬ x = 0 → hv_W G p l e R s m args below meth c nL Q n hp cells slots (pc + 3) lv st) : hv_W G p l e R s m args below meth c nL Q n hp cells slots pc lv (.float j :: st) := by
  subst hj
  exact fun H locs ls h1 h2 h3 h4 => lv_if_eq X.1 X.2.1 hd ht (fun q => kt q H locs ls h1 h2 h3 h4) (fun q => kf q H locs ls h1 h2 h3 h4)
theorem hw_icmp_eq (X : hv_X G p s m args c Ts own cc nL) {x y : Int32} {off : Int} {tgt : Nat} (hd : decode cc pc = .ok (.if_icmp .eq off, 3)) (ht : (pc : Int) + off = (tgt : Int)) (kt : x = y → hv_W G p l e R s m args below meth c nL Q n hp cells slots tgt lv st) (kf : ¬ x = y → hv_W G p l e R s m args below meth c nL Q n hp cells slots (pc + 3) lv st) : hv_W G p l e R s m args below meth c nL Q n hp cells slots pc lv (.int y :: .int x :: st) := fun H locs ls h1 h2 h3 h4 => lv_icmp_eq X.1 X.2.1 hd ht (fun q => kt q H locs ls h1 h2 h3 h4) (fun q => kf q H locs ls h1 h2 h3 h4)
theorem hw_icmpSI_eq (X : hv_X G p s m args c Ts own cc nL) {jx : UInt32} {x y : Int32} {off : Int} {tgt : Nat} (hd : decode cc pc = .ok (.if_icmp .eq off, 3)) (ht : (pc : Int) + off = (tgt : Int)) (hj : G.2.1 jx.toNat = x) (kt : x = y → hv_W G p l e R s m args below meth c nL Q n hp cells slots tgt lv st) (kf : ¬ x = y → hv_W G p l e R s m args below meth c nL Q n hp cells slots (pc + 3) lv st) : hv_W G p l e R s m args below meth c nL Q n hp cells slots pc lv (.int y :: .float jx :: st) := by
  subst hj
  exact fun H locs ls h1 h2 h3 h4 => lv_icmp_eq X.1 X.2.1 hd ht (fun q => kt q H locs ls h1 h2 h3 h4) (fun q => kf q H locs ls h1 h2 h3 h4)
theorem hw_icmpIS_eq (X : hv_X G p s m args c Ts own cc nL) {jy : UInt32} {x y : Int32} {off : Int} {tgt : Nat} (hd : decode cc pc = .ok (.if_icmp .eq off, 3)) (ht : (pc : Int) + off = (tgt : Int)) (hj : G.2.1 jy.toNat = y) (kt : x = y → hv_W G p l e R s m args below meth c nL Q n hp cells slots tgt lv st) (kf : ¬ x = y → hv_W G p l e R s m args below meth c nL Q n hp cells slots (pc + 3) lv st) : hv_W G p l e R s m args below meth c nL Q n hp cells slots pc lv (.float jy :: .int x :: st) := by
  subst hj
  exact fun H locs ls h1 h2 h3 h4 => lv_icmp_eq X.1 X.2.1 hd ht (fun q => kt q H locs ls h1 h2 h3 h4) (fun q => kf q H locs ls h1 h2 h3 h4)
theorem hw_if_ne (X : hv_X G p s m args c Ts own cc nL) {x : Int32} {off : Int} {tgt : Nat} (hd : decode cc pc = .ok (.ifCond .ne off, 3)) (ht : (pc : Int) + off = (tgt : Int)) (kt : ¬ x = 0 → hv_W G p l e R s m args below meth c nL Q n hp cells slots tgt lv st) (kf : x = 0 → hv_W G p l e R s m args below meth c nL Q n hp cells slots (pc + 3) lv st) : hv_W G p l e R s m args below meth c nL Q n hp cells slots pc lv (.int x :: st) := fun H locs ls h1 h2 h3 h4 => lv_if_ne X.1 X.2.1 hd ht (fun q => kt q H locs ls h1 h2 h3 h4) (fun q => kf q H locs ls h1 h2 h3 h4)
theorem hw_ifS_ne (X : hv_X G p s m args c Ts own cc nL) {j : UInt32} {x : Int32} {off : Int} {tgt : Nat} (hd : decode cc pc = .ok (.ifCond .ne off, 3)) (ht : (pc : Int) + off = (tgt : Int)) (hj : G.2.1 j.toNat = x) (kt : ¬ x = 0 → hv_W G p l e R s m args below meth c nL Q n hp cells slots tgt lv st) (kf : x = 0 → hv_W G p l e R s m args below meth c nL Q n hp cells slots (pc + 3) lv st) : hv_W G p l e R s m args below meth c nL Q n hp cells slots pc lv (.float j :: st) := by
  subst hj
  exact fun H locs ls h1 h2 h3 h4 => lv_if_ne X.1 X.2.1 hd ht (fun q => kt q H locs ls h1 h2 h3 h4) (fun q => kf q H locs ls h1 h2 h3 h4)
theorem hw_icmp_ne (X : hv_X G p s m args c Ts own cc nL) {x y : Int32} {off : Int} {tgt : Nat} (hd : decode cc pc = .ok (.if_icmp .ne off, 3)) (ht : (pc : Int) + off = (tgt : Int)) (kt : ¬ x = y → hv_W G p l e R s m args below meth c nL Q n hp cells slots tgt lv st) (kf : x = y → hv_W G p l e R s m args below meth c nL Q n hp cells slots (pc + 3) lv st) : hv_W G p l e R s m args below meth c nL Q n hp cells slots pc lv (.int y :: .int x :: st) := fun H locs ls h1 h2 h3 h4 => lv_icmp_ne X.1 X.2.1 hd ht (fun q => kt q H locs ls h1 h2 h3 h4) (fun q => kf q H locs ls h1 h2 h3 h4)
theorem hw_icmpSI_ne (X : hv_X G p s m args c Ts own cc nL) {jx : UInt32} {x y : Int32} {off : Int} {tgt : Nat} (hd : decode cc pc = .ok (.if_icmp .ne off, 3)) (ht : (pc : Int) + off = (tgt : Int)) (hj : G.2.1 jx.toNat = x) (kt : ¬ x = y → hv_W G p l e R s m args below meth c nL Q n hp cells slots tgt lv st) (kf : x = y → hv_W G p l e R s m args below meth c nL Q n hp cells slots (pc + 3) lv st) : hv_W G p l e R s m args below meth c nL Q n hp cells slots pc lv (.int y :: .float jx :: st) := by
  subst hj
  exact fun H locs ls h1 h2 h3 h4 => lv_icmp_ne X.1 X.2.1 hd ht (fun q => kt q H locs ls h1 h2 h3 h4) (fun q => kf q H locs ls h1 h2 h3 h4)
theorem hw_icmpIS_ne (X : hv_X G p s m args c Ts own cc nL) {jy : UInt32} {x y : Int32} {off : Int} {tgt : Nat} (hd : decode cc pc = .ok (.if_icmp .ne off, 3)) (ht : (pc : Int) + off = (tgt : Int)) (hj : G.2.1 jy.toNat = y) (kt : ¬ x = y → hv_W G p l e R s m args below meth c nL Q n hp cells slots tgt lv st) (kf : x = y → hv_W G p l e R s m args below meth c nL Q n hp cells slots (pc + 3) lv st) : hv_W G p l e R s m args below meth c nL Q n hp cells slots pc lv (.float jy :: .int x :: st) := by
  subst hj
  exact fun H locs ls h1 h2 h3 h4 => lv_icmp_ne X.1 X.2.1 hd ht (fun q => kt q H locs ls h1 h2 h3 h4) (fun q => kf q H locs ls h1 h2 h3 h4)
theorem hw_if_lt (X : hv_X G p s m args c Ts own cc nL) {x : Int32} {off : Int} {tgt : Nat} (hd : decode cc pc = .ok (.ifCond .lt off, 3)) (ht : (pc : Int) + off = (tgt : Int)) (kt : x < 0 → hv_W G p l e R s m args below meth c nL Q n hp cells slots tgt lv st) (kf : ¬ x < 0 → hv_W G p l e R s m args below meth c nL Q n hp cells slots (pc + 3) lv st) : hv_W G p l e R s m args below meth c nL Q n hp cells slots pc lv (.int x :: st) := fun H locs ls h1 h2 h3 h4 => lv_if_lt X.1 X.2.1 hd ht (fun q => kt q H locs ls h1 h2 h3 h4) (fun q => kf q H locs ls h1 h2 h3 h4)
theorem hw_ifS_lt (X : hv_X G p s m args c Ts own cc nL) {j : UInt32} {x : Int32} {off : Int} {tgt : Nat} (hd : decode cc pc = .ok (.ifCond .lt off, 3)) (ht : (pc : Int) + off = (tgt : Int)) (hj : G.2.1 j.toNat = x) (kt : x < 0 → hv_W G p l e R s m args below meth c nL Q n hp cells slots tgt lv st) (kf : ¬ x < 0 → hv_W G p l e R s m args below meth c nL Q n hp cells slots (pc + 3) lv st) : hv_W G p l e R s m args below meth c nL Q n hp cells slots pc lv (.float j :: st) := by
  subst hj
  exact fun H locs ls h1 h2 h3 h4 => lv_if_lt X.1 X.2.1 hd ht (fun q => kt q H locs ls h1 h2 h3 h4) (fun q => kf q H locs ls h1 h2 h3 h4)
theorem hw_icmp_lt (X : hv_X G p s m args c Ts own cc nL) {x y : Int32} {off : Int} {tgt : Nat} (hd : decode cc pc = .ok (.if_icmp .lt off, 3)) (ht : (pc : Int) + off = (tgt : Int)) (kt : x < y → hv_W G p l e R s m args below meth c nL Q n hp cells slots tgt lv st) (kf : ¬ x < y → hv_W G p l e R s m args below meth c nL Q n hp cells slots (pc + 3) lv st) : hv_W G p l e R s m args below meth c nL Q n hp cells slots pc lv (.int y :: .int x :: st) := fun H locs ls h1 h2 h3 h4 => lv_icmp_lt X.1 X.2.1 hd ht (fun q => kt q H locs ls h1 h2 h3 h4) (fun q => kf q H locs ls h1 h2 h3 h4)
theorem hw_icmpSI_lt (X : hv_X G p s m args c Ts own cc nL) {jx : UInt32} {x y : Int32} {off : Int} {tgt : Nat} (hd : decode cc pc = .ok (.if_icmp .lt off, 3)) (ht : (pc : Int) + off = (tgt : Int)) (hj : G.2.1 jx.toNat = x) (kt : x < y → hv_W G p l e R s m args below meth c nL Q n hp cells slots tgt lv st) (kf : ¬ x < y → hv_W G p l e R s m args below meth c nL Q n hp cells slots (pc + 3) lv st) : hv_W G p l e R s m args below meth c nL Q n hp cells slots pc lv (.int y :: .float jx :: st) := by
  subst hj
  exact fun H locs ls h1 h2 h3 h4 => lv_icmp_lt X.1 X.2.1 hd ht (fun q => kt q H locs ls h1 h2 h3 h4) (fun q => kf q H locs ls h1 h2 h3 h4)
theorem hw_icmpIS_lt (X : hv_X G p s m args c Ts own cc nL) {jy : UInt32} {x y : Int32} {off : Int} {tgt : Nat} (hd : decode cc pc = .ok (.if_icmp .lt off, 3)) (ht : (pc : Int) + off = (tgt : Int)) (hj : G.2.1 jy.toNat = y) (kt : x < y → hv_W G p l e R s m args below meth c nL Q n hp cells slots tgt lv st) (kf : ¬ x < y → hv_W G p l e R s m args below meth c nL Q n hp cells slots (pc + 3) lv st) : hv_W G p l e R s m args below meth c nL Q n hp cells slots pc lv (.float jy :: .int x :: st) := by
  subst hj
  exact fun H locs ls h1 h2 h3 h4 => lv_icmp_lt X.1 X.2.1 hd ht (fun q => kt q H locs ls h1 h2 h3 h4) (fun q => kf q H locs ls h1 h2 h3 h4)
theorem hw_if_ge (X : hv_X G p s m args c Ts own cc nL) {x : Int32} {off : Int} {tgt : Nat} (hd : decode cc pc = .ok (.ifCond .ge off, 3)) (ht : (pc : Int) + off = (tgt : Int)) (kt : 0 ≤ x → hv_W G p l e R s m args below meth c nL Q n hp cells slots tgt lv st) (kf : ¬ 0 ≤ x → hv_W G p l e R s m args below meth c nL Q n hp cells slots (pc + 3) lv st) : hv_W G p l e R s m args below meth c nL Q n hp cells slots pc lv (.int x :: st) := fun H locs ls h1 h2 h3 h4 => lv_if_ge X.1 X.2.1 hd ht (fun q => kt q H locs ls h1 h2 h3 h4) (fun q => kf q H locs ls h1 h2 h3 h4)
theorem hw_ifS_ge (X : hv_X G p s m args c Ts own cc nL) {j : UInt32} {x : Int32} {off : Int} {tgt : Nat} (hd : decode cc pc = .ok (.ifCond .ge off, 3)) (ht : (pc : Int) + off = (tgt : Int)) (hj : G.2.1 j.toNat = x) (kt : 0 ≤ x → hv_W G p l e R s m args below meth c nL Q n hp cells slots tgt lv st) (kf : ¬ 0 ≤ x → hv_W G p l e R s m args below meth c nL Q n hp cells slots (pc + 3) lv st) : hv_W G p l e R s m args below meth c nL Q n hp cells slots pc lv (.float j :: st) := by
  subst hj
  exact fun H locs ls h1 h2 h3 h4 => lv_if_ge X.1 X.2.1 hd ht (fun q => kt q H locs ls h1 h2 h3 h4) (fun q => kf q H locs ls h1 h2 h3 h4)
theorem hw_icmp_ge (X : hv_X G p s m args c Ts own cc nL) {x y : Int32} {off : Int} {tgt : Nat} (hd : decode cc pc = .ok (.if_icmp .ge off, 3)) (ht : (pc : Int) + off = (tgt : Int)) (kt : y ≤ x → hv_W G p l e R s m args below meth c nL Q n hp cells slots tgt lv st) (kf : ¬ y ≤ x → hv_W G p l e R s m args below meth c nL Q n hp cells slots (pc + 3) lv st) : hv_W G p l e R s m args below meth c nL Q n hp cells slots pc lv (.int y :: .int x :: st) := fun H locs ls h1 h2 h3 h4 => lv_icmp_ge X.1 X.2.1 hd ht (fun q => kt q H locs ls h1 h2 h3 h4) (fun q => kf q H locs ls h1 h2 h3 h4)
theorem hw_icmpSI_ge (X : hv_X G p s m args c Ts own cc nL) {jx : UInt32} {x y : Int32} {off : Int} {tgt : Nat} (hd : decode cc pc = .ok (.if_icmp .ge off, 3)) (ht : (pc : Int) + off = (tgt : Int)) (hj : G.2.1 jx.toNat = x) (kt : y ≤ x → hv_W G p l e R s m args below meth c nL Q n hp cells slots tgt lv st) (kf : ¬ y ≤ x → hv_W G p l e R s m args below meth c nL Q n hp cells slots (pc + 3) lv st) : hv_W G p l e R s m args below meth c nL Q n hp cells slots pc lv (.int y :: .float jx :: st) := by
  subst hj
  exact fun H locs ls h1 h2 h3 h4 => lv_icmp_ge X.1 X.2.1 hd ht (fun q => kt q H locs ls h1 h2 h3 h4) (fun q => kf q H locs ls h1 h2 h3 h4)
theorem hw_icmpIS_ge (X : hv_X G p s m args c Ts own cc nL) {jy : UInt32} {x y : Int32} {off : Int} {tgt : Nat} (hd : decode cc pc = .ok (.if_icmp .ge off, 3)) (ht : (pc : Int) + off = (tgt : Int)) (hj : G.2.1 jy.toNat = y) (kt : y ≤ x → hv_W G p l e R s m args below meth c nL Q n hp cells slots tgt lv st) (kf : ¬ y ≤ x → hv_W G p l e R s m args below meth c nL Q n hp cells slots (pc + 3) lv st) : hv_W G p l e R s m args below meth c nL Q n hp cells slots pc lv (.float jy :: .int x :: st) := by
  subst hj
  exact fun H locs ls h1 h2 h3 h4 => lv_icmp_ge X.1 X.2.1 hd ht (fun q => kt q H locs ls h1 h2 h3 h4) (fun q => kf q H locs ls h1 h2 h3 h4)
theorem hw_if_gt (X : hv_X G p s m args c Ts own cc nL) {x : Int32} {off : Int} {tgt : Nat} (hd : decode cc pc = .ok (.ifCond .gt off, 3)) (ht : (pc : Int) + off = (tgt : Int)) (kt : 0 < x → hv_W G p l e R s m args below meth c nL Q n hp cells slots tgt lv st) (kf : ¬ 0 < x → hv_W G p l e R s m args below meth c nL Q n hp cells slots (pc + 3) lv st) : hv_W G p l e R s m args below meth c nL Q n hp cells slots pc lv (.int x :: st) := fun H locs ls h1 h2 h3 h4 => lv_if_gt X.1 X.2.1 hd ht (fun q => kt q H locs ls h1 h2 h3 h4) (fun q => kf q H locs ls h1 h2 h3 h4)
theorem hw_ifS_gt (X : hv_X G p s m args c Ts own cc nL) {j : UInt32} {x : Int32} {off : Int} {tgt : Nat} (hd : decode cc pc = .ok (.ifCond .gt off, 3)) (ht : (pc : Int) + off = (tgt : Int)) (hj : G.2.1 j.toNat = x) (kt : 0 < x → hv_W G p l e R s m args below meth c nL Q n hp cells slots tgt lv st) (kf : ¬ 0 < x → hv_W G p l e R s m args below meth c nL Q n hp cells slots (pc + 3) lv st) : hv_W G p l e R s m args below meth c nL Q n hp cells slots pc lv (.float j :: st) := by
  subst hj
  exact fun H locs ls h1 h2 h3 h4 => lv_if_gt X.1 X.2.1 hd ht (fun q => kt q H locs ls h1 h2 h3 h4) (fun q => kf q H locs ls h1 h2 h3 h4)
theorem hw_icmp_gt (X : hv_X G p s m args c Ts own cc nL) {x y : Int32} {off : Int} {tgt : Nat} (hd : decode cc pc = .ok (.if_icmp .gt off, 3)) (ht : (pc : Int) + off = (tgt : Int)) (kt : y < x → hv_W G p l e R s m args below meth c nL Q n hp cells slots tgt lv st) (kf : ¬ y < x → hv_W G p l e R s m args below meth c nL Q n hp cells slots (pc + 3) lv st) : hv_W G p l e R s m args below meth c nL Q n hp cells slots pc lv (.int y :: .int x :: st) := fun H locs ls h1 h2 h3 h4 => lv_icmp_gt X.1 X.2.1 hd ht (fun q => kt q H locs ls h1 h2 h3 h4) (fun q => kf q H locs ls h1 h2 h3 h4)
theorem hw_icmpSI_gt (X : hv_X G p s m args c Ts own cc nL) {jx : UInt32} {x y : Int32} {off : Int} {tgt : Nat} (hd : decode cc pc = .ok (.if_icmp .gt off, 3)) (ht : (pc : Int) + off = (tgt : Int)) (hj : G.2.1 jx.toNat = x) (kt : y < x → hv_W G p l e R s m args below meth c nL Q n hp cells slots tgt lv st) (kf : ¬ y < x → hv_W G p l e R s m args below meth c nL Q n hp cells slots (pc + 3) lv st) : hv_W G p l e R s m args below meth c nL Q n hp cells slots pc lv (.int y :: .float jx :: st) := by
  subst hj
  exact fun H locs ls h1 h2 h3 h4 => lv_icmp_gt X.1 X.2.1 hd ht (fun q => kt q H locs ls h1 h2 h3 h4) (fun q => kf q H locs ls h1 h2 h3 h4)
theorem hw_icmpIS_gt (X : hv_X G p s m args c Ts own cc nL) {jy : UInt32} {x y : Int32} {off : Int} {tgt : Nat} (hd : decode cc pc = .ok (.if_icmp .gt off, 3)) (ht : (pc : Int) + off = (tgt : Int)) (hj : G.2.1 jy.toNat = y) (kt : y < x → hv_W G p l e R s m args below meth c nL Q n hp cells slots tgt lv st) (kf : ¬ y < x → hv_W G p l e R s m args below meth c nL Q n hp cells slots (pc + 3) lv st) : hv_W G p l e R s m args below meth c nL Q n hp cells slots pc lv (.float jy :: .int x :: st) := by
  subst hj
  exact fun H locs ls h1 h2 h3 h4 => lv_icmp_gt X.1 X.2.1 hd ht (fun q => kt q H locs ls h1 h2 h3 h4) (fun q => kf q H locs ls h1 h2 h3 h4)
theorem hw_if_le (X : hv_X G p s m args c Ts own cc nL) {x : Int32} {off : Int} {tgt : Nat} (hd : decode cc pc = .ok (.ifCond .le off, 3)) (ht : (pc : Int) + off = (tgt : Int)) (kt : x ≤ 0 → hv_W G p l e R s m args below meth c nL Q n hp cells slots tgt lv st) (kf : ¬ x ≤ 0 → hv_W G p l e R s m args below meth c nL Q n hp cells slots (pc + 3) lv st) : hv_W G p l e R s m args below meth c nL Q n hp cells slots pc lv (.int x :: st) := fun H locs ls h1 h2 h3 h4 => lv_if_le X.1 X.2.1 hd ht (fun q => kt q H locs ls h1 h2 h3 h4) (fun q => kf q H locs ls h1 h2 h3 h4)
theorem hw_ifS_le (X : hv_X G p s m args c Ts own cc nL) {j : UInt32} {x : Int32} {off : Int} {tgt : Nat} (hd : decode cc pc = .ok (.ifCond .le off, 3)) (ht : (pc : Int) + off = (tgt : Int)) (hj : G.2.1 j.toNat = x) (kt : x ≤ 0 → hv_W G p l e R s m args below meth c nL Q n hp cells slots tgt lv st) (kf : ¬ x ≤ 0 → hv_W G p l e R s m args below meth c nL Q n hp cells slots (pc + 3) lv st) : hv_W G p l e R s m args below meth c nL Q n hp cells slots pc lv (.float j :: st) := by
  subst hj
  exact fun H locs ls h1 h2 h3 h4 => lv_if_le X.1 X.2.1 hd ht (fun q => kt q H locs ls h1 h2 h3 h4) (fun q => kf q H locs ls h1 h2 h3 h4)
theorem hw_icmp_le (X : hv_X G p s m args c Ts own cc nL) {x y : Int32} {off : Int} {tgt : Nat} (hd : decode cc pc = .ok (.if_icmp .le off, 3)) (ht : (pc : Int) + off = (tgt : Int)) (kt : x ≤ y → hv_W G p l e R s m args below meth c nL Q n hp cells slots tgt lv st) (kf : ¬ x ≤ y → hv_W G p l e R s m args below meth c nL Q n hp cells slots (pc + 3) lv st) : hv_W G p l e R s m args below meth c nL Q n hp cells slots pc lv (.int y :: .int x :: st) := fun H locs ls h1 h2 h3 h4 => lv_icmp_le X.1 X.2.1 hd ht (fun q => kt q H locs ls h1 h2 h3 h4) (fun q => kf q H locs ls h1 h2 h3 h4)
theorem hw_icmpSI_le (X : hv_X G p s m args c Ts own cc nL) {jx : UInt32} {x y : Int32} {off : Int} {tgt : Nat} (hd : decode cc pc = .ok (.if_icmp .le off, 3)) (ht : (pc : Int) + off = (tgt : Int)) (hj : G.2.1 jx.toNat = x) (kt : x ≤ y → hv_W G p l e R s m args below meth c nL Q n hp cells slots tgt lv st) (kf : ¬ x ≤ y → hv_W G p l e R s m args below meth c nL Q n hp cells slots (pc + 3) lv st) : hv_W G p l e R s m args below meth c nL Q n hp cells slots pc lv (.int y :: .float jx :: st) := by
  subst hj
  exact fun H locs ls h1 h2 h3 h4 => lv_icmp_le X.1 X.2.1 hd ht (fun q => kt q H locs ls h1 h2 h3 h4) (fun q => kf q H locs ls h1 h2 h3 h4)
theorem hw_icmpIS_le (X : hv_X G p s m args c Ts own cc nL) {jy : UInt32} {x y : Int32} {off : Int} {tgt : Nat} (hd : decode cc pc = .ok (.if_icmp .le off, 3)) (ht : (pc : Int) + off = (tgt : Int)) (hj : G.2.1 jy.toNat = y) (kt : x ≤ y → hv_W G p l e R s m args below meth c nL Q n hp cells slots tgt lv st) (kf : ¬ x ≤ y → hv_W G p l e R s m args below meth c nL Q n hp cells slots (pc + 3) lv st) : hv_W G p l e R s m args below meth c nL Q n hp cells slots pc lv (.float jy :: .int x :: st) := by
  subst hj
  exact fun H locs ls h1 h2 h3 h4 => lv_icmp_le X.1 X.2.1 hd ht (fun q => kt q H locs ls h1 h2 h3 h4) (fun q => kf q H locs ls h1 h2 h3 h4)
theorem hw_goto (X : hv_X G p s m args c Ts own cc nL) {off : Int} {tgt : Nat} (hd : decode cc pc = .ok (.goto off, 3)) (ht : (pc : Int) + off = (tgt : Int)) (k : hv_W G p l e R s m args below meth c nL Q n hp cells slots tgt lv st) : hv_W G p l e R s m args below meth c nL Q n hp cells slots pc lv st := fun H locs ls h1 h2 h3 h4 => lv_goto X.1 X.2.1 hd ht (k H locs ls h1 h2 h3 h4)
theorem hw_tableOut (X : hv_X G p s m args c Ts own cc nL) {dflt lo hi : Int} {offs : Array Int} {len : Nat} {x : Int32} {tgt : Nat} (hd : decode cc pc = .ok (.tableswitch dflt lo hi offs, len)) (h : x.toInt < lo ∨ hi < x.toInt) (ht : (pc : Int) + dflt = (tgt : Int)) (k : hv_W G p l e R s m args below meth c nL Q n hp cells slots tgt lv st) : hv_W G p l e R s m args below meth c nL Q n hp cells slots pc lv (.int x :: st) := fun H locs ls h1 h2 h3 h4 => lv_tableOut X.1 X.2.1 hd h ht (k H locs ls h1 h2 h3 h4)
theorem hw_tableIn (X : hv_X G p s m args c Ts own cc nL) {dflt lo hi : Int} {offs : Array Int} {len : Nat} {x : Int32} {off : Int} {tgt : Nat} (hd : decode cc pc = .ok (.tableswitch dflt lo hi offs, len)) (g1 : ¬ x.toInt < lo) (g2 : ¬ hi < x.toInt) (ho : offs[(x.toInt - lo).toNat]? = some off) (ht : (pc : Int) + off = (tgt : Int)) (k : hv_W G p l e R s m args below meth c nL Q n hp cells slots tgt lv st) : hv_W G p l e R s m args below meth c nL Q n hp cells slots pc lv (.int x :: st) := fun H locs ls h1 h2 h3 h4 => lv_tableIn X.1 X.2.1 hd g1 g2 ho ht (k H locs ls h1 h2 h3 h4)
theorem hw_tableOutS (X : hv_X G p s m args c Ts own cc nL) {dflt lo hi : Int} {offs : Array Int} {len : Nat} {j : UInt32} {tgt : Nat} (hd : decode cc pc = .ok (.tableswitch dflt lo hi offs, len)) (h : (G.2.1 j.toNat).toInt < lo ∨ hi < (G.2.1 j.toNat).toInt) (ht : (pc : Int) + dflt = (tgt : Int)) (k : hv_W G p l e R s m args below meth c nL Q n hp cells slots tgt lv st) : hv_W G p l e R s m args below meth c nL Q n hp cells slots pc lv (.float j :: st) := fun H locs ls h1 h2 h3 h4 => lv_tableOut X.1 X.2.1 hd h ht (k H locs ls h1 h2 h3 h4)
end HW
section HWH
variable {G : hv_G} {p : Program} {l : Launch} {e : Env} {R : Room} {s : State} {m : MethodId} {args : Array Value} {below : List Frame} {meth : Method} {c : Code} {nL : Nat} {Q : State → Prop} {n : Nat} {hp : hv_H} {cells slots pc : Nat} {lv : List (Nat × Value)} {st : List Value} {Ts : List Cond} {own : String} {cc : ByteArray}
theorem hv_world {i ci : Nat} {f : Nat → Value} {H : Heap} {C : String} {T : u_T} {N : Nat} (h : hv_at G i (.inr (ci, f)) H) (hcl : vwCl[ci]? = some (C, T, N)) : va_P G.2.2.1 vwCl [(G.1.1 + i, .inr (ci, (List.range N).map (fun k => hv_v G (f k))))] H := by
  obtain ⟨r, h1, h2⟩ := h
  have hr : r = (C, T, N) := Option.some.inj (h1.symm.trans hcl)
  subst hr
  intro k q hq
  have hk : k < 1 := (List.getElem?_eq_some_iff.mp hq).1
  rw [show k = 0 by omega] at hq
  cases hq
  exact ⟨_, hcl, h2.to (fun j hj => by
    have hj' : j < N := hj
    show hv_v G (f j) = vp_V _ j
    unfold vp_V
    rw [List.getD_eq_getElem?_getD]
    simp [hj'])⟩
theorem hv_fld {N k : Nat} (f : Nat → Value) (hk : k < N) : ((List.range N).map (fun k => hv_v G (f k)))[k]? = some (hv_v G (f k)) := by simp [hk]
theorem hw_get (X : hv_X G p s m args c Ts own cc nL) {ix ci kf i N : Nat} {C : String} {T : u_T} {f : Nat → Value} (hd : decode cc pc = .ok (.getfield ix, 3)) (hcl : vwCl[ci]? = some (C, T, N)) (hin : ∀ w ∈ u_ws C T N, w ∈ Ts) (hk : kf < N)
    (hl : Cond.fieldLink own ix (T kf).1 (T kf).2.1 (T kf).2.2.1 ∈ Ts ∨ ∃ host : String, Cond.fieldLinkNest own ix (T kf).1 (T kf).2.1 (T kf).2.2.1 host ∈ Ts) (hi : hp i = some (.inr (ci, f)))
    (k : hv_W G p l e R s m args below meth c nL Q n hp cells slots (pc + 3) lv (f kf :: st)) : hv_W G p l e R s m args below meth c nL Q n hp cells slots pc lv (.ref (i + 1) :: st) := by
  intro H locs ls h1 h2 h3 h4
  have hw := hv_world (h1.2 i _ hi) hcl
  obtain ⟨hx, hb, hml, hown, hts, hK, hB, hbB, hxK, hX⟩ := X
  rcases hl with hl | ⟨host, hl⟩
  · exact va_get hx hb hts hin hown hK hw 0 rfl hcl kf hk (hts _ hl) (fun _ h => h) (hv_fld f hk) hd (k H locs ls h1 h2 h3 h4)
  · exact va_getN hx hb hts hin hown hK hw 0 rfl hcl kf hk (hts _ hl) (fun _ h => h) (hv_fld f hk) hd (k H locs ls h1 h2 h3 h4)
theorem hv_locs {B : Nat} {locs : List Loc} {a k : Nat} (h3 : ∀ q ∈ locs, B ≤ q.base) (ha : B ≤ a) : ∀ q ∈ locs ++ [⟨a, k⟩], B ≤ q.base := by
  intro q hq
  rcases List.mem_append.mp hq with h | h
  · exact h3 q h
  · cases List.mem_singleton.mp h
    exact ha
theorem hv_low {B a : Nat} {H H1 Hs : Heap} (h2 : ∀ q : Nat, q < B → H[q]? = Hs[q]?) (oq : ∀ q : Nat, q ≠ a → H1[q]? = H[q]?) (ha : B ≤ a) : ∀ q : Nat, q < B → H1[q]? = Hs[q]? := fun q hq => (oq q (by omega)).trans (h2 q hq)
theorem hw_put (X : hv_X G p s m args c Ts own cc nL) {ix ci kf i N : Nat} {C : String} {T : u_T} {f : Nat → Value} {ty0 : Nat → FieldType} {v : Value} (hd : decode cc pc = .ok (.putfield ix, 3)) (hcl : vwCl[ci]? = some (C, T, N)) (hin : ∀ w ∈ u_ws C T N, w ∈ Ts) (hty : ∀ k, k < N → parseFieldDescriptor (T k).2.2.1 = some (ty0 k)) (hnm : ∀ a, a < N → ∀ b, b < N → a ≠ b → (T a).2.1 ≠ (T b).2.1) (hk : kf < N)
    (hl : (Cond.fieldLink own ix (T kf).1 (T kf).2.1 (T kf).2.2.1 ∈ Ts ∧ (T kf).2.2.2 = false) ∨ (∃ host : String, Cond.fieldLinkNest own ix (T kf).1 (T kf).2.1 (T kf).2.2.1 host ∈ Ts ∧ (T kf).2.2.2 = false) ∨ (Cond.fieldLink own ix (T kf).1 (T kf).2.1 (T kf).2.2.1 ∈ Ts ∧ (T kf).2.2.2 = true ∧ meth.name = "<init>" ∧ (T kf).1 = own))
    (hn : narrow (ty0 kf) (hv_v G v) = hv_v G v) (hf : fits (ty0 kf) (hv_v G v) = true) (hi : hp i = some (.inr (ci, f)))
    (k : hv_W G p l e R s m args below meth c nL Q n (hv_up hp i (.inr (ci, hv_uv f kf v))) cells slots (pc + 3) lv st) : hv_W G p l e R s m args below meth c nL Q n hp cells slots pc lv (v :: .ref (i + 1) :: st) := by
  intro H locs ls h1 h2 h3 h4
  obtain ⟨hx, hb, hml, hown, hts, hK, hB, hbB, hxK, hX⟩ := X
  have hap := va_apart (own := own) hts hin ty0 hty hnm hK hcl
  obtain ⟨r, g1, cell, q1, q2, q3, q4⟩ := h1.2 i _ hi
  have hr : r = (C, T, N) := Option.some.inj (g1.symm.trans hcl)
  subst hr
  obtain ⟨hS, hfc, kC, hkC, hkind⟩ := hK.1 ci _ hcl
  obtain ⟨cf, kf1, fi, f1, hfi, hsl⟩ := hS kf hk
  have hlay := hts _ (hin _ (u_in_lay hk))
  unfold u_lay at hlay
  have hst := (u_facts hfc hkC (u_lays hts hin hk) hfi).1
  have done : ∀ H' : Heap, H'[G.1.1 + i]? = some (cell.setSlot f1.slot (hv_v G v)) → H'.size = H.size → (∀ q : Nat, q ≠ G.1.1 + i → H'[q]? = H[q]?) → W p l e R s m args below meth c H' (locs ++ [⟨G.1.1 + i, f1.slot⟩]) cells slots Q (F0 m (pc + 3) ls (st.map (hv_v G))) := by
    intro H' e1 e2 e3
    refine k H' _ ls (h1.set ?_ e2 e3) (hv_low h2 e3 (Nat.le_add_right _ _)) (hv_locs h3 (Nat.le_add_right _ _)) h4
    refine ⟨_, hcl, ?_⟩
    rw [hv_v_uv]
    rw [hsl] at e1
    exact ⟨_, e1, q2, q3, t_set q4 hap hk (hv_v G v)⟩
  rcases hl with ⟨hl, hfin⟩ | ⟨host, hl, hfin⟩ | ⟨hl, hfin, hin2, hdecl⟩
  · rw [if_neg (by rw [hfin]; decide)] at hlay
    have h6 := u_store hfc hkC hkind hlay hfi (hty kf hk) hn hf
    exact W.putK hx hb (f := f1) ⟨hown, hts _ hl, ⟨_, _, _, hfi⟩, hst⟩ (by rw [q2]; exact h6) q1 q3 (by rw [hsl]; exact k2_hasslot (q4 kf hk)) rfl rfl hd done
  · rw [if_neg (by rw [hfin]; decide)] at hlay
    have h6 := u_store hfc hkC hkind hlay hfi (hty kf hk) hn hf
    exact va_WputK hx hb (f := f1) hown (hts _ hl) hfi hst (by rw [q2]; exact h6) q1 q3 (by rw [hsl]; exact k2_hasslot (q4 kf hk)) rfl rfl hd done
  · rw [if_pos hfin] at hlay
    have hcf : m.cls = cf := by
      obtain ⟨_, _, c', _, _, _, -, -, hf', -, -, -, hown2, -⟩ := Cond.laysFinal_spec hlay
      have e1 : c' = cf := by have := hfi.symm.trans hf'; simp at this; exact this.1.symm
      rw [hdecl] at hown2
      rw [← e1]; exact Option.some.inj (hown.symm.trans hown2)
    have h6 := u_fits hfc hkC hkind (Or.inr hlay) hfi (hty kf hk) hn hf
    exact W.putFinK hx hb hown (hts _ hl) hfi hst hcf hin2 (by rw [q2]; exact h6) q1 q3 (by rw [hsl]; exact k2_hasslot (q4 kf hk)) rfl rfl hd done
theorem hv_rd {cA : ClassId} {N : Nat} {f : Nat → Value} {j : Int32} (hin : vp_in j N) : ¬ (j < 0 ∨ (arrV cA N f).slots.size ≤ j.toNatClampNeg) ∧ (arrV cA N f).slots[j.toNatClampNeg]? = some (f j.toNatClampNeg) := by
  have hlt : j.toNatClampNeg < N := Nat.not_le.mp fun q => hin (Or.inr q)
  exact ⟨by rw [arrV_size]; exact hin, arrV_read _ _ hlt⟩
theorem hv_arr (hK : va_K G.2.2.1 vwCl (hv_tys G) s) {t : Nat} {ty : FieldType} (ht : hv_tyl[t]? = some ty) (N : Nat) (f : Nat → Value) : s.isArrayOf (arrV (G.2.2.2 t) N f) ty := (hK.2 t _ (hv_tys_at ht)).1 N f
theorem hw_iald (X : hv_X G p s m args c Ts own cc nL) {i N : Nat} {f : Nat → Value} {j : Int32} (hd : decode cc pc = .ok (.iaload, 1)) (hi : hp i = some (.inl (1, N, f))) (hin : vp_in j N)
    (k : hv_W G p l e R s m args below meth c nL Q n hp cells slots (pc + 1) lv (f j.toNatClampNeg :: st)) : hv_W G p l e R s m args below meth c nL Q n hp cells slots pc lv (.int j :: .ref (i + 1) :: st) := by
  intro H locs ls h1 h2 h3 h4
  obtain ⟨g1, g2⟩ := hv_rd (cA := G.2.2.2 1) (f := fun j => hv_v G (f j)) hin
  exact W.iald X.1 X.2.1 (h1.2 i _ hi) (hv_arr X.2.2.2.2.2.1 rfl N _) (fun q => by cases q) g1 g2 rfl rfl hd (k H locs ls h1 h2 h3 h4)
theorem hw_bald (X : hv_X G p s m args c Ts own cc nL) {i N : Nat} {f : Nat → Value} {j : Int32} (hd : decode cc pc = .ok (.baload, 1)) (hi : hp i = some (.inl (0, N, f))) (hin : vp_in j N)
    (k : hv_W G p l e R s m args below meth c nL Q n hp cells slots (pc + 1) lv (f j.toNatClampNeg :: st)) : hv_W G p l e R s m args below meth c nL Q n hp cells slots pc lv (.int j :: .ref (i + 1) :: st) := by
  intro H locs ls h1 h2 h3 h4
  obtain ⟨g1, g2⟩ := hv_rd (cA := G.2.2.2 0) (f := fun j => hv_v G (f j)) hin
  exact W.bald X.1 X.2.1 (h1.2 i _ hi) (hv_arr X.2.2.2.2.2.1 rfl N _) (fun q => by cases q) g1 g2 rfl rfl hd (k H locs ls h1 h2 h3 h4)
theorem hw_zald (X : hv_X G p s m args c Ts own cc nL) {i N : Nat} {f : Nat → Value} {j : Int32} (hd : decode cc pc = .ok (.baload, 1)) (hi : hp i = some (.inl (3, N, f))) (hin : vp_in j N)
    (k : hv_W G p l e R s m args below meth c nL Q n hp cells slots (pc + 1) lv (f j.toNatClampNeg :: st)) : hv_W G p l e R s m args below meth c nL Q n hp cells slots pc lv (.int j :: .ref (i + 1) :: st) := by
  intro H locs ls h1 h2 h3 h4
  obtain ⟨g1, g2⟩ := hv_rd (cA := G.2.2.2 3) (f := fun j => hv_v G (f j)) hin
  exact W.zald X.1 X.2.1 (h1.2 i _ hi) (hv_arr X.2.2.2.2.2.1 rfl N _) (fun q => by cases q) g1 g2 rfl rfl hd (k H locs ls h1 h2 h3 h4)
theorem hw_lald (X : hv_X G p s m args c Ts own cc nL) {i N : Nat} {f : Nat → Value} {j : Int32} (hd : decode cc pc = .ok (.laload, 1)) (hi : hp i = some (.inl (2, N, f))) (hin : vp_in j N)
    (k : hv_W G p l e R s m args below meth c nL Q n hp cells slots (pc + 1) lv (f j.toNatClampNeg :: st)) : hv_W G p l e R s m args below meth c nL Q n hp cells slots pc lv (.int j :: .ref (i + 1) :: st) := by
  intro H locs ls h1 h2 h3 h4
  obtain ⟨g1, g2⟩ := hv_rd (cA := G.2.2.2 2) (f := fun j => hv_v G (f j)) hin
  exact W.lald X.1 X.2.1 (h1.2 i _ hi) (hv_arr X.2.2.2.2.2.1 rfl N _) (fun q => by cases q) g1 g2 rfl rfl hd (k H locs ls h1 h2 h3 h4)
theorem hw_aald (X : hv_X G p s m args c Ts own cc nL) {t i N : Nat} {ty : FieldType} {f : Nat → Value} {j : Int32} (hd : decode cc pc = .ok (.aaload, 1)) (ht : hv_tyl[t]? = some ty) (hr : ty.isReference = true) (hi : hp i = some (.inl (t, N, f))) (hin : vp_in j N)
    (k : hv_W G p l e R s m args below meth c nL Q n hp cells slots (pc + 1) lv (f j.toNatClampNeg :: st)) : hv_W G p l e R s m args below meth c nL Q n hp cells slots pc lv (.int j :: .ref (i + 1) :: st) := by
  intro H locs ls h1 h2 h3 h4
  obtain ⟨g1, g2⟩ := hv_rd (cA := G.2.2.2 t) (f := fun j => hv_v G (f j)) hin
  exact W.aald X.1 X.2.1 (h1.2 i _ hi) (hv_arr X.2.2.2.2.2.1 ht N _) hr (fun q => by cases q) g1 g2 rfl rfl hd (k H locs ls h1 h2 h3 h4)
theorem hv_ast {i t N : Nat} {f : Nat → Value} {H H1 : Heap} {j : Nat} {v w : Value} (h1 : hv_P G n hp H) (hvw : hv_v G v = w) (e1 : H1[G.1.1 + i]? = some ((arrV (G.2.2.2 t) N (fun j => hv_v G (f j))).setSlot j w)) (z : H1.size = H.size) (oq : ∀ q : Nat, q ≠ G.1.1 + i → H1[q]? = H[q]?) : hv_P G n (hv_up hp i (.inl (t, N, hv_uv f j v))) H1 := by
  refine h1.set ?_ z oq
  show H1[G.1.1 + i]? = some (arrV _ _ _)
  rw [e1, arrV_store, ← hvw]
  exact congrArg (fun z => some (arrV _ _ z)) (hv_v_uv G f j v).symm
theorem hw_iast (X : hv_X G p s m args c Ts own cc nL) {i N : Nat} {f : Nat → Value} {j x : Int32} {v : Value} (hd : decode cc pc = .ok (.iastore, 1)) (hv : hv_v G v = .int x) (hi : hp i = some (.inl (1, N, f))) (hin : vp_in j N)
    (k : hv_W G p l e R s m args below meth c nL Q n (hv_up hp i (.inl (1, N, hv_uv f j.toNatClampNeg v))) cells slots (pc + 1) lv st) : hv_W G p l e R s m args below meth c nL Q n hp cells slots pc lv (v :: .int j :: .ref (i + 1) :: st) := by
  intro H locs ls h1 h2 h3 h4
  obtain ⟨g1, -⟩ := hv_rd (cA := G.2.2.2 1) (f := fun j => hv_v G (f j)) hin
  show W p l e R s m args below meth c H locs cells slots Q (F0 m pc ls (hv_v G v :: .int j :: .ref (G.1.1 + i) :: st.map (hv_v G)))
  rw [hv]
  exact W.iast X.1 X.2.1 (h1.2 i _ hi) (hv_arr X.2.2.2.2.2.1 rfl N _) (fun q => by cases q) g1 rfl rfl hd (fun H1 e1 z oq => k H1 _ ls (hv_ast h1 hv e1 z oq) (hv_low h2 oq (Nat.le_add_right _ _)) (hv_locs h3 (Nat.le_add_right _ _)) h4)
theorem hw_bast (X : hv_X G p s m args c Ts own cc nL) {i N : Nat} {f : Nat → Value} {j x : Int32} (hd : decode cc pc = .ok (.bastore, 1)) (hi : hp i = some (.inl (0, N, f))) (hin : vp_in j N)
    (k : hv_W G p l e R s m args below meth c nL Q n (hv_up hp i (.inl (0, N, hv_uv f j.toNatClampNeg (.int x.toInt8.toInt32)))) cells slots (pc + 1) lv st) : hv_W G p l e R s m args below meth c nL Q n hp cells slots pc lv (.int x :: .int j :: .ref (i + 1) :: st) := by
  intro H locs ls h1 h2 h3 h4
  obtain ⟨g1, -⟩ := hv_rd (cA := G.2.2.2 0) (f := fun j => hv_v G (f j)) hin
  exact W.bast X.1 X.2.1 (h1.2 i _ hi) (hv_arr X.2.2.2.2.2.1 rfl N _) (fun q => by cases q) g1 rfl rfl hd (fun H1 e1 z oq => k H1 _ ls (hv_ast h1 rfl e1 z oq) (hv_low h2 oq (Nat.le_add_right _ _)) (hv_locs h3 (Nat.le_add_right _ _)) h4)
theorem hv_b8 (x : Int32) : x.toInt8.toInt32.toInt8.toInt32 = x.toInt8.toInt32 := by simp
theorem hw_bastS (X : hv_X G p s m args c Ts own cc nL) {i N : Nat} {f : Nat → Value} {j x : Int32} {y : UInt32} (hd : decode cc pc = .ok (.bastore, 1)) (hy : G.2.1 y.toNat = x.toInt8.toInt32) (hi : hp i = some (.inl (0, N, f))) (hin : vp_in j N)
    (k : hv_W G p l e R s m args below meth c nL Q n (hv_up hp i (.inl (0, N, hv_uv f j.toNatClampNeg (.float y)))) cells slots (pc + 1) lv st) : hv_W G p l e R s m args below meth c nL Q n hp cells slots pc lv (.float y :: .int j :: .ref (i + 1) :: st) := by
  intro H locs ls h1 h2 h3 h4
  obtain ⟨g1, -⟩ := hv_rd (cA := G.2.2.2 0) (f := fun j => hv_v G (f j)) hin
  have ev : hv_v G (.float y) = .int x.toInt8.toInt32 := congrArg Value.int hy
  show W p l e R s m args below meth c H locs cells slots Q (F0 m pc ls (hv_v G (.float y) :: .int j :: .ref (G.1.1 + i) :: st.map (hv_v G)))
  rw [ev]
  exact W.bast X.1 X.2.1 (h1.2 i _ hi) (hv_arr X.2.2.2.2.2.1 rfl N _) (fun q => by cases q) g1 rfl rfl hd (fun H1 e1 z oq => k H1 _ ls (hv_ast h1 (w := .int x.toInt8.toInt32) ev (by rw [e1]; show _ = some ((arrV _ _ _).setSlot _ _); rw [narrow_byte, hv_b8]) z oq) (hv_low h2 oq (Nat.le_add_right _ _)) (hv_locs h3 (Nat.le_add_right _ _)) h4)
theorem hw_zast (X : hv_X G p s m args c Ts own cc nL) {i N : Nat} {f : Nat → Value} {j x y : Int32} (hd : decode cc pc = .ok (.bastore, 1)) (hy : narrow .boolean (.int x) = .int y) (hi : hp i = some (.inl (3, N, f))) (hin : vp_in j N)
    (k : hv_W G p l e R s m args below meth c nL Q n (hv_up hp i (.inl (3, N, hv_uv f j.toNatClampNeg (.int y)))) cells slots (pc + 1) lv st) : hv_W G p l e R s m args below meth c nL Q n hp cells slots pc lv (.int x :: .int j :: .ref (i + 1) :: st) := by
  intro H locs ls h1 h2 h3 h4
  obtain ⟨g1, -⟩ := hv_rd (cA := G.2.2.2 3) (f := fun j => hv_v G (f j)) hin
  exact W.zast X.1 X.2.1 (h1.2 i _ hi) (hv_arr X.2.2.2.2.2.1 rfl N _) (fun q => by cases q) g1 rfl rfl hd (fun H1 e1 z oq => k H1 _ ls (hv_ast h1 hy.symm e1 z oq) (hv_low h2 oq (Nat.le_add_right _ _)) (hv_locs h3 (Nat.le_add_right _ _)) h4)
theorem hw_last (X : hv_X G p s m args c Ts own cc nL) {i N : Nat} {f : Nat → Value} {j : Int32} {x : Int64} (hd : decode cc pc = .ok (.lastore, 1)) (hi : hp i = some (.inl (2, N, f))) (hin : vp_in j N)
    (k : hv_W G p l e R s m args below meth c nL Q n (hv_up hp i (.inl (2, N, hv_uv f j.toNatClampNeg (.long x)))) cells slots (pc + 1) lv st) : hv_W G p l e R s m args below meth c nL Q n hp cells slots pc lv (.long x :: .int j :: .ref (i + 1) :: st) := by
  intro H locs ls h1 h2 h3 h4
  obtain ⟨g1, -⟩ := hv_rd (cA := G.2.2.2 2) (f := fun j => hv_v G (f j)) hin
  exact W.last X.1 X.2.1 (h1.2 i _ hi) (hv_arr X.2.2.2.2.2.1 rfl N _) (fun q => by cases q) g1 rfl rfl hd (fun H1 e1 z oq => k H1 _ ls (hv_ast h1 rfl e1 z oq) (hv_low h2 oq (Nat.le_add_right _ _)) (hv_locs h3 (Nat.le_add_right _ _)) h4)
theorem hw_aast (X : hv_X G p s m args c Ts own cc nL) {t i iv ci N : Nat} {r : vw_C} {f g : Nat → Value} {j : Int32} (hd : decode cc pc = .ok (.aastore, 1)) (ht : hv_tyl[t]? = some (.object r.1)) (hi : hp i = some (.inl (t, N, f))) (hv : hp iv = some (.inr (ci, g))) (hc : vwCl[ci]? = some r) (hin : vp_in j N)
    (k : hv_W G p l e R s m args below meth c nL Q n (hv_up hp i (.inl (t, N, hv_uv f j.toNatClampNeg (.ref (iv + 1))))) cells slots (pc + 1) lv st) : hv_W G p l e R s m args below meth c nL Q n hp cells slots pc lv (.ref (iv + 1) :: .int j :: .ref (i + 1) :: st) := by
  intro H locs ls h1 h2 h3 h4
  have hK := X.2.2.2.2.2.1
  have hlt : j.toNatClampNeg < N := Nat.not_le.mp fun q => hin (Or.inr q)
  have h0 : ¬ j < 0 := fun q => hin (Or.inl q)
  obtain ⟨r', hr', cellV, g1, g2, g3, -⟩ := h1.2 iv _ hv
  have hcls := (hK.1 ci r hc).2
  obtain ⟨kA, comp, k1, k2, k3, -⟩ := (hK.2 t _ (hv_tys_at ht)).2
  have hcomp : comp = G.2.2.1.1 ci := Option.some.inj (k3.symm.trans hcls.1)
  subst hcomp
  obtain ⟨kC, hkC, -⟩ := hcls.2
  refine W.aast X.1 X.2.1 (h1.2 i _ hi) (fun q h => by cases h) (fun h => by cases h) k1 k2 rfl hkC ⟨h0, by show _ < (arrV _ _ _).slots.size; rw [arrV_size]; exact hlt⟩ g1 (fun q h => by rw [g3] at h; cases h) (by rw [g2]; exact hkC) (by rw [g2]; exact va_assign hcls) rfl rfl hd (fun H1 e1 z oq => ?_)
  exact k H1 _ ls (hv_ast h1 rfl e1 z oq) (hv_low h2 oq (Nat.le_add_right _ _)) (hv_locs h3 (Nat.le_add_right _ _)) h4
theorem hw_alen (X : hv_X G p s m args c Ts own cc nL) {t i N : Nat} {ty : FieldType} {f : Nat → Value} {v : Int32} (hd : decode cc pc = .ok (.arraylength, 1)) (ht : hv_tyl[t]? = some ty) (hi : hp i = some (.inl (t, N, f))) (hv : Int32.ofNat N = v)
    (k : hv_W G p l e R s m args below meth c nL Q n hp cells slots (pc + 1) lv (.int v :: st)) : hv_W G p l e R s m args below meth c nL Q n hp cells slots pc lv (.ref (i + 1) :: st) := by
  intro H locs ls h1 h2 h3 h4
  exact W.alen X.1 X.2.1 (h1.2 i _ hi) (hv_arr X.2.2.2.2.2.1 ht N _) (by rw [arrV_size]; exact hv) rfl rfl hd (k H locs ls h1 h2 h3 h4)
theorem hv_low' {B : Nat} {H H1 Hs : Heap} (h2 : ∀ q : Nat, q < B → H[q]? = Hs[q]?) (hz : B ≤ H.size) (oq : ∀ q : Nat, q < H.size → H1[q]? = H[q]?) : ∀ q : Nat, q < B → H1[q]? = Hs[q]? := fun q hq => (oq q (by omega)).trans (h2 q hq)
theorem hw_new (X : hv_X G p s m args c Ts own cc nL) {ix ci N : Nat} {C : String} {T : u_T} {f : Nat → Value} {ty0 : Nat → FieldType} (hd : decode cc pc = .ok (.new ix, 3)) (hcl : vwCl[ci]? = some (C, T, N)) (hin : ∀ w ∈ u_ws C T N, w ∈ Ts) (hty : ∀ k, k < N → parseFieldDescriptor (T k).2.2.1 = some (ty0 k))
    (hw1 : Cond.classLink own ix C ∈ Ts) (hw2 : Cond.instantiable C N ∈ Ts) (hw3 : Cond.initialized C ∈ Ts) (hf : ∀ j, j < N → defaultValue (ty0 j) = hv_v G (f j)) (hc : cells + 1 ≤ R.cells) (hs : slots + N ≤ R.slots)
    (k : hv_W G p l e R s m args below meth c nL Q (n + 1) (hv_up hp n (.inr (ci, f))) (cells + 1) (slots + N) (pc + 3) lv (.ref (n + 1) :: st)) : hv_W G p l e R s m args below meth c nL Q n hp cells slots pc lv st := by
  intro H locs ls h1 h2 h3 h4
  obtain ⟨hx, hb, hml, hown, hts, hK, hB, hbB, hxK, hX⟩ := X
  have hKn := hK.1 ci _ hcl
  refine W.newcK hx hb hown (hts _ hw1) (hts _ hw2) (hts _ hw3) rfl hd hc hs hKn.2.1 h1.1 (fun H1 kC hkC e1 z1 o1 => ?_)
  have o2 : ∀ q : Nat, q < H.size → H1[q]? = H[q]? := fun q hq => o1 q (by rw [← h1.1]; exact hq)
  refine k H1 _ ls (h1.push ?_ (by rw [z1, h1.1]) o2) (hv_low' h2 (by rw [h1.1]; omega) o2) h3 h4
  exact ⟨_, hcl, (u_born ty0 hts hin hKn hkC e1 hty).to hf⟩
theorem hw_newa (X : hv_X G p s m args c Ts own cc nL) {t N : Nat} {atype : ArrayType} {ty : FieldType} {j : Int32} {v : Value} (hd : decode cc pc = .ok (.newarray atype, 2)) (hat : newarray.typeOf atype = ty) (ht : hv_tyl[t]? = some ty) (hra : ∀ C : String, ty ≠ .object C) (hw : Cond.arrayClass ty ∈ Ts) (hv : defaultValue ty = hv_v G v) (hj : ¬ j < 0) (hN : j.toNatClampNeg = N) (hby : N * componentBytes ty ≤ 536870912) (hc : cells + 1 ≤ R.cells) (hs : slots + N ≤ R.slots)
    (k : hv_W G p l e R s m args below meth c nL Q (n + 1) (hv_up hp n (.inl (t, N, fun _ => v))) (cells + 1) (slots + N) (pc + 2) lv (.ref (n + 1) :: st)) : hv_W G p l e R s m args below meth c nL Q n hp cells slots pc lv (.int j :: st) := by
  intro H locs ls h1 h2 h3 h4
  subst hat
  have hK := X.2.2.2.2.2.1
  refine va_newaK X.1 X.2.1 (X.2.2.2.2.1 _ hw) rfl hd rfl hj hN hby hc hs h1.1 (fun H1 cA e1 z1 o1 hAr hNm => ?_)
  have o2 : ∀ q : Nat, q < H.size → H1[q]? = H[q]? := fun q hq => o1 q (by rw [← h1.1]; exact hq)
  have hra2 : s.vm.findClass ("[" ++ (newarray.typeOf atype).toString) = some (G.2.2.2 t) := by
    have hR := (hK.2 t _ (hv_tys_at ht)).2
    cases atype <;> exact hR
  have hcy : cA = G.2.2.2 t := Option.some.inj (hNm.symm.trans hra2)
  subst hcy
  refine k H1 _ ls (h1.push ?_ (by rw [z1, h1.1]) o2) (hv_low' h2 (by rw [h1.1]; omega) o2) h3 h4
  show H1[G.1.1 + n]? = some (arrV _ _ _)
  rw [e1, hv]
theorem hw_newq (X : hv_X G p s m args c Ts own cc nL) {t ix N : Nat} {C : String} {j : Int32} (hd : decode cc pc = .ok (.anewarray ix, 3)) (ht : hv_tyl[t]? = some (.object C)) (hw1 : Cond.classLink own ix C ∈ Ts) (hw2 : Cond.arrayOver (.object C) ∈ Ts) (hj : ¬ j < 0) (hN : j.toNatClampNeg = N) (hby : N * 4 ≤ 536870912) (hc : cells + 1 ≤ R.cells) (hs : slots + N ≤ R.slots)
    (k : hv_W G p l e R s m args below meth c nL Q (n + 1) (hv_up hp n (.inl (t, N, fun _ => .null))) (cells + 1) (slots + N) (pc + 3) lv (.ref (n + 1) :: st)) : hv_W G p l e R s m args below meth c nL Q n hp cells slots pc lv (.int j :: st) := by
  intro H locs ls h1 h2 h3 h4
  subst hN
  have hK := X.2.2.2.2.2.1
  refine W.anew X.1 X.2.1 X.2.2.2.1 (X.2.2.2.2.1 _ hw1) (X.2.2.2.2.1 _ hw2) rfl hd rfl hj hby hc hs (fun cA kA comp f1 f2 f3 f4 => ?_)
  obtain ⟨kA', comp', -, -, -, hnm⟩ := (hK.2 t _ (hv_tys_at ht)).2
  have hcy : cA = G.2.2.2 t := Option.some.inj (f1.symm.trans hnm)
  subst hcy
  have o2 : ∀ q : Nat, q < H.size → (H.push ({ cls := G.2.2.2 t, slots := Array.replicate j.toNatClampNeg .null, vm := .none } : Cell))[q]? = H[q]? := fun q hq => by rw [Array.getElem?_push, if_neg (Nat.ne_of_lt hq)]
  have hk := k (H.push ({ cls := G.2.2.2 t, slots := Array.replicate j.toNatClampNeg .null, vm := .none } : Cell)) locs ls (h1.push ?_ (by rw [Array.size_push]) o2) (hv_low' h2 (by rw [h1.1]; omega) o2) h3 h4
  · have hsz : H.size = G.1.1 + n := h1.1
    show W p l e R s m args below meth c _ locs _ _ Q (F0 m (pc + 3) ls (.ref H.size :: st.map (hv_v G)))
    rw [hsz]
    exact hk
  · show _ = some (arrV (G.2.2.2 t) j.toNatClampNeg (fun _ => Value.null))
    rw [← h1.1, Array.getElem?_push_size, ← arrV_new]
theorem hw_sld (X : hv_X G p s m args c Ts own cc nL) {j : Int32} {x : UInt32} (hd : decode cc pc = .ok (.iaload, 1)) (hin : vp_in j G.1.2.2) (hx : x.toNat = j.toNatClampNeg)
    (k : hv_W G p l e R s m args below meth c nL Q n hp cells slots (pc + 1) lv (.float x :: st)) : hv_W G p l e R s m args below meth c nL Q n hp cells slots pc lv (.int j :: .ref 0 :: st) := by
  intro H locs ls h1 h2 h3 h4
  obtain ⟨hxx, hb, hml, hown, hts, hK, hB, hbB, hxK, scr, g1, g2, g3, g4, g5⟩ := X
  have hlt : j.toNatClampNeg < G.1.2.2 := Nat.not_le.mp fun q => hin (Or.inr q)
  have hk := k H locs ls h1 h2 h3 h4
  have hv : hv_v G (.float x) = .int (G.2.1 j.toNatClampNeg) := by show Value.int (G.2.1 x.toNat) = _; rw [hx]
  rw [List.map_cons, hv] at hk
  exact W.iald hxx hb (a := G.1.2.1) (cell := scr) (by rw [h2 _ hbB]; exact g1) g2 g3 (by rw [g4]; exact hin) (g5 _ hlt) rfl rfl hd hk
theorem hw_sldK (X : hv_X G p s m args c Ts own cc nL) {j x : Int32} (hd : decode cc pc = .ok (.iaload, 1)) (hin : vp_in j G.1.2.2) (hx : G.2.1 j.toNatClampNeg = x)
    (k : hv_W G p l e R s m args below meth c nL Q n hp cells slots (pc + 1) lv (.int x :: st)) : hv_W G p l e R s m args below meth c nL Q n hp cells slots pc lv (.int j :: .ref 0 :: st) := by
  intro H locs ls h1 h2 h3 h4
  obtain ⟨hxx, hb, hml, hown, hts, hK, hB, hbB, hxK, scr, g1, g2, g3, g4, g5⟩ := X
  have hlt : j.toNatClampNeg < G.1.2.2 := Nat.not_le.mp fun q => hin (Or.inr q)
  have hk := k H locs ls h1 h2 h3 h4
  subst hx
  exact W.iald hxx hb (a := G.1.2.1) (cell := scr) (by rw [h2 _ hbB]; exact g1) g2 g3 (by rw [g4]; exact hin) (g5 _ hlt) rfl rfl hd hk
theorem hw_slen (X : hv_X G p s m args c Ts own cc nL) {v : Int32} (hd : decode cc pc = .ok (.arraylength, 1)) (hv : Int32.ofNat G.1.2.2 = v)
    (k : hv_W G p l e R s m args below meth c nL Q n hp cells slots (pc + 1) lv (.int v :: st)) : hv_W G p l e R s m args below meth c nL Q n hp cells slots pc lv (.ref 0 :: st) := by
  intro H locs ls h1 h2 h3 h4
  obtain ⟨hxx, hb, hml, hown, hts, hK, hB, hbB, hxK, scr, g1, g2, g3, g4, g5⟩ := X
  exact W.alen hxx hb (a := G.1.2.1) (cell := scr) (by rw [h2 _ hbB]; exact g1) g2 (by rw [g4]; exact hv) rfl rfl hd (k H locs ls h1 h2 h3 h4)
theorem hw_objInit (X : hv_X G p s m args c Ts own cc nL) {ix a : Nat} (hd : decode cc pc = .ok (.invokespecial ix, 3)) (hw1 : Cond.methodLink own ix Lib.objectInit ∈ Ts) (hw2 : Cond.instanceMethod Lib.objectInit ∈ Ts) (hw3 : Cond.code Lib.objectInit ⟨#[0xb1]⟩ 1 none ∈ Ts) (hr : 1 ≤ R.frames) (hr2 : 20 ≤ R.locals) (hst : (st.map fun v => v.category).sum ≤ 8)
    (k : hv_W G p l e R s m args below meth c nL Q n hp cells slots (pc + 3) lv st) : hv_W G p l e R s m args below meth c nL Q n hp cells slots pc lv (.ref a :: st) := by
  intro H locs ls h1 h2 h3 h4
  obtain ⟨hx, hb, hml, hown, hts, hK, hB, hbB, hxK, hX⟩ := X
  refine W.objInit hx hb hown (hts _ hw1) (hts _ hw2) (hts _ hw3) rfl (by rw [hml]; exact h4.1) rfl hd hr ?_ ?_
  · have := lv_room (m := m) (pc := pc) (ls := ls) (rest := (Value.ref a :: st).map (hv_v G)) (st := st.map (hv_v G)) (by rw [hv_cats]; exact hst)
    omega
  · exact k H locs ls h1 h2 h3 h4
theorem hw_copy (X : hv_X G p s m args c Ts own cc nL) {ix i0 i1 N0 N1 : Nat} {f g : Nat → Value} {sp dp z : Int32} (hd : decode cc pc = .ok (.invokestatic ix, 3)) (hw1 : Cond.methodLink own ix arraycopyName ∈ Ts) (hw2 : Cond.native arraycopyName ∈ Ts) (hw3 : Cond.static arraycopyName ∈ Ts) (hw4 : Cond.initialized "java/lang/System" ∈ Ts) (hi0 : hp i0 = some (.inl (1, N0, f))) (hi1 : hp i1 = some (.inl (1, N1, g)))
    (g1 : ¬ sp < 0) (g2 : ¬ dp < 0) (g3 : ¬ z < 0) (g4 : sp.toNatClampNeg + z.toNatClampNeg ≤ N0) (g5 : dp.toNatClampNeg + z.toNatClampNeg ≤ N1) (hint : ∀ i, i < z.toNatClampNeg → ∃ x : Int32, hv_v G (f (sp.toNatClampNeg + i)) = .int x) (hr : 1 ≤ R.frames) (hr2 : 8 + (nativeFrameWords "java/lang/System" "arraycopy" 5 + 11) ≤ R.locals) (hst : (st.map fun v => v.category).sum ≤ 8)
    (k : hv_W G p l e R s m args below meth c nL Q n (hv_up hp i1 (.inl (1, N1, va_cpy f g sp.toNatClampNeg dp.toNatClampNeg z.toNatClampNeg))) cells slots (pc + 3) lv st) : hv_W G p l e R s m args below meth c nL Q n hp cells slots pc lv (.int z :: .int dp :: .ref (i1 + 1) :: .int sp :: .ref (i0 + 1) :: st) := by
  intro H locs ls h1 h2 h3 h4
  obtain ⟨hx, hb, hml, hown, hts, hK, hB, hbB, hxK, hX⟩ := X
  have nn : ∀ z : Int32, ¬ z < 0 → z.toInt = (z.toNatClampNeg : Int) := by
    intro z hz
    have hz0 : (0 : Int) ≤ z.toInt := by
      have := Int32.not_lt.mp hz
      simpa using Int32.le_iff_toInt_le.mp this
    show z.toInt = ((z.toInt.toNat : Nat) : Int)
    omega
  intro T hT XX
  have hc0 : H[G.1.1 + i0]? = some (arrV (G.2.2.2 1) N0 (fun j => hv_v G (f j))) := h1.2 i0 _ hi0
  have hc1 : H[G.1.1 + i1]? = some (arrV (G.2.2.2 1) N1 (fun j => hv_v G (g j))) := h1.2 i1 _ hi1
  obtain ⟨-, k0, hk0, cm0, hkk0⟩ := hv_arr hK (t := 1) rfl N0 (fun j => hv_v G (f j))
  obtain ⟨-, k1, hk1, cm1, hkk1⟩ := hv_arr hK (t := 1) rfl N1 (fun j => hv_v G (g j))
  obtain ⟨vm', X', step⟩ := XX.arraycopy hx hown (hts _ hw1) (hts _ hw2) (hts _ hw3) (hts _ hw4) (src := G.1.1 + i0) (dst := G.1.1 + i1) (cs := arrV (G.2.2.2 1) N0 (fun j => hv_v G (f j))) (cd := arrV (G.2.2.2 1) N1 (fun j => hv_v G (g j))) (srcPos := sp) (destPos := dp) (n := z) (by rw [hT]; exact hc0) (by rw [hT]; exact hc1)
    (fun _ h => by cases h) (fun _ h => by cases h) (fun h => by cases h) (fun h => by cases h) hk0 hk1 hkk0 hkk1 (by simp [refKind]) g1 g2 g3
    (by rw [nn sp g1, nn z g3, arrV_size]; omega)
    (by rw [nn dp g2, nn z g3, arrV_size]; omega)
    (fun vm₁ _ i hi => by
      obtain ⟨x, hx0⟩ := hint i hi
      have e : (arrV (G.2.2.2 1) N0 (fun j => hv_v G (f j))).slots.getD (sp.toNatClampNeg + i) .null = .int x := by
        rw [Array.getD_eq_getD_getElem?, arrV_read _ _ (by omega)]
        exact hx0
      refine ⟨?_, ?_⟩
      · rw [e]
        rfl
      · rw [e]
        exact trivial)
    (g := F0 m pc ls (.int z :: .int dp :: .ref (G.1.1 + i1) :: .int sp :: .ref (G.1.1 + i0) :: st.map (hv_v G))) rfl (by rw [hml]; exact h4.1) (rest := st.map (hv_v G)) rfl (by rw [hb]; exact hd) hr (by
      have h8 : ((st.map (hv_v G)).map fun v => v.category).sum ≤ 8 := by rw [hv_cats]; exact hst
      show 2 * 0 + _ + _ ≤ _
      omega)
  have e1 : copied (arrV (G.2.2.2 1) N0 (fun j => hv_v G (f j))) (arrV (G.2.2.2 1) N1 (fun j => hv_v G (g j))) sp dp z = arrV (G.2.2.2 1) N1 (fun j => hv_v G (va_cpy f g sp.toNatClampNeg dp.toNatClampNeg z.toNatClampNeg j)) := va_copied (hv_v G) (G.2.2.2 1) (G.2.2.2 1) f g g4
  rw [e1] at X' step
  have hl : G.1.1 + i1 < H.size := (Array.getElem?_eq_some_iff.mp hc1).1
  generalize hcell : arrV (G.2.2.2 1) N1 (fun j => hv_v G (va_cpy f g sp.toNatClampNeg dp.toNatClampNeg z.toNatClampNeg j)) = cell at X' step
  have hheap : ((T.setVm vm').setCell (G.1.1 + i1) cell).heap = H.setIfInBounds (G.1.1 + i1) cell := by rw [← hT]; rfl
  have oq : ∀ q : Nat, q ≠ G.1.1 + i1 → (H.setIfInBounds (G.1.1 + i1) cell)[q]? = H[q]? := fun q hq => by simp [Array.getElem?_setIfInBounds, Ne.symm hq]
  have hat : hv_at G i1 (.inl (1, N1, va_cpy f g sp.toNatClampNeg dp.toNatClampNeg z.toNatClampNeg)) (H.setIfInBounds (G.1.1 + i1) cell) := by
    show (H.setIfInBounds (G.1.1 + i1) cell)[G.1.1 + i1]? = some (arrV _ _ _)
    rw [hcell]
    simp [Array.getElem?_setIfInBounds, hl]
  obtain ⟨t, a1, b1⟩ := k _ _ ls (h1.set hat (by simp) oq) (hv_low h2 oq (Nat.le_add_right _ _)) (fun q hq => by
      rcases List.mem_append.mp hq with h | h
      · exact h3 q h
      · obtain ⟨z, -, hz⟩ := List.mem_map.mp h
        rw [← hz]
        exact Nat.le_add_right _ _) h4 _ hheap X'
  exact ⟨t, step t a1, b1⟩
end HWH
/-! CONTRACTS: a method at a world and its arguments, by the words gw that every state keeps -/
def hv_keep (w : Cond) : Bool := match w with
  | .fieldLinkNest .. => true
  | .methodLinkNest .. => true
  | .arrayOver (.object _) => true
  | .arrayOver (.array _) => true
  | .arrayClass _ => true
  | w => w.onTables && w.keeps
theorem hv_keeps {w : Cond} (h : hv_keep w = true) {args a' : Array Value} {s U : State} (hW : s.WarmedH U.vm) (hb : w.before args s = true) : w.before a' U = true := by
  unfold hv_keep at h
  split at h
  · exact va_Nw.use rfl (va_Nw.warmF hW (va_Nw.of rfl hb))
  · exact va_Nw.use rfl (va_Nw.warmM hW (va_Nw.of rfl hb))
  · exact va_AO.use (va_AO.moved hW.alike (va_AO.of hb))
  · exact Jvm.Stand.arrayOver_alikeB hW.alike hb
  · exact word_at hW (Or.inr ⟨_, rfl⟩) hb
  · exact word_at hW (Or.inl h) hb
def hv_Pc (G : hv_G) (n : Nat) (hp : hv_H) (as : List Value) : Array Value → State → Prop := fun v U => v = (as.map (hv_v G)).toArray ∧ hv_P G n hp U.heap ∧ va_K G.2.2.1 vwCl (hv_tys G) U ∧ G.1.2.1 < G.1.1 ∧ hx_K G U ∧ va_X G.1.2.1 G.1.2.2 G.2.1 U U.heap
def hv_Qc (G : hv_G) (n : Nat) (hp : hv_H) (r : Option Value) : Array Value → State → Outcome → State → Prop := fun _ st o t => o = .returned (r.map (hv_v G)) ∧ hv_P G n hp t.heap ∧ ∀ q : Nat, q < G.1.1 → t.heap[q]? = st.heap[q]?
def hv_C (G : hv_G) (gw : List Cond) (l : Launch) (y : MethodName) (bytes : ByteArray) (maxL : Nat) (ret : Option FieldType) (fr lo : Nat) (n : Nat) (hp : hv_H) (as : List Value) (r : Option Value) (n' : Nat) (hp' : hv_H) (mc ms : Nat) : Prop :=
  Met l y (.code y bytes maxL ret :: gw) { frames := fr, cells := mc, slots := ms, locals := lo } (hv_Pc G n hp as) (hv_Qc G n' hp' r) mc ms (fun q => G.1.1 ≤ q)
theorem hv_blind (G : hv_G) (n : Nat) (hp : hv_H) (as : List Value) : FrameBlind (hv_Pc G n hp as) := by
  intro a U g mk h
  obtain ⟨h1, h2, h3, h4, h6, h5⟩ := h
  exact ⟨h1, h2, va_K.moved (u := U) (U := U.calling g mk a) (Vm.Alike.refl U.vm) h3, h4, h6, va_X.moved (u := U) (U := U.calling g mk a) (Vm.Alike.refl U.vm) h5⟩
section HWC
variable {G : hv_G} {p : Program} {l : Launch} {e : Env} {R : Room} {s : State} {m : MethodId} {args : Array Value} {below : List Frame} {meth : Method} {c : Code} {nL : Nat} {Q : State → Prop} {n : Nat} {hp : hv_H} {cells slots pc : Nat} {lv : List (Nat × Value)} {st : List Value} {Ts : List Cond} {own : String} {cc : ByteArray}
theorem hv_pre (X : hv_X G p s m args c Ts own cc nL) {H : Heap} (h1 : hv_P G n hp H) (h2 : ∀ q : Nat, q < G.1.1 → H[q]? = s.heap[q]?) (as : List Value) : ∀ U : State, U.heap = H → s.WarmedH U.vm → hv_Pc G n hp as (as.map (hv_v G)).toArray U := by
  intro U hU hW
  obtain ⟨hx, hb, hml, hown, hts, hK, hB, hbB, hxK, hX⟩ := X
  refine ⟨rfl, by rw [hU]; exact h1, va_K.moved hW.alike hK, hbB, hxK.moved hW (fun q hq => by rw [hU]; exact h2 q hq), ?_⟩
  rw [hU]
  exact va_X.moved hW.alike (va_X.kept hX (h2 _ hbB))
/-- behind a call: what came back, the world as the contract has it -/
theorem hw_back {as : Array Value} {r : Option Value} {n' : Nat} {hp' : hv_H} {mc ms : Nat} {ls : Array Slot} {st0 : List Value} {H : Heap} {locs : List Loc}
    (hr : va_Run p l e R s m args below meth c H locs cells slots mc ms (F0 m pc ls st0) (st.map (hv_v G)) (hv_Qc G n' hp' r as) (fun q => G.1.1 ≤ q)) (h2 : ∀ q : Nat, q < G.1.1 → H[q]? = s.heap[q]?) (h3 : ∀ q ∈ locs, G.1.1 ≤ q.base) (h4 : lv_has ls nL (hv_l G lv))
    (k : hv_W G p l e R s m args below meth c nL Q n' hp' (cells + mc) (slots + ms) (pc + 3) lv (r.toList ++ st)) : W p l e R s m args below meth c H locs cells slots Q (F0 m pc ls st0) := by
  intro T hT XX
  obtain ⟨v, st₀, t, T', L, h0, X', hL, e1, e2, ⟨hv, hp1, hq⟩, stp⟩ := hr T hT XX
  cases hv
  have k1 := k T'.heap (locs ++ L) ls (by rw [e1]; exact hp1) (fun q hq1 => by rw [e1, hq q hq1, h0]; exact h2 q hq1) (fun q hq1 => by
      rcases List.mem_append.mp hq1 with h | h
      · exact h3 q h
      · exact hL q h) h4
  have er : (r.toList ++ st).map (hv_v G) = (r.map (hv_v G)).toList ++ st.map (hv_v G) := by cases r <;> simp
  rw [er] at k1
  obtain ⟨t2, a1, b1⟩ := k1 T' rfl X'
  exact ⟨t2, stp t2 a1, b1⟩
theorem hv_callB (X : hv_X G p s m args c Ts own cc nL) {gw : List Cond} {y : MethodName} {bytes : ByteArray} {maxL : Nat} {ret : Option FieldType} {fr lo mc ms ix na : Nat} (hgw : ∀ w ∈ gw, w ∈ Ts) (hkp : ∀ w ∈ gw, hv_keep w = true) (hcode : Cond.code y bytes maxL ret ∈ gw) (hini : Cond.initialized y.cls ∈ Ts) (hlink : Cond.methodLink own ix y ∈ Ts)
    (hy : y.cls ≠ "java/lang/invoke/MethodHandle" ∧ y.cls ≠ "java/lang/invoke/VarHandle") (hna : (parseMethodDescriptor y.desc).map (fun d => d.parameters.length) = some na) (hfr : fr + 1 ≤ R.frames) (hlo : 8 + (maxL + 11) + lo ≤ R.locals) :
    CallB R s args own ix y bytes maxL ret (.code y bytes maxL ret :: gw) { frames := fr, cells := mc, slots := ms, locals := lo } mc ms na := by
  have hts := X.2.2.2.2.1
  refine ⟨rfl, rfl, hfr, hlo, ?_, List.mem_cons_self, hts _ (hgw _ hcode), hts _ hini, hy, ?_, hts _ hlink⟩
  · intro w hw a' U hW
    have hw' : w ∈ gw := by
      rcases List.mem_cons.mp hw with h | h
      · rw [h]; exact hcode
      · exact h
    exact hv_keeps (hkp w hw') hW (hts _ (hgw w hw'))
  · intro sig h
    rw [h] at hna
    exact (Option.some.inj hna).symm
theorem hw_callV (X : hv_X G p s m args c Ts own cc nL) {gw : List Cond} {y : MethodName} {bytes : ByteArray} {maxL : Nat} {ret : Option FieldType} {fr lo mc ms ix na n' i ci : Nat} {hp' : hv_H} {r : Option Value} {as : List Value} {rc : vw_C} {f : Nat → Value} (hM : hv_C G gw l y bytes maxL ret fr lo n hp (.ref (i + 1) :: as) r n' hp' mc ms)
    (hd : decode cc pc = .ok (.invokevirtual ix, 3)) (hgw : ∀ w ∈ gw, w ∈ Ts) (hkp : ∀ w ∈ gw, hv_keep w = true) (hcode : Cond.code y bytes maxL ret ∈ gw) (hini : Cond.initialized y.cls ∈ Ts) (hlink : Cond.methodLink own ix y ∈ Ts) (hinst : Cond.instanceMethod y ∈ Ts) (hsel : Cond.selects rc.1 y y ∈ Ts)
    (hy : y.cls ≠ "java/lang/invoke/MethodHandle" ∧ y.cls ≠ "java/lang/invoke/VarHandle") (hna : (parseMethodDescriptor y.desc).map (fun d => d.parameters.length) = some na) (hal : as.length = na) (hi : hp i = some (.inr (ci, f))) (hc : vwCl[ci]? = some rc) (hfr : fr + 1 ≤ R.frames) (hlo : 8 + (maxL + 11) + lo ≤ R.locals) (hst : (st.map fun v => v.category).sum ≤ 8) (hcc : cells + mc ≤ R.cells) (hss : slots + ms ≤ R.slots)
    (k : hv_W G p l e R s m args below meth c nL Q n' hp' (cells + mc) (slots + ms) (pc + 3) lv (r.toList ++ st)) : hv_W G p l e R s m args below meth c nL Q n hp cells slots pc lv (as.reverse ++ .ref (i + 1) :: st) := by
  intro H locs ls h1 h2 h3 h4
  have hB := hv_callB X (mc := mc) (ms := ms) hgw hkp hcode hini hlink hy hna hfr hlo
  obtain ⟨r', hr', cell, q1, q2, q3, -⟩ := h1.2 i _ hi
  have hcl := ((X.2.2.2.2.2.1).1 ci rc hc).2.1
  refine hw_back (va_runV (As := as.map (hv_v G)) (b := G.1.1 + i) (rest := st.map (hv_v G)) ⟨X.1, X.2.1, X.2.2.1, X.2.2.2.1, X.2.2.2.2.1⟩ hM ⟨hB, X.2.2.2.2.1 _ hinst, X.2.2.2.2.1 _ hsel⟩ ⟨hv_blind G n hp _, ⟨cell, q1, by rw [q3]; rfl, by rw [q2]; exact hcl⟩, hv_pre X h1 h2 (.ref (i + 1) :: as)⟩ rfl (by rw [List.length_map]; exact hal) h4.1 ?_ (lv_room (by rw [hv_cats]; exact hst)) hd ⟨hcc, hss⟩) h2 h3 h4 k
  show List.map (hv_v G) (as.reverse ++ .ref (i + 1) :: st) = _
  rw [List.map_append, List.map_reverse]
  rfl
theorem hw_callI (X : hv_X G p s m args c Ts own cc nL) {gw : List Cond} {y : MethodName} {bytes : ByteArray} {maxL : Nat} {fr lo mc ms ix na n' a : Nat} {hp' : hv_H} {r : Option Value} {as : List Value} (hM : hv_C G gw l y bytes maxL none fr lo n hp (.ref a :: as) r n' hp' mc ms)
    (hd : decode cc pc = .ok (.invokespecial ix, 3)) (hgw : ∀ w ∈ gw, w ∈ Ts) (hkp : ∀ w ∈ gw, hv_keep w = true) (hcode : Cond.code y bytes maxL none ∈ gw) (hini : Cond.initialized y.cls ∈ Ts) (hlink : Cond.methodLink own ix y ∈ Ts) (hinst : Cond.instanceMethod y ∈ Ts) (hnm : y.name = "<init>")
    (hy : y.cls ≠ "java/lang/invoke/MethodHandle" ∧ y.cls ≠ "java/lang/invoke/VarHandle") (hna : (parseMethodDescriptor y.desc).map (fun d => d.parameters.length) = some na) (hal : as.length = na) (hfr : fr + 1 ≤ R.frames) (hlo : 8 + (maxL + 11) + lo ≤ R.locals) (hst : (st.map fun v => v.category).sum ≤ 8) (hcc : cells + mc ≤ R.cells) (hss : slots + ms ≤ R.slots)
    (k : hv_W G p l e R s m args below meth c nL Q n' hp' (cells + mc) (slots + ms) (pc + 3) lv (r.toList ++ st)) : hv_W G p l e R s m args below meth c nL Q n hp cells slots pc lv (as.reverse ++ .ref a :: st) := by
  intro H locs ls h1 h2 h3 h4
  have hB := hv_callB X (mc := mc) (ms := ms) hgw hkp hcode hini hlink hy hna hfr hlo
  refine hw_back (va_runI (As := as.map (hv_v G)) (b := hv_ad G a) (rest := st.map (hv_v G)) ⟨X.1, X.2.1, X.2.2.1, X.2.2.2.1, X.2.2.2.2.1⟩ hM ⟨hB, hnm, X.2.2.2.2.1 _ hinst⟩ ⟨hv_blind G n hp _, hv_pre X h1 h2 (.ref a :: as)⟩ rfl (by rw [List.length_map]; exact hal) h4.1 ?_ (lv_room (by rw [hv_cats]; exact hst)) hd ⟨hcc, hss⟩) h2 h3 h4 k
  show List.map (hv_v G) (as.reverse ++ .ref a :: st) = _
  rw [List.map_append, List.map_reverse]
  rfl
theorem hw_callS (X : hv_X G p s m args c Ts own cc nL) {gw : List Cond} {y : MethodName} {bytes : ByteArray} {maxL : Nat} {ret : Option FieldType} {fr lo mc ms ix na n' : Nat} {hp' : hv_H} {r : Option Value} {as : List Value} (hM : hv_C G gw l y bytes maxL ret fr lo n hp as r n' hp' mc ms)
    (hd : decode cc pc = .ok (.invokestatic ix, 3)) (hgw : ∀ w ∈ gw, w ∈ Ts) (hkp : ∀ w ∈ gw, hv_keep w = true) (hcode : Cond.code y bytes maxL ret ∈ gw) (hini : Cond.initialized y.cls ∈ Ts) (hlink : Cond.methodLink own ix y ∈ Ts) (hstat : Cond.static y ∈ Ts)
    (hy : y.cls ≠ "java/lang/invoke/MethodHandle" ∧ y.cls ≠ "java/lang/invoke/VarHandle") (hna : (parseMethodDescriptor y.desc).map (fun d => d.parameters.length) = some na) (hal : as.length = na) (hfr : fr + 1 ≤ R.frames) (hlo : 8 + (maxL + 11) + lo ≤ R.locals) (hst : (st.map fun v => v.category).sum ≤ 8) (hcc : cells + mc ≤ R.cells) (hss : slots + ms ≤ R.slots)
    (k : hv_W G p l e R s m args below meth c nL Q n' hp' (cells + mc) (slots + ms) (pc + 3) lv (r.toList ++ st)) : hv_W G p l e R s m args below meth c nL Q n hp cells slots pc lv (as.reverse ++ st) := by
  intro H locs ls h1 h2 h3 h4
  have hB := hv_callB X (mc := mc) (ms := ms) hgw hkp hcode hini hlink hy hna hfr hlo
  refine hw_back (va_runS (As := as.map (hv_v G)) (rest := st.map (hv_v G)) ⟨X.1, X.2.1, X.2.2.1, X.2.2.2.1, X.2.2.2.2.1⟩ hM ⟨hB, X.2.2.2.2.1 _ hstat⟩ ⟨hv_blind G n hp _, hv_pre X h1 h2 as⟩ rfl (by rw [List.length_map]; exact hal) h4.1 ?_ (lv_room (by rw [hv_cats]; exact hst)) hd ⟨hcc, hss⟩) h2 h3 h4 k
  show List.map (hv_v G) (as.reverse ++ st) = _
  rw [List.map_append, List.map_reverse]
theorem hw_callSN (X : hv_X G p s m args c Ts own cc nL) {gw : List Cond} {y : MethodName} {bytes : ByteArray} {maxL : Nat} {ret : Option FieldType} {fr lo mc ms ix na n' : Nat} {host : String} {hp' : hv_H} {r : Option Value} {as : List Value} (hM : hv_C G gw l y bytes maxL ret fr lo n hp as r n' hp' mc ms)
    (hd : decode cc pc = .ok (.invokestatic ix, 3)) (hgw : ∀ w ∈ gw, w ∈ Ts) (hkp : ∀ w ∈ gw, hv_keep w = true) (hcode : Cond.code y bytes maxL ret ∈ gw) (hini : Cond.initialized y.cls ∈ Ts) (hlink : Cond.methodLinkNest own ix y host ∈ Ts) (hstat : Cond.static y ∈ Ts)
    (hy : y.cls ≠ "java/lang/invoke/MethodHandle" ∧ y.cls ≠ "java/lang/invoke/VarHandle") (hna : (parseMethodDescriptor y.desc).map (fun d => d.parameters.length) = some na) (hal : as.length = na) (hfr : fr + 1 ≤ R.frames) (hlo : 8 + (maxL + 11) + lo ≤ R.locals) (hst : (st.map fun v => v.category).sum ≤ 8) (hcc : cells + mc ≤ R.cells) (hss : slots + ms ≤ R.slots)
    (k : hv_W G p l e R s m args below meth c nL Q n' hp' (cells + mc) (slots + ms) (pc + 3) lv (r.toList ++ st)) : hv_W G p l e R s m args below meth c nL Q n hp cells slots pc lv (as.reverse ++ st) := by
  intro H locs ls h1 h2 h3 h4
  have hts := X.2.2.2.2.1
  have hB : va_CN R s args own ix y host bytes maxL ret (.code y bytes maxL ret :: gw) { frames := fr, cells := mc, slots := ms, locals := lo } mc ms na := by
    refine ⟨⟨rfl, rfl, hfr, hlo, ?_, List.mem_cons_self⟩, hts _ (hgw _ hcode), hts _ hini, hy, ?_, hts _ hlink⟩
    · intro w hw a' U hW
      have hw' : w ∈ gw := by
        rcases List.mem_cons.mp hw with h | h
        · rw [h]; exact hcode
        · exact h
      exact hv_keeps (hkp w hw') hW (hts _ (hgw w hw'))
    · intro sig h
      rw [h] at hna
      exact (Option.some.inj hna).symm
  refine hw_back (va_runSN (As := as.map (hv_v G)) (rest := st.map (hv_v G)) ⟨X.1, X.2.1, X.2.2.1, X.2.2.2.1, X.2.2.2.2.1⟩ hM ⟨hB, X.2.2.2.2.1 _ hstat, trivial⟩ ⟨hv_blind G n hp _, hv_pre X h1 h2 as⟩ rfl (by rw [List.length_map]; exact hal) h4.1 ?_ (lv_room (by rw [hv_cats]; exact hst)) hd ⟨hcc, hss⟩) h2 h3 h4 k
  show List.map (hv_v G) (as.reverse ++ st) = _
  rw [List.map_append, List.map_reverse]
theorem hw_iret (X : hv_X G p s m args c Ts own cc nL) {v : Value} {x : Int32} {ty : FieldType} (hlk : meth.locks = false) (hr : meth.sig.returnType = some ty) (hv : hv_v G v = .int x) (hn : narrow ty (.int x) = .int x) (hd : decode cc pc = .ok (.ireturn, 1)) :
    hv_W G p l e R s m args below meth c nL (MQ below (hv_Qc G n hp (some v)) args s cells slots (fun q => G.1.1 ≤ q)) n hp cells slots pc lv [v] := by
  intro H locs ls h1 h2 h3 h4
  show W p l e R s m args below meth c H locs cells slots _ (F0 m pc ls [hv_v G v])
  rw [hv]
  exact W.zret X.1 X.2.1 hr hn (fun t ht _ => ⟨by rw [Option.map_some, hv], by rw [ht]; exact h1, fun q hq => by rw [ht]; exact h2 q hq⟩) h3 hd hlk
theorem hw_lret (X : hv_X G p s m args c Ts own cc nL) {x : Int64} (hlk : meth.locks = false) (hr : meth.sig.returnType = some .long) (hd : decode cc pc = .ok (.lreturn, 1)) :
    hv_W G p l e R s m args below meth c nL (MQ below (hv_Qc G n hp (some (.long x))) args s cells slots (fun q => G.1.1 ≤ q)) n hp cells slots pc lv [.long x] := by
  intro H locs ls h1 h2 h3 h4
  exact W.lret X.1 X.2.1 hr (fun t ht _ => ⟨rfl, by rw [ht]; exact h1, fun q hq => by rw [ht]; exact h2 q hq⟩) h3 hd hlk
theorem hw_aret (X : hv_X G p s m args c Ts own cc nL) {a : Nat} {ty : FieldType} (hlk : meth.locks = false) (hr : meth.sig.returnType = some ty) (hrt : (∃ n, ty = .object n) ∨ ∃ t, ty = .array t) (hd : decode cc pc = .ok (.areturn, 1)) :
    hv_W G p l e R s m args below meth c nL (MQ below (hv_Qc G n hp (some (.ref a))) args s cells slots (fun q => G.1.1 ≤ q)) n hp cells slots pc lv [.ref a] := by
  intro H locs ls h1 h2 h3 h4
  exact W.aret X.1 X.2.1 hr hrt (Or.inr ⟨_, rfl⟩) (fun t ht _ => ⟨rfl, by rw [ht]; exact h1, fun q hq => by rw [ht]; exact h2 q hq⟩) h3 hd hlk
theorem hw_vret (X : hv_X G p s m args c Ts own cc nL) (hlk : meth.locks = false) (hr : meth.sig.returnType = none) (hd : decode cc pc = .ok (.return_, 1)) :
    hv_W G p l e R s m args below meth c nL (MQ below (hv_Qc G n hp none) args s cells slots (fun q => G.1.1 ≤ q)) n hp cells slots pc lv [] := by
  intro H locs ls h1 h2 h3 h4
  exact W.vret X.1 X.2.1 hr (fun t ht _ => ⟨rfl, by rw [ht]; exact h1, fun q hq => by rw [ht]; exact h2 q hq⟩) h3 hd hlk
theorem hw_widen {k1 k2 : Nat} (h1 : cells ≤ k1) (h2 : slots ≤ k2) (k : hv_W G p l e R s m args below meth c nL Q n hp k1 k2 pc lv st) : hv_W G p l e R s m args below meth c nL Q n hp cells slots pc lv st := fun H locs ls g1 g2 g3 g4 => W.widen h1 h2 (k H locs ls g1 g2 g3 g4)
theorem hw_heap {hp' : hv_H} (h : ∀ i, hp i = hp' i) (k : hv_W G p l e R s m args below meth c nL Q n hp' cells slots pc lv st) : hv_W G p l e R s m args below meth c nL Q n hp cells slots pc lv st := by
  have : hp = hp' := funext h
  rw [this]
  exact k
end HWC
theorem hv_args_map (G : hv_G) (as : List Value) : ∀ i : Nat, lv_args i (as.map (hv_v G)) = hv_l G (lv_args i as) := by
  induction as with
  | nil => intro i; rfl
  | cons v vs ih =>
    intro i
    show (i, hv_v G v) :: lv_args (if (hv_v G v).category = 2 then i + 2 else i + 1) (vs.map (hv_v G)) = (i, hv_v G v) :: hv_l G (lv_args (if v.category = 2 then i + 2 else i + 1) vs)
    rw [hv_cat, ih]
def hv_words (as : List Value) : Nat := (as.map fun v => v.category).sum
theorem hv_sl_len (G : hv_G) (as : List Value) : (lg_sl (as.map (hv_v G))).length = hv_words as := by
  induction as with
  | nil => rfl
  | cons v vs ih =>
    have hc : v.category = 1 ∨ v.category = 2 := lv_cat v
    have e : lg_sl ((v :: vs).map (hv_v G)) = (if (hv_v G v).category = 2 then [.val (hv_v G v), .second] else [.val (hv_v G v)]) ++ lg_sl (vs.map (hv_v G)) := by simp [lg_sl]
    rw [e, List.length_append, ih, hv_cat]
    unfold hv_words
    rcases hc with h | h <;> simp [h]
theorem hv_ofW {l : Launch} {y : MethodName} {ws ws' : List Cond} {rm : Room} {Pc : Array Value → State → Prop} {Qc : Array Value → State → Outcome → State → Prop} {mc ms : Nat} {free : Addr → Prop} {cc : ByteArray} {maxL : Nat} {ret : Option FieldType}
    (hy : plainFor y = true) (hw : ws = Cond.code y cc maxL ret :: ws')
    (body : ∀ p e s m args below meth c s₁, BodyLoose p l y (headSpec ws rm) cc maxL ret e s m args below meth c s₁ → c.maxLocals = maxL → Pc args s →
      W p l e (headSpec ws rm).room s m args below meth c s.heap [] 0 0 (MQ below Qc args s mc ms free) (entryFrame m args maxL)) : Met l y ws rm Pc Qc mc ms free := by
  refine MetFree.of_bodySF (code := cc) (maxLocals := maxL) (ret := ret) hy ?_ ?_
  · intro args s m h hn
    obtain ⟨meth, c, h1, h2, h3, h4, h5, h6, -, -⟩ := Cond.code_spec hn (atoms_spec (ws := ws) h _ (by rw [hw]; exact List.mem_cons_self))
    exact ⟨meth, c, h1, h2, h3, h4, h5, h6⟩
  · intro p e s m args below meth c s₁ B hml hP _
    have hh0 : s₁.heap = s.heap := by rw [B.state]; rfl
    obtain ⟨t, a1, o, b1, b2, b3⟩ := body p e s m args below meth c s₁ B hml hP s₁ hh0 (Stand.of_body B)
    exact ⟨t, o, a1, b1, b2, ⟨b3.1, b3.2⟩⟩
/-- a contract out of the walk of the method's body -/
theorem hv_C.of {G : hv_G} {gw : List Cond} {l : Launch} {y : MethodName} {bytes : ByteArray} {maxL : Nat} {ret : Option FieldType} {fr lo : Nat} {n : Nat} {hp : hv_H} {as : List Value} {r : Option Value} {n' : Nat} {hp' : hv_H} {mc ms : Nat} (hy : plainFor y = true) (hal : hv_words as ≤ maxL)
    (k : ∀ (p : Program) (e : Env) (s : State) (m : MethodId) (args : Array Value) (below : List Frame) (meth : Method) (c : Code), hv_X G p s m args c (.code y bytes maxL ret :: gw) y.cls bytes maxL → meth.sig.returnType = ret → meth.locks = false → meth.name = y.name →
      hv_W G p l e { frames := fr, cells := mc, slots := ms, locals := lo } s m args below meth c maxL (MQ below (hv_Qc G n' hp' r) args s mc ms (fun q => G.1.1 ≤ q)) n hp 0 0 0 (lv_args 0 as) []) : hv_C G gw l y bytes maxL ret fr lo n hp as r n' hp' mc ms := by
  refine hv_ofW (cc := bytes) (maxL := maxL) (ret := ret) hy rfl ?_
  intro p e s m args below meth c s₁ B hml hv
  obtain ⟨rfl, h1, h2, h3, hk, h4⟩ := hv
  have hts := atoms_spec (ws := .code y bytes maxL ret :: gw) B.pre
  have hown : s.vm.findClass y.cls = some m.cls := findClass_of_methodNamed B.named
  have hX : hv_X G p s m (as.map (hv_v G)).toArray c (.code y bytes maxL ret :: gw) y.cls bytes maxL := ⟨B.exec, B.bytes, hml, hown, hts, h2, by rw [h1.1]; omega, h3, hk, h4⟩
  have hl := lv_entry (as.map (hv_v G)) (n := maxL) (by rw [hv_sl_len]; exact hal)
  rw [lg_entry_eq]
  rw [hv_args_map] at hl
  exact k p e s m _ below meth c hX B.returns B.notSynchronized (name_of_methodNamed B.named B.method).1 s.heap [] _ h1 (fun q _ => rfl) (fun q hq => absurd hq List.not_mem_nil) hl
/-! new int[N][K]: the outer array and N rows behind it -/
def hv_mH (hp : hv_H) (n N K : Nat) : hv_H := fun j => if j = n then some (.inl (5, N, fun i => if i < N then .ref (n + 1 + i + 1) else .null)) else if n < j ∧ j < n + 1 + N then some (.inl (1, K, fun _ => .int 0)) else hp j
theorem hv_outer (G : hv_G) (c : ClassId) (N n : Nat) : ∀ i : Nat, Jvm.Free.Multi.outerC c N (G.1.1 + n) i = arrV c N (fun j => hv_v G (if j < i then .ref (n + 1 + j + 1) else .null))
  | 0 => by
    show ({ cls := c, slots := Array.replicate N .null, vm := .none } : Cell) = _
    rw [arrV_new]
    refine congrArg (arrV c N) (funext fun j => ?_)
    simp [hv_v]
  | i + 1 => by
    show (Jvm.Free.Multi.outerC c N (G.1.1 + n) i).setSlot i (.ref (G.1.1 + n + 1 + i)) = _
    rw [hv_outer G c N n i, arrV_store]
    refine congrArg (arrV c N) (funext fun j => ?_)
    by_cases e : j = i
    · subst e
      simp only [updV, if_true, Nat.lt_succ_self]
      show Value.ref _ = Value.ref _
      congr 1
      show _ = G.1.1 + (n + 1 + j)
      omega
    · by_cases h : j < i
      · simp [updV, e, h, Nat.lt_succ_of_lt h]
      · simp [updV, e, h, show ¬ j < i + 1 by omega]
section HWM
variable {G : hv_G} {p : Program} {l : Launch} {e : Env} {R : Room} {s : State} {m : MethodId} {args : Array Value} {below : List Frame} {meth : Method} {c : Code} {nL : Nat} {Q : State → Prop} {n : Nat} {hp : hv_H} {cells slots pc : Nat} {lv : List (Nat × Value)} {st : List Value} {Ts : List Cond} {own : String} {cc : ByteArray}
theorem hw_mna (X : hv_X G p s m args c Ts own cc nL) {ix N K : Nat} {a b : Int32} (hd : decode cc pc = .ok (.multianewarray ix 2, 4)) (hw1 : Cond.classLink own ix ("[" ++ (FieldType.array .int).toString) ∈ Ts) (hw2 : Cond.arrayOver (.array .int) ∈ Ts) (hw3 : Cond.arrayClass .int ∈ Ts) (ha : ¬ a < 0) (hb' : ¬ b < 0) (hN : a.toNatClampNeg = N) (hK' : b.toNatClampNeg = K) (g1 : N * 4 ≤ 536870912) (g2 : K * 4 ≤ 536870912) (hc : cells + (1 + N) ≤ R.cells) (hs : slots + (N + N * K) ≤ R.slots)
    (k : hv_W G p l e R s m args below meth c nL Q (n + 1 + N) (hv_mH hp n N K) (cells + 1 + N) (slots + N + N * K) (pc + 4) lv (.ref (n + 1) :: st)) : hv_W G p l e R s m args below meth c nL Q n hp cells slots pc lv (.int b :: .int a :: st) := by
  intro H locs ls h1 h2 h3 h4
  subst hN
  subst hK'
  obtain ⟨hx, hb, hml, hown, hts, hK, hB, hbB, hxK, hX⟩ := X
  intro T hT Xs
  obtain ⟨vm₁, cA, comp, -, fA, fC, hO, -, X', step⟩ := Xs.multianewarray2F hx hown (hts _ hw1) (hts _ hw2) (hts _ hw3) (g := F0 m pc ls (.int b :: .int a :: st.map (hv_v G))) rfl (by rw [hb]; exact hd) rfl ha hb' g1 g2 (by omega) rfl rfl hc hs
  have hcI : comp = G.2.2.2 1 := by
    have hR : s.vm.findClass ("[" ++ (FieldType.int).toString) = some (G.2.2.2 1) := (hK.2 1 _ (hv_tys_at rfl)).2
    exact Option.some.inj (fC.symm.trans hR)
  have hcA : cA = G.2.2.2 5 := by
    have hR : s.vm.findClass ("[" ++ (FieldType.array .int).toString) = some (G.2.2.2 5) := (hK.2 5 _ (hv_tys_at rfl)).2
    exact Option.some.inj (fA.symm.trans hR)
  subst hcI
  subst hcA
  generalize hF : Jvm.Free.Multi.fill (T.setVm vm₁) (G.2.2.2 5) (G.2.2.2 1) a.toNatClampNeg b.toNatClampNeg (defaultValue .int) a.toNatClampNeg = F at X' step
  have hTh : (T.setVm vm₁).heap = H := hT
  obtain ⟨f1, f2, -, -⟩ := Jvm.Free.Multi.fill_facts (T.setVm vm₁) (G.2.2.2 5) (G.2.2.2 1) a.toNatClampNeg b.toNatClampNeg (defaultValue .int) a.toNatClampNeg
  rw [hF, hTh] at f1 f2
  have hold : ∀ x : Nat, x < H.size → F.heap[x]? = H[x]? := fun x hx => by
    have := Jvm.Free.Multi.fill_old (T.setVm vm₁) (G.2.2.2 5) (G.2.2.2 1) a.toNatClampNeg b.toNatClampNeg (defaultValue .int) (a := x) (by rw [hTh]; exact hx) a.toNatClampNeg
    rw [hF, hTh] at this
    exact this
  have hrow : ∀ j : Nat, j < a.toNatClampNeg → F.heap[H.size + 1 + j]? = some (arrV (G.2.2.2 1) b.toNatClampNeg (fun _ => .int 0)) := fun j hj => by
    have := Jvm.Free.Multi.fill_inner (T.setVm vm₁) (G.2.2.2 5) (G.2.2.2 1) a.toNatClampNeg b.toNatClampNeg (defaultValue .int) a.toNatClampNeg j hj
    rw [hF, hTh] at this
    rw [this]
    exact congrArg some (arrV_new _ _ _)
  have hsz : H.size = G.1.1 + n := h1.1
  rw [hsz, hv_outer] at f2
  have hP : hv_P G (n + 1 + a.toNatClampNeg) (hv_mH hp n a.toNatClampNeg b.toNatClampNeg) F.heap := by
    refine ⟨by rw [f1, hsz]; omega, fun i x hi => ?_⟩
    unfold hv_mH at hi
    by_cases e1 : i = n
    · subst e1
      rw [if_pos rfl] at hi
      cases hi
      exact f2
    · rw [if_neg e1] at hi
      by_cases e2 : n < i ∧ i < n + 1 + a.toNatClampNeg
      · rw [if_pos e2] at hi
        cases hi
        have := hrow (i - n - 1) (by omega)
        rw [show H.size + 1 + (i - n - 1) = G.1.1 + i by rw [hsz]; omega] at this
        exact this
      · rw [if_neg e2] at hi
        exact (h1.2 i x hi).kept (hold _ (h1.2 i x hi).lt)
  have hk := k F.heap locs ls hP (hv_low' h2 (by rw [hsz]; omega) hold) h3 h4
  obtain ⟨t, a1, b1⟩ := hk F rfl X'
  refine ⟨t, step t ?_, b1⟩
  have hTz : T.heap.size = G.1.1 + n := by rw [hT]; exact hsz
  rw [hTz]
  exact a1
end HWM
/-! THE MACHINE OF THE WORLD, as a function that the kernel can compute: cells as lists, thirty-two to a row -/
abbrev hc_C : Type := (Nat × List Value) ⊕ (Nat × List Value)
abbrev hc_H : Type := List (List (Option hc_C))
abbrev hc_I : Type := Instr × Nat × Nat × Nat
abbrev hc_K : Type := List (List (Option hc_I))
abbrev hc_M : Type := MethodName × ByteArray × Nat × Option FieldType × Nat × Nat × hc_K
abbrev hc_S : Type := Nat × List Value × List Value × Nat × hc_H × Nat × Nat
abbrev hc_R : Type := Option Value × Nat × hc_H × Nat × Nat
noncomputable def hc_nth {α : Type} (l : List α) : Nat → Option α := List.rec (motive := fun _ => Nat → Option α) (fun _ => none) (fun a _ ih n => Nat.rec (motive := fun _ => Option α) (some a) (fun m _ => ih m) n) l
noncomputable def hc_set {α : Type} (l : List α) : Nat → α → List α := List.rec (motive := fun _ => Nat → α → List α) (fun _ _ => []) (fun a t ih n x => Nat.rec (motive := fun _ => List α) (x :: t) (fun m _ => a :: ih m x) n) l
noncomputable def hc_get {α : Type} (t : List (List (Option α))) (i : Nat) : Option α := match hc_nth t (i / 32) with
  | none => none
  | some ch => match hc_nth ch (i % 32) with
    | none => none
    | some x => x
noncomputable def hc_put (t : hc_H) (i : Nat) (e : hc_C) : Option hc_H := match hc_nth t (i / 32) with
  | none => none
  | some ch => match hc_nth ch (i % 32) with
    | none => none
    | some _ => some (hc_set t (i / 32) (hc_set ch (i % 32) (some e)))
theorem hc_nth_eq {α : Type} : ∀ (l : List α) (n : Nat), hc_nth l n = l[n]?
  | [], n => by simp [hc_nth]
  | a :: l, 0 => rfl
  | a :: l, n + 1 => by
    show hc_nth l n = _
    rw [hc_nth_eq l n]
    simp
theorem hc_set_eq {α : Type} : ∀ (l : List α) (n : Nat) (x : α), hc_set l n x = l.set n x
  | [], n, x => by simp [hc_set]
  | a :: l, 0, x => rfl
  | a :: l, n + 1, x => by
    show a :: hc_set l n x = _
    rw [hc_set_eq l n x]
    rfl
theorem hc_get_put {t t' : hc_H} {i : Nat} {e : hc_C} (h : hc_put t i e = some t') (j : Nat) : hc_get t' j = if j = i then some e else hc_get t j := by
  unfold hc_put at h
  split at h
  · cases h
  next ch h1 =>
    split at h
    · cases h
    next x h2 =>
      cases h
      rw [hc_nth_eq] at h1 h2
      have l1 : i / 32 < t.length := (List.getElem?_eq_some_iff.mp h1).1
      have l2 : i % 32 < ch.length := (List.getElem?_eq_some_iff.mp h2).1
      unfold hc_get
      rw [hc_nth_eq, hc_set_eq, hc_set_eq, List.getElem?_set]
      by_cases e1 : i / 32 = j / 32
      · rw [if_pos e1, if_pos (by omega)]
        simp only [hc_nth_eq]
        rw [List.getElem?_set]
        by_cases e2 : i % 32 = j % 32
        · have : j = i := by omega
          subst this
          simp [l2]
        · have : ¬ j = i := fun q => e2 (by rw [q])
          rw [if_neg e2, if_neg this]
          rw [← e1, h1]
      · have : ¬ j = i := fun q => e1 (by rw [q])
        rw [if_neg e1, if_neg this]
        simp only [hc_nth_eq]
def hc_toE (c : hc_C) : hv_E := match c with
  | .inl a => .inl (a.1, a.2.length, fun j => a.2.getD j .null)
  | .inr o => .inr (o.1, fun j => o.2.getD j .null)
noncomputable def hc_f (h : hc_H) : hv_H := fun i => (hc_get h i).map hc_toE
theorem hc_f_put {t t' : hc_H} {i : Nat} {e : hc_C} (h : hc_put t i e = some t') : hc_f t' = hv_up (hc_f t) i (hc_toE e) := by
  funext j
  unfold hc_f hv_up
  rw [hc_get_put h j]
  by_cases hj : j = i <;> simp [hj]
noncomputable def hc_pop (na : Nat) : List Value → List Value → Option (List Value × List Value) := Nat.rec (motive := fun _ => List Value → List Value → Option (List Value × List Value)) (fun st acc => some (acc, st)) (fun _ ih st acc => match st with
  | [] => none
  | v :: st => ih st (v :: acc)) na
theorem hc_pop_eq : ∀ (na : Nat) (st acc as rest : List Value), hc_pop na st acc = some (as, rest) → ∃ bs : List Value, as = bs ++ acc ∧ bs.length = na ∧ st = bs.reverse ++ rest
  | 0, st, acc, as, rest, h => by
    cases h
    exact ⟨[], rfl, rfl, rfl⟩
  | na + 1, [], acc, as, rest, h => by cases h
  | na + 1, v :: st, acc, as, rest, h => by
    have h' : hc_pop na st (v :: acc) = some (as, rest) := h
    obtain ⟨bs, h1, h2, h3⟩ := hc_pop_eq na st (v :: acc) as rest h'
    exact ⟨bs ++ [v], by simp [h1], by simp [h2], by simp [h3]⟩
noncomputable def hc_cat (st : List Value) : Nat := List.rec (motive := fun _ => Nat) 0 (fun v _ ih => (match v with
  | .long _ => 2
  | .double _ => 2
  | _ => 1) + ih) st
theorem hc_cat_eq : ∀ st : List Value, hc_cat st = (st.map fun v => v.category).sum
  | [] => rfl
  | v :: st => by
    show _ + hc_cat st = _
    rw [hc_cat_eq st]
    cases v <;> simp [Value.category]
/-- the locals: a list; .retAddr stands for none, .double for a long's second half -/
noncomputable def hc_ent (as : List Value) : Nat → List Value := List.rec (motive := fun _ => Nat → List Value) (fun n => List.replicate n (.retAddr 0)) (fun v _ ih n => match v with
  | .long x => .long x :: .double 0 :: ih (n - 2)
  | .double x => .double x :: .double 0 :: ih (n - 2)
  | v => v :: ih (n - 1)) as
def hc_isV (v : Value) : Bool := match v with
  | .retAddr _ => false
  | .double _ => false
  | _ => true
def hc_lv (l : List Value) : List (Nat × Value) := (List.range l.length).filterMap (fun i => match l[i]? with
  | some v => if hc_isV v then some (i, v) else none
  | none => none)
theorem hc_lv_mem {l : List Value} {i : Nat} {v : Value} : (i, v) ∈ hc_lv l ↔ l[i]? = some v ∧ hc_isV v = true := by
  unfold hc_lv
  rw [List.mem_filterMap]
  constructor
  · rintro ⟨j, -, h⟩
    split at h
    next w hw =>
      split at h
      next hv => cases h; exact ⟨hw, hv⟩
      · cases h
    · cases h
  · rintro ⟨h1, h2⟩
    refine ⟨i, List.mem_range.mpr (List.getElem?_eq_some_iff.mp h1).1, ?_⟩
    rw [h1]
    simp [h2]
def hc_two (v : Option Value) : Bool := match v with
  | some (.long _) => true
  | _ => false
def hc_two2 (v : Value) : Bool := match v with
  | .long _ => true
  | .double _ => true
  | _ => false
/-- a store of one word, of two words -/
noncomputable def hc_s1 (l : List Value) (i : Nat) (v : Value) : Option (List Value) := match hc_nth l i with
  | none => none
  | some _ => Nat.rec (motive := fun _ => Option (List Value)) (some (hc_set l i v)) (fun m _ => match hc_two (hc_nth l m) with
    | true => none
    | false => some (hc_set l i v)) i
noncomputable def hc_s2 (l : List Value) (i : Nat) (v : Value) : Option (List Value) := match hc_nth l (i + 1) with
  | none => none
  | some _ => Nat.rec (motive := fun _ => Option (List Value)) (some (hc_set (hc_set l i v) (i + 1) (.double 0))) (fun m _ => match hc_two (hc_nth l m) with
    | true => none
    | false => some (hc_set (hc_set l i v) (i + 1) (.double 0))) i
theorem hc_s1_ok {l l' : List Value} {i : Nat} {v : Value} (h : hc_s1 l i v = some l') : i < l.length ∧ l' = l.set i v ∧ ∀ (j : Nat) (w : Value), l[j]? = some w → hc_isV w = true → ¬ (j + 1 = i ∧ w.category = 2) := by
  unfold hc_s1 at h
  split at h
  · cases h
  next x hx =>
    rw [hc_nth_eq] at hx
    refine ⟨(List.getElem?_eq_some_iff.mp hx).1, ?_⟩
    cases i with
    | zero =>
      cases h
      exact ⟨hc_set_eq _ _ _, fun j w _ _ q => by omega⟩
    | succ m =>
      dsimp only at h
      split at h
      · cases h
      next ht =>
        cases h
        refine ⟨hc_set_eq _ _ _, fun j w hw hv q => ?_⟩
        have e : j = m := by omega
        subst e
        rw [hc_nth_eq, hw] at ht
        cases w <;> simp_all [hc_two, Value.category, hc_isV]
theorem hc_s2_ok {l l' : List Value} {i : Nat} {v : Value} (h : hc_s2 l i v = some l') : i + 1 < l.length ∧ l' = (l.set i v).set (i + 1) (.double 0) ∧ ∀ (j : Nat) (w : Value), l[j]? = some w → hc_isV w = true → ¬ (j + 1 = i ∧ w.category = 2) := by
  unfold hc_s2 at h
  split at h
  · cases h
  next x hx =>
    rw [hc_nth_eq] at hx
    refine ⟨(List.getElem?_eq_some_iff.mp hx).1, ?_⟩
    cases i with
    | zero =>
      cases h
      exact ⟨by rw [hc_set_eq, hc_set_eq], fun j w _ _ q => by omega⟩
    | succ m =>
      dsimp only at h
      split at h
      · cases h
      next ht =>
        cases h
        refine ⟨by rw [hc_set_eq, hc_set_eq], fun j w hw hv q => ?_⟩
        have e : j = m := by omega
        subst e
        rw [hc_nth_eq, hw] at ht
        cases w <;> simp_all [hc_two, Value.category, hc_isV]
theorem hc_lv_s1 {l l' : List Value} {i : Nat} {v : Value} (h : hc_s1 l i v = some l') : ∀ q ∈ hc_lv l', q ∈ hv_s1 i v (hc_lv l) := by
  obtain ⟨h1, h2, h3⟩ := hc_s1_ok h
  subst h2
  rintro ⟨j, w⟩ hq
  obtain ⟨g1, g2⟩ := hc_lv_mem.mp hq
  rw [List.getElem?_set] at g1
  unfold hv_s1
  by_cases e : i = j
  · subst e
    rw [if_pos rfl, if_pos h1] at g1
    cases g1
    exact List.mem_cons_self
  · rw [if_neg e] at g1
    refine List.mem_cons_of_mem _ (List.mem_filter.mpr ⟨hc_lv_mem.mpr ⟨g1, g2⟩, ?_⟩)
    have hn := h3 j w g1 g2
    have e' : ¬ j = i := fun q => e q.symm
    by_cases e2 : j + 1 = i
    · have : ¬ w.category = 2 := fun q => hn ⟨e2, q⟩
      simp [e', this]
    · simp [e', e2]
theorem hc_lv_s2 {l l' : List Value} {i : Nat} {v : Value} (h : hc_s2 l i v = some l') : ∀ q ∈ hc_lv l', q ∈ hv_s2 i v (hc_lv l) := by
  obtain ⟨h1, h2, h3⟩ := hc_s2_ok h
  subst h2
  rintro ⟨j, w⟩ hq
  obtain ⟨g1, g2⟩ := hc_lv_mem.mp hq
  rw [List.getElem?_set] at g1
  unfold hv_s2
  by_cases e0 : i + 1 = j
  · rw [if_pos e0, if_pos (by rw [List.length_set]; omega)] at g1
    cases g1
    cases g2
  · rw [if_neg e0, List.getElem?_set] at g1
    by_cases e : i = j
    · subst e
      rw [if_pos rfl, if_pos (by omega)] at g1
      cases g1
      exact List.mem_cons_self
    · rw [if_neg e] at g1
      refine List.mem_cons_of_mem _ (List.mem_filter.mpr ⟨hc_lv_mem.mpr ⟨g1, g2⟩, ?_⟩)
      have hn := h3 j w g1 g2
      have e' : ¬ j = i := fun q => e q.symm
      have e0' : ¬ j = i + 1 := fun q => e0 q.symm
      by_cases e2 : j + 1 = i
      · have : ¬ w.category = 2 := fun q => hn ⟨e2, q⟩
        simp [e', e0', this]
      · simp [e', e0', e2]
theorem hc_ent_at : ∀ (as : List Value) (n i : Nat) (v : Value), hv_words as ≤ n → (hc_ent as n)[i]? = some v → hc_isV v = true → ∀ b : Nat, (b + i, v) ∈ lv_args b as
  | [], n, i, v, _, h, hv, b => by
    have h' : (List.replicate n (Value.retAddr 0))[i]? = some v := h
    rw [List.getElem?_replicate] at h'
    split at h'
    · cases h'; cases hv
    · cases h'
  | a :: as, n, i, v, hw, h, hv, b => by
    have hwa : hv_words (a :: as) = a.category + hv_words as := by simp [hv_words]
    by_cases hc : a.category = 2
    · cases a with
      | long x =>
        have h' : (Value.long x :: .double 0 :: hc_ent as (n - 2))[i]? = some v := h
        match i, h' with
        | 0, h' => cases h'; exact List.mem_cons_self
        | 1, h' => cases h'; cases hv
        | i + 2, h' =>
          have := hc_ent_at as (n - 2) i v (by rw [hwa, hc] at hw; omega) h' hv (b + 2)
          rw [show b + 2 + i = b + (i + 2) by omega] at this
          exact List.mem_cons_of_mem _ this
      | double x =>
        have h' : (Value.double x :: .double 0 :: hc_ent as (n - 2))[i]? = some v := h
        match i, h' with
        | 0, h' => cases h'; cases hv
        | 1, h' => cases h'; cases hv
        | i + 2, h' =>
          have := hc_ent_at as (n - 2) i v (by rw [hwa, hc] at hw; omega) h' hv (b + 2)
          rw [show b + 2 + i = b + (i + 2) by omega] at this
          exact List.mem_cons_of_mem _ this
      | int x => cases hc
      | float x => cases hc
      | null => cases hc
      | ref x => cases hc
      | retAddr x => cases hc
    · have hc1 : a.category = 1 := (lv_cat a).resolve_right hc
      have h' : (a :: hc_ent as (n - 1))[i]? = some v := by
        cases a <;> first | exact h | exact absurd rfl hc
      match i, h' with
      | 0, h' => cases h'; exact List.mem_cons_self
      | i + 1, h' =>
        have := hc_ent_at as (n - 1) i v (by rw [hwa, hc1] at hw; omega) h' hv (b + 1)
        rw [show b + 1 + i = b + (i + 1) by omega] at this
        show _ ∈ (b, a) :: lv_args (if a.category = 2 then b + 2 else b + 1) as
        rw [if_neg hc]
        exact List.mem_cons_of_mem _ this
/-- one instruction -/
def hc_nx (pc : Nat) (l st : List Value) (n : Nat) (h : hc_H) (c s : Nat) : Option (hc_S ⊕ Option Value) := some (.inl (pc, l, st, n, h, c, s))
noncomputable def hc_ld (l : List Value) (i : Nat) (k : Value → Option (hc_S ⊕ Option Value)) : Option (hc_S ⊕ Option Value) := match hc_nth l i with
  | none => none
  | some v => k v
noncomputable def hc_cmp (op : Jvm.ClassFile.Cond) (x y : Int32) : Bool := match op with
  | .eq => decide (x = y)
  | .ne => !decide (x = y)
  | .lt => decide (x < y)
  | .ge => decide (y ≤ x)
  | .gt => decide (y < x)
  | .le => decide (x ≤ y)
def hc_arr (t : Nat) (e : Option hc_C) : Option (List Value) := match e with
  | some (.inl a) => match Nat.beq a.1 t with
    | true => some a.2
    | false => none
  | _ => none
def hc_obj (t : Nat) (e : Option hc_C) : Option (List Value) := match e with
  | some (.inr a) => match Nat.beq a.1 t with
    | true => some a.2
    | false => none
  | _ => none
def hc_isI (v : Value) : Bool := match v with
  | .int _ => true
  | .float _ => true
  | _ => false
def hc_fit (ty : FieldType) (v : Value) : Bool := match ty with
  | .int => hc_isI v
  | .boolean => match v with
    | .int x => decide (x = 0) || decide (x = 1)
    | _ => false
  | .object _ => match v with
    | .ref _ => true
    | .null => true
    | _ => false
  | .array _ => match v with
    | .ref _ => true
    | .null => true
    | _ => false
  | _ => false
def hc_rtv (ret : Option FieldType) (v : Value) : Bool := match ret with
  | some .int => hc_isI v
  | some .boolean => match v with
    | .int x => decide (x = 0) || decide (x = 1)
    | _ => false
  | _ => false
/-- the element at j -/
noncomputable def hc_el (l : List Value) (j : Int32) : Option Value := match decide (j < 0) with
  | true => none
  | false => hc_nth l j.toNatClampNeg
noncomputable def hc_ald (t : Nat) (pc : Nat) (l st : List Value) (n : Nat) (h : hc_H) (c s : Nat) : Option (hc_S ⊕ Option Value) := match st with
  | .int j :: .ref (i + 1) :: st => match hc_arr t (hc_get h i) with
    | none => none
    | some a => match hc_el a j with
      | none => none
      | some v => hc_nx (pc + 1) l (v :: st) n h c s
  | _ => none
noncomputable def hc_ast (t i : Nat) (j : Int32) (v : Value) (pc : Nat) (l st : List Value) (n : Nat) (h : hc_H) (c s : Nat) : Option (hc_S ⊕ Option Value) := match hc_arr t (hc_get h i) with
  | none => none
  | some a => match hc_el a j with
    | none => none
    | some _ => match hc_put h i (.inl (t, hc_set a j.toNatClampNeg v)) with
      | none => none
      | some h' => hc_nx (pc + 1) l st n h' c s
def hc_app (r : Option Value) (st : List Value) : List Value := match r with
  | none => st
  | some v => v :: st
def hc_tyX (ci kf : Nat) : FieldType := match ci with
  | 0 => tyX0 kf
  | 1 => tyX1 kf
  | 2 => tyX2 kf
  | 3 => tyX3 kf
  | 4 => tyX4 kf
  | 5 => tyX5 kf
  | 6 => tyX6 kf
  | 7 => tyX7 kf
  | 8 => tyX8 kf
  | 9 => tyX9 kf
  | _ => tyX10 kf
def hc_nf (ci : Nat) : Nat := match ci with
  | 0 => 6
  | 1 => 6
  | 2 => 11
  | 3 => 3
  | 4 => 9
  | 5 => 8
  | 6 => 4
  | 7 => 3
  | 8 => 2
  | 9 => 17
  | _ => 64
noncomputable def hc_rows (t : hc_H) (n : Nat) (K : Nat) (N : Nat) : Option hc_H := Nat.rec (motive := fun _ => Option hc_H) (some t) (fun i ih => match ih with
  | none => none
  | some t => hc_put t (n + i) (.inl (1, List.replicate K (.int 0)))) N
section HCS
variable (pg : List (List (Option hc_M))) (call : Nat → hc_M → List Value → Nat → hc_H → Option hc_R)
noncomputable def hc_inv0 (k : Nat) (pc : Nat) (l st : List Value) (n : Nat) (h : hc_H) (c s : Nat) : Option (hc_S ⊕ Option Value) := match hc_get pg k with
  | none => none
  | some e => match hc_pop e.2.2.2.2.2.1 st [] with
    | none => none
    | some (as, rest) => match rest with
      | .ref (i + 1) :: rest => match hc_obj e.2.2.2.2.1 (hc_get h i) with
        | none => none
        | some _ => match Nat.ble (hc_cat rest) 8 with
          | false => none
          | true => match call k e (.ref (i + 1) :: as) n h with
            | none => none
            | some (r, n', h', mc, ms) => hc_nx (pc + 3) l (hc_app r rest) n' h' (c + mc) (s + ms)
      | _ => none
noncomputable def hc_inv1 (k : Nat) (pc : Nat) (l st : List Value) (n : Nat) (h : hc_H) (c s : Nat) : Option (hc_S ⊕ Option Value) := match hc_get pg k with
  | none => none
  | some e => match hc_pop e.2.2.2.2.2.1 st [] with
    | none => none
    | some (as, rest) => match rest with
      | .ref a :: rest => match Nat.ble (hc_cat rest) 8 with
        | false => none
        | true => match call k e (.ref a :: as) n h with
          | none => none
          | some (r, n', h', mc, ms) => hc_nx (pc + 3) l (hc_app r rest) n' h' (c + mc) (s + ms)
      | _ => none
noncomputable def hc_inv2 (k : Nat) (pc : Nat) (l st : List Value) (n : Nat) (h : hc_H) (c s : Nat) : Option (hc_S ⊕ Option Value) := match hc_get pg k with
  | none => none
  | some e => match hc_pop e.2.2.2.2.2.1 st [] with
    | none => none
    | some (as, rest) => match Nat.ble (hc_cat rest) 8 with
      | false => none
      | true => match call k e as n h with
        | none => none
        | some (r, n', h', mc, ms) => hc_nx (pc + 3) l (hc_app r rest) n' h' (c + mc) (s + ms)
end HCS
noncomputable def hi_iconst (r1 : Nat) (pc : Nat) (l st : List Value) (n : Nat) (h : hc_H) (c s : Nat) : Option (hc_S ⊕ Option Value) := hc_nx (pc + 1) l (.int (Int32.ofNat r1) :: st) n h c s
noncomputable def hi_bipush (r1 : Nat) (pc : Nat) (l st : List Value) (n : Nat) (h : hc_H) (c s : Nat) : Option (hc_S ⊕ Option Value) := hc_nx (pc + 2) l (.int (Int32.ofNat r1) :: st) n h c s
noncomputable def hi_sipush (r1 : Nat) (pc : Nat) (l st : List Value) (n : Nat) (h : hc_H) (c s : Nat) : Option (hc_S ⊕ Option Value) := hc_nx (pc + 3) l (.int (Int32.ofNat r1) :: st) n h c s
noncomputable def hc_ixf (x : Int32) (l : List Nat) : Nat → Int32 := List.rec (motive := fun _ => Nat → Int32) (fun _ => -1) (fun b _ ih k => match decide (Int32.ofNat b = x) with
  | true => Int32.ofNat k
  | false => ih (k + 1)) l
noncomputable def hi_str (r1 : Nat) (pc : Nat) (l st : List Value) (n : Nat) (h : hc_H) (c s : Nat) : Option (hc_S ⊕ Option Value) := match r1 with
  | 0 => match st with
    | .retAddr k :: st => match Nat.ble (hc_cat st) 8 with
      | true => hc_nx (pc + 3) l (.int (Int32.ofNat (hc_txt k).length) :: st) n h c s
      | false => none
    | _ => none
  | 1 => match st with
    | .int i :: .retAddr k :: st => match decide (i < 0) || !Nat.ble (hc_cat st) 8 with
      | true => none
      | false => match hc_nth (hc_txt k) i.toNatClampNeg with
        | some b => hc_nx (pc + 3) l (.int (Int32.ofNat b) :: st) n h c s
        | none => none
    | _ => none
  | _ => match st with
    | .int x :: .retAddr k :: st => match Nat.ble (hc_cat st) 8 with
      | true => hc_nx (pc + 3) l (.int (hc_ixf x (hc_txt k) 0) :: st) n h c s
      | false => none
    | _ => none
noncomputable def hi_ldc (r1 r2 : Nat) (pc : Nat) (l st : List Value) (n : Nat) (h : hc_H) (c s : Nat) : Option (hc_S ⊕ Option Value) := match r2 with
  | 0 => hc_nx (pc + 2) l (.int (Int32.ofNat r1) :: st) n h c s
  | _ => hc_nx (pc + 2) l (.retAddr r1 :: st) n h c s
noncomputable def hi_ldc_w (r1 : Nat) (pc : Nat) (l st : List Value) (n : Nat) (h : hc_H) (c s : Nat) : Option (hc_S ⊕ Option Value) := hc_nx (pc + 3) l (.int (Int32.ofNat r1) :: st) n h c s
noncomputable def hi_lconst (r1 : Nat) (pc : Nat) (l st : List Value) (n : Nat) (h : hc_H) (c s : Nat) : Option (hc_S ⊕ Option Value) := hc_nx (pc + 1) l (.long (Int64.ofNat r1) :: st) n h c s
noncomputable def hi_ldc2_w (r1 : Nat) (pc : Nat) (l st : List Value) (n : Nat) (h : hc_H) (c s : Nat) : Option (hc_S ⊕ Option Value) := hc_nx (pc + 3) l (.long (Int64.ofNat r1) :: st) n h c s
noncomputable def hi_iload_n (r1 : Nat) (pc : Nat) (l st : List Value) (n : Nat) (h : hc_H) (c s : Nat) : Option (hc_S ⊕ Option Value) := match hc_nth l r1 with
    | some (.int x) => hc_nx (pc + 1) l (.int x :: st) n h c s
    | some (.float x) => hc_nx (pc + 1) l (.float x :: st) n h c s
    | _ => none
noncomputable def hi_iload (r1 : Nat) (pc : Nat) (l st : List Value) (n : Nat) (h : hc_H) (c s : Nat) : Option (hc_S ⊕ Option Value) := match hc_nth l r1 with
    | some (.int x) => hc_nx (pc + 2) l (.int x :: st) n h c s
    | some (.float x) => hc_nx (pc + 2) l (.float x :: st) n h c s
    | _ => none
noncomputable def hi_lload_n (r1 : Nat) (pc : Nat) (l st : List Value) (n : Nat) (h : hc_H) (c s : Nat) : Option (hc_S ⊕ Option Value) := match hc_nth l r1 with
    | some (.long x) => hc_nx (pc + 1) l (.long x :: st) n h c s
    | _ => none
noncomputable def hi_lload (r1 : Nat) (pc : Nat) (l st : List Value) (n : Nat) (h : hc_H) (c s : Nat) : Option (hc_S ⊕ Option Value) := match hc_nth l r1 with
    | some (.long x) => hc_nx (pc + 2) l (.long x :: st) n h c s
    | _ => none
noncomputable def hi_aload_n (r1 : Nat) (pc : Nat) (l st : List Value) (n : Nat) (h : hc_H) (c s : Nat) : Option (hc_S ⊕ Option Value) := match hc_nth l r1 with
    | some (.ref x) => hc_nx (pc + 1) l (.ref x :: st) n h c s
    | _ => none
noncomputable def hi_aload (r1 : Nat) (pc : Nat) (l st : List Value) (n : Nat) (h : hc_H) (c s : Nat) : Option (hc_S ⊕ Option Value) := match hc_nth l r1 with
    | some (.ref x) => hc_nx (pc + 2) l (.ref x :: st) n h c s
    | _ => none
noncomputable def hi_istore_n (r1 : Nat) (pc : Nat) (l st : List Value) (n : Nat) (h : hc_H) (c s : Nat) : Option (hc_S ⊕ Option Value) := match st with
    | .int x :: st => match hc_s1 l r1 (.int x) with
      | some l => hc_nx (pc + 1) l st n h c s
      | none => none
    | .float x :: st => match hc_s1 l r1 (.float x) with
      | some l => hc_nx (pc + 1) l st n h c s
      | none => none
    | _ => none
noncomputable def hi_istore (r1 : Nat) (pc : Nat) (l st : List Value) (n : Nat) (h : hc_H) (c s : Nat) : Option (hc_S ⊕ Option Value) := match st with
    | .int x :: st => match hc_s1 l r1 (.int x) with
      | some l => hc_nx (pc + 2) l st n h c s
      | none => none
    | .float x :: st => match hc_s1 l r1 (.float x) with
      | some l => hc_nx (pc + 2) l st n h c s
      | none => none
    | _ => none
noncomputable def hi_lstore_n (r1 : Nat) (pc : Nat) (l st : List Value) (n : Nat) (h : hc_H) (c s : Nat) : Option (hc_S ⊕ Option Value) := match st with
    | .long x :: st => match hc_s2 l r1 (.long x) with
      | some l => hc_nx (pc + 1) l st n h c s
      | none => none
    | _ => none
noncomputable def hi_lstore (r1 : Nat) (pc : Nat) (l st : List Value) (n : Nat) (h : hc_H) (c s : Nat) : Option (hc_S ⊕ Option Value) := match st with
    | .long x :: st => match hc_s2 l r1 (.long x) with
      | some l => hc_nx (pc + 2) l st n h c s
      | none => none
    | _ => none
noncomputable def hi_astore_n (r1 : Nat) (pc : Nat) (l st : List Value) (n : Nat) (h : hc_H) (c s : Nat) : Option (hc_S ⊕ Option Value) := match st with
    | .ref x :: st => match hc_s1 l r1 (.ref x) with
      | some l => hc_nx (pc + 1) l st n h c s
      | none => none
    | _ => none
noncomputable def hi_astore (r1 : Nat) (pc : Nat) (l st : List Value) (n : Nat) (h : hc_H) (c s : Nat) : Option (hc_S ⊕ Option Value) := match st with
    | .ref x :: st => match hc_s1 l r1 (.ref x) with
      | some l => hc_nx (pc + 2) l st n h c s
      | none => none
    | _ => none
noncomputable def hi_iinc (r1 : Nat) (r2 : Nat) (pc : Nat) (l st : List Value) (n : Nat) (h : hc_H) (c s : Nat) : Option (hc_S ⊕ Option Value) := match hc_nth l r1 with
    | some (.int x) => match hc_s1 l r1 (.int (x + Int32.ofNat r2)) with
      | some l => hc_nx (pc + 3) l st n h c s
      | none => none
    | _ => none
noncomputable def hi_iadd (pc : Nat) (l st : List Value) (n : Nat) (h : hc_H) (c s : Nat) : Option (hc_S ⊕ Option Value) := match st with
    | .int y :: .int x :: st => hc_nx (pc + 1) l (.int (x + y) :: st) n h c s
    | _ => none
noncomputable def hi_isub (pc : Nat) (l st : List Value) (n : Nat) (h : hc_H) (c s : Nat) : Option (hc_S ⊕ Option Value) := match st with
    | .int y :: .int x :: st => hc_nx (pc + 1) l (.int (x - y) :: st) n h c s
    | _ => none
noncomputable def hi_imul (pc : Nat) (l st : List Value) (n : Nat) (h : hc_H) (c s : Nat) : Option (hc_S ⊕ Option Value) := match st with
    | .int y :: .int x :: st => hc_nx (pc + 1) l (.int (x * y) :: st) n h c s
    | _ => none
noncomputable def hi_iand (pc : Nat) (l st : List Value) (n : Nat) (h : hc_H) (c s : Nat) : Option (hc_S ⊕ Option Value) := match st with
    | .int y :: .int x :: st => hc_nx (pc + 1) l (.int (x &&& y) :: st) n h c s
    | _ => none
noncomputable def hi_ior (pc : Nat) (l st : List Value) (n : Nat) (h : hc_H) (c s : Nat) : Option (hc_S ⊕ Option Value) := match st with
    | .int y :: .int x :: st => hc_nx (pc + 1) l (.int (x ||| y) :: st) n h c s
    | _ => none
noncomputable def hi_ixor (pc : Nat) (l st : List Value) (n : Nat) (h : hc_H) (c s : Nat) : Option (hc_S ⊕ Option Value) := match st with
    | .int y :: .int x :: st => hc_nx (pc + 1) l (.int (x ^^^ y) :: st) n h c s
    | _ => none
noncomputable def hi_ishl (pc : Nat) (l st : List Value) (n : Nat) (h : hc_H) (c s : Nat) : Option (hc_S ⊕ Option Value) := match st with
    | .int y :: .int x :: st => hc_nx (pc + 1) l (.int (x <<< (y &&& 31)) :: st) n h c s
    | _ => none
noncomputable def hi_ishr (pc : Nat) (l st : List Value) (n : Nat) (h : hc_H) (c s : Nat) : Option (hc_S ⊕ Option Value) := match st with
    | .int y :: .int x :: st => hc_nx (pc + 1) l (.int (x >>> (y &&& 31)) :: st) n h c s
    | .int y :: .float j :: st => match Nat.ble (j.toNat + 1) 100 && (!decide (y < 0) && decide (y < 32)) with
      | true => hc_nx (pc + 1) l (.float (UInt32.ofNat (20000 + 100 * j.toNat + y.toNatClampNeg)) :: st) n h c s
      | false => none
    | _ => none
noncomputable def hi_iushr (pc : Nat) (l st : List Value) (n : Nat) (h : hc_H) (c s : Nat) : Option (hc_S ⊕ Option Value) := match st with
    | .int y :: .int x :: st => hc_nx (pc + 1) l (.int ((x.toUInt32 >>> (y.toUInt32 &&& Int32.toUInt32 31)).toInt32) :: st) n h c s
    | .int y :: .float j :: st => match Nat.ble (j.toNat + 1) 100 && (!decide (y < 0) && decide (y < 32)) with
      | true => hc_nx (pc + 1) l (.float (UInt32.ofNat (10000 + 100 * j.toNat + y.toNatClampNeg)) :: st) n h c s
      | false => none
    | _ => none
noncomputable def hi_ladd (pc : Nat) (l st : List Value) (n : Nat) (h : hc_H) (c s : Nat) : Option (hc_S ⊕ Option Value) := match st with
    | .long y :: .long x :: st => hc_nx (pc + 1) l (.long (x + y) :: st) n h c s
    | _ => none
noncomputable def hi_lsub (pc : Nat) (l st : List Value) (n : Nat) (h : hc_H) (c s : Nat) : Option (hc_S ⊕ Option Value) := match st with
    | .long y :: .long x :: st => hc_nx (pc + 1) l (.long (x - y) :: st) n h c s
    | _ => none
noncomputable def hi_lmul (pc : Nat) (l st : List Value) (n : Nat) (h : hc_H) (c s : Nat) : Option (hc_S ⊕ Option Value) := match st with
    | .long y :: .long x :: st => hc_nx (pc + 1) l (.long (x * y) :: st) n h c s
    | _ => none
noncomputable def hi_lor (pc : Nat) (l st : List Value) (n : Nat) (h : hc_H) (c s : Nat) : Option (hc_S ⊕ Option Value) := match st with
    | .long y :: .long x :: st => hc_nx (pc + 1) l (.long (x ||| y) :: st) n h c s
    | _ => none
noncomputable def hi_idiv (pc : Nat) (l st : List Value) (n : Nat) (h : hc_H) (c s : Nat) : Option (hc_S ⊕ Option Value) := match st with
    | .int y :: .int x :: st => match decide (y = 0) with
      | true => none
      | false => hc_nx (pc + 1) l (.int (x / y) :: st) n h c s
    | _ => none
noncomputable def hi_irem (pc : Nat) (l st : List Value) (n : Nat) (h : hc_H) (c s : Nat) : Option (hc_S ⊕ Option Value) := match st with
    | .int y :: .int x :: st => match decide (y = 0) with
      | true => none
      | false => hc_nx (pc + 1) l (.int (x - x / y * y) :: st) n h c s
    | _ => none
noncomputable def hi_lshl (pc : Nat) (l st : List Value) (n : Nat) (h : hc_H) (c s : Nat) : Option (hc_S ⊕ Option Value) := match st with
    | .int y :: .long x :: st => hc_nx (pc + 1) l (.long (x <<< (y.toInt64 &&& 63)) :: st) n h c s
    | _ => none
noncomputable def hi_lcmp (pc : Nat) (l st : List Value) (n : Nat) (h : hc_H) (c s : Nat) : Option (hc_S ⊕ Option Value) := match st with
    | .long y :: .long x :: st => hc_nx (pc + 1) l (.int (lg_cmp x y) :: st) n h c s
    | _ => none
noncomputable def hi_i2l (pc : Nat) (l st : List Value) (n : Nat) (h : hc_H) (c s : Nat) : Option (hc_S ⊕ Option Value) := match st with
    | .int x :: st => hc_nx (pc + 1) l (.long x.toInt64 :: st) n h c s
    | _ => none
noncomputable def hi_l2i (pc : Nat) (l st : List Value) (n : Nat) (h : hc_H) (c s : Nat) : Option (hc_S ⊕ Option Value) := match st with
    | .long x :: st => hc_nx (pc + 1) l (.int x.toInt32 :: st) n h c s
    | _ => none
noncomputable def hi_i2b (pc : Nat) (l st : List Value) (n : Nat) (h : hc_H) (c s : Nat) : Option (hc_S ⊕ Option Value) := match st with
    | .int x :: st => hc_nx (pc + 1) l (.int x.toInt8.toInt32 :: st) n h c s
    | .float j :: st => match Nat.ble 10000 j.toNat && Nat.ble (j.toNat + 1) 30000 with
      | true => hc_nx (pc + 1) l (.float (UInt32.ofNat (30000 + j.toNat)) :: st) n h c s
      | false => none
    | _ => none
noncomputable def hi_i2c (pc : Nat) (l st : List Value) (n : Nat) (h : hc_H) (c s : Nat) : Option (hc_S ⊕ Option Value) := match st with
    | .int x :: st => hc_nx (pc + 1) l (.int (x.toUInt32 % 65536).toInt32 :: st) n h c s
    | _ => none
noncomputable def hi_dup (pc : Nat) (l st : List Value) (n : Nat) (h : hc_H) (c s : Nat) : Option (hc_S ⊕ Option Value) := match st with
    | v :: st => match hc_two2 v with
      | true => none
      | false => hc_nx (pc + 1) l (v :: v :: st) n h c s
    | _ => none
noncomputable def hi_pop (pc : Nat) (l st : List Value) (n : Nat) (h : hc_H) (c s : Nat) : Option (hc_S ⊕ Option Value) := match st with
    | v :: st => match hc_two2 v with
      | true => none
      | false => hc_nx (pc + 1) l st n h c s
    | _ => none
noncomputable def hi_dup2 (pc : Nat) (l st : List Value) (n : Nat) (h : hc_H) (c s : Nat) : Option (hc_S ⊕ Option Value) := match st with
    | v :: w :: st => match hc_two2 v || hc_two2 w with
      | true => none
      | false => hc_nx (pc + 1) l (v :: w :: v :: w :: st) n h c s
    | _ => none
noncomputable def hi_ifCond (LS : Nat × (Nat → Option Int32)) (op : Jvm.ClassFile.Cond) (r1 : Nat) (pc : Nat) (l st : List Value) (n : Nat) (h : hc_H) (c s : Nat) : Option (hc_S ⊕ Option Value) := match st with
    | .int x :: st => match hc_cmp op x 0 with
      | true => hc_nx r1 l st n h c s
      | false => hc_nx (pc + 3) l st n h c s
    | .float j :: st => match op with
      | .eq => match Nat.ble 1000 j.toNat with
        | true => none
        | false => match LS.2 (j.toNat + 100000) with
          | some _ => hc_nx (pc + 3) l st n h c s
          | none => none
      | _ => none
    | _ => none
noncomputable def hi_if_icmp (op : Jvm.ClassFile.Cond) (r1 : Nat) (pc : Nat) (l st : List Value) (n : Nat) (h : hc_H) (c s : Nat) : Option (hc_S ⊕ Option Value) := match st with
    | .int y :: .int x :: st => match hc_cmp op x y with
      | true => hc_nx r1 l st n h c s
      | false => hc_nx (pc + 3) l st n h c s
    | _ => none
noncomputable def hi_goto (r1 : Nat) (pc : Nat) (l st : List Value) (n : Nat) (h : hc_H) (c s : Nat) : Option (hc_S ⊕ Option Value) := hc_nx r1 l st n h c s
noncomputable def hi_tableswitch (LS : Nat × (Nat → Option Int32)) (dflt lo hi : Int) (offs : Array Int) (pc : Nat) (l st : List Value) (n : Nat) (h : hc_H) (c s : Nat) : Option (hc_S ⊕ Option Value) := match st with
    | .int x :: st => match decide (x.toInt < lo) || decide (hi < x.toInt) with
      | true => match decide (0 ≤ (pc : Int) + dflt) with
        | true => hc_nx ((pc : Int) + dflt).toNat l st n h c s
        | false => none
      | false => match hc_nth offs.toList (x.toInt - lo).toNat with
        | none => none
        | some off => match decide (0 ≤ (pc : Int) + off) with
          | true => hc_nx ((pc : Int) + off).toNat l st n h c s
          | false => none
    | .float j :: st => match LS.2 (j.toNat + 200000) with
      | none => none
      | some x => match decide (0 ≤ lo) && (decide (hi ≤ x.toInt) && decide (0 ≤ (pc : Int) + dflt)) with
        | true => hc_nx ((pc : Int) + dflt).toNat l st n h c s
        | false => none
    | _ => none
noncomputable def hi_getfield (r1 : Nat) (r2 : Nat) (pc : Nat) (l st : List Value) (n : Nat) (h : hc_H) (c s : Nat) : Option (hc_S ⊕ Option Value) := match st with
    | .ref (i + 1) :: st => match hc_obj r1 (hc_get h i) with
      | none => none
      | some fs => match hc_nth fs r2 with
        | none => none
        | some v => hc_nx (pc + 3) l (v :: st) n h c s
    | _ => none
noncomputable def hi_putfield (r1 : Nat) (r2 : Nat) (pc : Nat) (l st : List Value) (n : Nat) (h : hc_H) (c s : Nat) : Option (hc_S ⊕ Option Value) := match st with
    | v :: .ref (i + 1) :: st => match hc_obj r1 (hc_get h i) with
      | none => none
      | some fs => match hc_fit (hc_tyX r1 r2) v with
        | false => none
        | true => match hc_nth fs r2 with
          | none => none
          | some _ => match hc_put h i (.inr (r1, hc_set fs r2 v)) with
            | none => none
            | some h => hc_nx (pc + 3) l st n h c s
    | _ => none
noncomputable def hi_iaload (LS : Nat × (Nat → Option Int32)) (pc : Nat) (l st : List Value) (n : Nat) (h : hc_H) (c s : Nat) : Option (hc_S ⊕ Option Value) := match st with
    | .int j :: .ref 0 :: st => match decide (j < 0) || Nat.ble LS.1 j.toNatClampNeg with
      | true => none
      | false => match LS.2 j.toNatClampNeg with
        | some x => hc_nx (pc + 1) l (.int x :: st) n h c s
        | none => hc_nx (pc + 1) l (.float (UInt32.ofNat j.toNatClampNeg) :: st) n h c s
    | st => hc_ald 1 pc l st n h c s
noncomputable def hi_baload (pc : Nat) (l st : List Value) (n : Nat) (h : hc_H) (c s : Nat) : Option (hc_S ⊕ Option Value) := match hc_ald 0 pc l st n h c s with
    | some r => some r
    | none => hc_ald 3 pc l st n h c s
noncomputable def hi_laload (pc : Nat) (l st : List Value) (n : Nat) (h : hc_H) (c s : Nat) : Option (hc_S ⊕ Option Value) := hc_ald 2 pc l st n h c s
noncomputable def hi_aaload (pc : Nat) (l st : List Value) (n : Nat) (h : hc_H) (c s : Nat) : Option (hc_S ⊕ Option Value) := match hc_ald 4 pc l st n h c s with
    | some r => some r
    | none => hc_ald 5 pc l st n h c s
noncomputable def hi_iastore (pc : Nat) (l st : List Value) (n : Nat) (h : hc_H) (c s : Nat) : Option (hc_S ⊕ Option Value) := match st with
    | .int x :: .int j :: .ref (i + 1) :: st => hc_ast 1 i j (.int x) pc l st n h c s
    | .float x :: .int j :: .ref (i + 1) :: st => hc_ast 1 i j (.float x) pc l st n h c s
    | _ => none
noncomputable def hi_bastore (pc : Nat) (l st : List Value) (n : Nat) (h : hc_H) (c s : Nat) : Option (hc_S ⊕ Option Value) := match st with
    | .int x :: .int j :: .ref (i + 1) :: st => match hc_arr 0 (hc_get h i) with
      | some _ => hc_ast 0 i j (.int x.toInt8.toInt32) pc l st n h c s
      | none => match decide (x = 0) || decide (x = 1) with
        | true => hc_ast 3 i j (.int x) pc l st n h c s
        | false => none
    | .float x :: .int j :: .ref (i + 1) :: st => match Nat.ble 40000 x.toNat && Nat.ble (x.toNat + 1) 60000 with
      | true => hc_ast 0 i j (.float x) pc l st n h c s
      | false => none
    | _ => none
noncomputable def hi_lastore (pc : Nat) (l st : List Value) (n : Nat) (h : hc_H) (c s : Nat) : Option (hc_S ⊕ Option Value) := match st with
    | .long x :: .int j :: .ref (i + 1) :: st => hc_ast 2 i j (.long x) pc l st n h c s
    | _ => none
noncomputable def hi_aastore (pc : Nat) (l st : List Value) (n : Nat) (h : hc_H) (c s : Nat) : Option (hc_S ⊕ Option Value) := match st with
    | .ref (iv + 1) :: .int j :: .ref (i + 1) :: st => match hc_obj 2 (hc_get h iv) with
      | none => none
      | some _ => hc_ast 4 i j (.ref (iv + 1)) pc l st n h c s
    | _ => none
noncomputable def hi_arraylength (LS : Nat × (Nat → Option Int32)) (pc : Nat) (l st : List Value) (n : Nat) (h : hc_H) (c s : Nat) : Option (hc_S ⊕ Option Value) := match st with
    | .ref 0 :: st => match Nat.beq LS.1 0 with
      | true => none
      | false => hc_nx (pc + 1) l (.int (Int32.ofNat LS.1) :: st) n h c s
    | .ref (i + 1) :: st => match hc_get h i with
      | some (.inl a) => match Nat.ble 6 a.1 with
        | true => none
        | false => hc_nx (pc + 1) l (.int (Int32.ofNat a.2.length) :: st) n h c s
      | _ => none
    | _ => none
noncomputable def hi_new (r1 : Nat) (pc : Nat) (l st : List Value) (n : Nat) (h : hc_H) (c s : Nat) : Option (hc_S ⊕ Option Value) := match hc_put h n (.inr (r1, (List.range (hc_nf r1)).map (fun k => defaultValue (hc_tyX r1 k)))) with
    | none => none
    | some h => hc_nx (pc + 3) l (.ref (n + 1) :: st) (n + 1) h (c + 1) (s + hc_nf r1)
def hc_zero (r1 : Nat) : Value := match r1 with
  | 2 => .long 0
  | _ => .int 0
noncomputable def hi_newarray (r1 : Nat) (pc : Nat) (l st : List Value) (n : Nat) (h : hc_H) (c s : Nat) : Option (hc_S ⊕ Option Value) := match st with
    | .int j :: st => match decide (j < 0) || Nat.ble 100000 j.toNatClampNeg with
      | true => none
      | false => match hc_put h n (.inl (r1, List.replicate j.toNatClampNeg (hc_zero r1))) with
        | none => none
        | some h => hc_nx (pc + 2) l (.ref (n + 1) :: st) (n + 1) h (c + 1) (s + j.toNatClampNeg)
    | _ => none
noncomputable def hi_anewarray (pc : Nat) (l st : List Value) (n : Nat) (h : hc_H) (c s : Nat) : Option (hc_S ⊕ Option Value) := match st with
    | .int j :: st => match decide (j < 0) || Nat.ble 100000 j.toNatClampNeg with
      | true => none
      | false => match hc_put h n (.inl (4, List.replicate j.toNatClampNeg .null)) with
        | none => none
        | some h => hc_nx (pc + 3) l (.ref (n + 1) :: st) (n + 1) h (c + 1) (s + j.toNatClampNeg)
    | _ => none
noncomputable def hi_multianewarray (pc : Nat) (l st : List Value) (n : Nat) (h : hc_H) (c s : Nat) : Option (hc_S ⊕ Option Value) := match st with
    | .int b :: .int a :: st => match decide (a < 0) || decide (b < 0) || Nat.ble 100000 a.toNatClampNeg || Nat.ble 100000 b.toNatClampNeg with
      | true => none
      | false => match hc_put h n (.inl (5, (List.range a.toNatClampNeg).map (fun i => .ref (n + 1 + i + 1)))) with
        | none => none
        | some h => match hc_rows h (n + 1) b.toNatClampNeg a.toNatClampNeg with
          | none => none
          | some h => hc_nx (pc + 4) l (.ref (n + 1) :: st) (n + 1 + a.toNatClampNeg) h (c + 1 + a.toNatClampNeg) (s + a.toNatClampNeg + a.toNatClampNeg * b.toNatClampNeg)
    | _ => none
noncomputable def hi_invokevirtual (pg : List (List (Option hc_M))) (call : Nat → hc_M → List Value → Nat → hc_H → Option hc_R) (r1 r2 : Nat) (pc : Nat) (l st : List Value) (n : Nat) (h : hc_H) (c s : Nat) : Option (hc_S ⊕ Option Value) := match r2 with
    | 7 => hi_str r1 pc l st n h c s
    | _ => hc_inv0 pg call r1 pc l st n h c s
noncomputable def hi_invokespecial (pg : List (List (Option hc_M))) (call : Nat → hc_M → List Value → Nat → hc_H → Option hc_R) (r1 : Nat) (r2 : Nat) (pc : Nat) (l st : List Value) (n : Nat) (h : hc_H) (c s : Nat) : Option (hc_S ⊕ Option Value) := match r2 with
    | 9 => match st with
      | .ref _ :: st => match Nat.ble (hc_cat st) 8 with
        | false => none
        | true => hc_nx (pc + 3) l st n h c s
      | _ => none
    | _ => hc_inv1 pg call r1 pc l st n h c s
noncomputable def hi_invokestatic (pg : List (List (Option hc_M))) (call : Nat → hc_M → List Value → Nat → hc_H → Option hc_R) (r1 : Nat) (r2 : Nat) (pc : Nat) (l st : List Value) (n : Nat) (h : hc_H) (c s : Nat) : Option (hc_S ⊕ Option Value) := match r2 with
    | 8 => match st with
      | .int z :: .int dp :: .ref (i1 + 1) :: .int sp :: .ref (i0 + 1) :: st => match hc_arr 1 (hc_get h i0) with
        | none => none
        | some f => match hc_arr 1 (hc_get h i1) with
          | none => none
          | some g => match decide (sp = 0) && (decide (dp = 0) && (!decide (z < 0) && (Nat.beq z.toNatClampNeg f.length && (Nat.beq f.length g.length && (f.all hc_isI && Nat.ble (hc_cat st) 8))))) with
            | false => none
            | true => match hc_put h i1 (.inl (1, f)) with
              | none => none
              | some h => hc_nx (pc + 3) l st n h c s
      | _ => none
    | _ => hc_inv2 pg call r1 pc l st n h c s
noncomputable def hi_return_ (ret : Option FieldType) (pc : Nat) (l st : List Value) (n : Nat) (h : hc_H) (c s : Nat) : Option (hc_S ⊕ Option Value) := match st with
    | [] => match ret with
      | none => some (.inr none)
      | some _ => none
    | _ => none
noncomputable def hi_ireturn (ret : Option FieldType) (pc : Nat) (l st : List Value) (n : Nat) (h : hc_H) (c s : Nat) : Option (hc_S ⊕ Option Value) := match st with
    | [v] => match hc_rtv ret v with
      | true => some (.inr (some v))
      | false => none
    | _ => none
noncomputable def hi_lreturn (ret : Option FieldType) (pc : Nat) (l st : List Value) (n : Nat) (h : hc_H) (c s : Nat) : Option (hc_S ⊕ Option Value) := match st with
    | [.long x] => match ret with
      | some .long => some (.inr (some (.long x)))
      | _ => none
    | _ => none
noncomputable def hi_areturn (ret : Option FieldType) (pc : Nat) (l st : List Value) (n : Nat) (h : hc_H) (c s : Nat) : Option (hc_S ⊕ Option Value) := match st with
    | [.ref a] => match ret with
      | some (.array _) => some (.inr (some (.ref a)))
      | _ => none
    | _ => none
abbrev hc_F : Type := Nat → List Value → List Value → Nat → hc_H → Nat → Nat → Option (hc_S ⊕ Option Value)
noncomputable def hc_comp (LS : Nat × (Nat → Option Int32)) (pg : List (List (Option hc_M))) (call : Nat → hc_M → List Value → Nat → hc_H → Option hc_R) (ret : Option FieldType) (ii : Instr) (r1 r2 : Nat) : Option hc_F := match ii with
  | .iconst _ => some (hi_iconst r1)
  | .bipush _ => some (hi_bipush r1)
  | .sipush _ => some (hi_sipush r1)
  | .ldc _ => some (hi_ldc r1 r2)
  | .ldc_w _ => some (hi_ldc_w r1)
  | .lconst _ => some (hi_lconst r1)
  | .ldc2_w _ => some (hi_ldc2_w r1)
  | .iload_n _ => some (hi_iload_n r1)
  | .iload _ => some (hi_iload r1)
  | .lload_n _ => some (hi_lload_n r1)
  | .lload _ => some (hi_lload r1)
  | .aload_n _ => some (hi_aload_n r1)
  | .aload _ => some (hi_aload r1)
  | .istore_n _ => some (hi_istore_n r1)
  | .istore _ => some (hi_istore r1)
  | .lstore_n _ => some (hi_lstore_n r1)
  | .lstore _ => some (hi_lstore r1)
  | .astore_n _ => some (hi_astore_n r1)
  | .astore _ => some (hi_astore r1)
  | .iinc _ _ => some (hi_iinc r1 r2)
  | .iadd => some (hi_iadd)
  | .isub => some (hi_isub)
  | .imul => some (hi_imul)
  | .iand => some (hi_iand)
  | .ior => some (hi_ior)
  | .ixor => some (hi_ixor)
  | .ishl => some (hi_ishl)
  | .ishr => some (hi_ishr)
  | .iushr => some (hi_iushr)
  | .ladd => some (hi_ladd)
  | .lsub => some (hi_lsub)
  | .lmul => some (hi_lmul)
  | .lor => some (hi_lor)
  | .idiv => some (hi_idiv)
  | .irem => some (hi_irem)
  | .lshl => some (hi_lshl)
  | .lcmp => some (hi_lcmp)
  | .i2l => some (hi_i2l)
  | .l2i => some (hi_l2i)
  | .i2b => some (hi_i2b)
  | .i2c => some (hi_i2c)
  | .dup => some (hi_dup)
  | .pop => some (hi_pop)
  | .dup2 => some (hi_dup2)
  | .ifCond op _ => some (hi_ifCond LS op r1)
  | .if_icmp op _ => some (hi_if_icmp op r1)
  | .goto _ => some (hi_goto r1)
  | .tableswitch dflt lo hi offs => some (hi_tableswitch LS dflt lo hi offs)
  | .getfield _ => some (hi_getfield r1 r2)
  | .putfield _ => some (hi_putfield r1 r2)
  | .iaload => some (hi_iaload LS)
  | .baload => some (hi_baload)
  | .laload => some (hi_laload)
  | .aaload => some (hi_aaload)
  | .iastore => some (hi_iastore)
  | .bastore => some (hi_bastore)
  | .lastore => some (hi_lastore)
  | .aastore => some (hi_aastore)
  | .arraylength => some (hi_arraylength LS)
  | .new _ => some (hi_new r1)
  | .newarray _ => some (hi_newarray r1)
  | .anewarray _ => some (hi_anewarray)
  | .multianewarray _ _ => some (hi_multianewarray)
  | .invokevirtual _ => some (hi_invokevirtual pg call r1 r2)
  | .invokespecial _ => some (hi_invokespecial pg call r1 r2)
  | .invokestatic _ => some (hi_invokestatic pg call r1 r2)
  | .return_ => some (hi_return_ ret)
  | .ireturn => some (hi_ireturn ret)
  | .lreturn => some (hi_lreturn ret)
  | .areturn => some (hi_areturn ret)
  | _ => none
section HCR
variable (LS : Nat × (Nat → Option Int32)) (pg : List (List (Option hc_M)))
noncomputable def hc_step1 (call : Nat → hc_M → List Value → Nat → hc_H → Option hc_R) (ret : Option FieldType) (tb : hc_K) (S : hc_S) : Option (hc_S ⊕ Option Value) := match hc_get tb S.1 with
  | none => none
  | some I => match hc_comp LS pg call ret I.1 I.2.2.1 I.2.2.2 with
    | none => none
    | some f => f S.1 S.2.1 S.2.2.1 S.2.2.2.1 S.2.2.2.2.1 S.2.2.2.2.2.1 S.2.2.2.2.2.2
noncomputable def hc_run (call : Nat → hc_M → List Value → Nat → hc_H → Option hc_R) (ret : Option FieldType) (tb : hc_K) (fuel : Nat) : hc_S → Option hc_R := Nat.rec (motive := fun _ => hc_S → Option hc_R) (fun _ => none) (fun _ ih S => match hc_step1 LS pg call ret tb S with
  | none => none
  | some (.inl S') => ih S'
  | some (.inr r) => some (r, S.2.2.2.1, S.2.2.2.2.1, S.2.2.2.2.2.1, S.2.2.2.2.2.2)) fuel
noncomputable def hc_steps (call : Nat → hc_M → List Value → Nat → hc_H → Option hc_R) (ret : Option FieldType) (tb : hc_K) (fuel : Nat) : hc_S → Option hc_S := Nat.rec (motive := fun _ => hc_S → Option hc_S) (fun S => some S) (fun _ ih S => match hc_step1 LS pg call ret tb S with
  | some (.inl S') => ih S'
  | _ => none) fuel
noncomputable def hc_till (call : Nat → hc_M → List Value → Nat → hc_H → Option hc_R) (ret : Option FieldType) (tb : hc_K) (tgt : Nat) (fuel : Nat) : hc_S → Option hc_S := Nat.rec (motive := fun _ => hc_S → Option hc_S) (fun _ => none) (fun _ ih S => match Nat.beq S.1 tgt with
  | true => some S
  | false => match hc_step1 LS pg call ret tb S with
    | some (.inl S') => ih S'
    | _ => none) fuel
noncomputable def hc_ev (orc : Nat → List Value → hc_H → Option Value) (fuel : Nat) (d : Nat) : Nat → hc_M → List Value → Nat → hc_H → Option hc_R := Nat.rec (motive := fun _ => Nat → hc_M → List Value → Nat → hc_H → Option hc_R) (fun _ _ _ _ _ => none) (fun _ ih k e as n h => match orc k as h with
  | some v => some (some v, n, h, 0, 0)
  | none => match Nat.ble (hc_cat as) e.2.2.1 with
    | false => none
    | true => hc_run LS pg ih e.2.2.2.1 e.2.2.2.2.2.2 fuel (0, hc_ent as e.2.2.1, [], n, h, 0, 0)) d
end HCR
