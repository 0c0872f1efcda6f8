/-! THE WORLD: the script at b, cells from the address B on, numbered from 1; a symbol (.float j) is the script's int j -/
abbrev hv_E : Type := (Nat × Nat × (Nat → Value)) ⊕ (Nat × (Nat → Value))
abbrev hv_H : Type := Nat → Option hv_E
abbrev hv_G : Type := (Nat × Nat × Nat) × (Nat → Int32) × va_G × (Nat → ClassId)
def hv_ad (G : hv_G) (i : Nat) : Nat := match i with
  | 0 => G.1.2.1
  | i + 1 => G.1.1 + i
def hx_k (k : Nat) : Nat := match k with
  | 0 => 0
  | _ => 1
def hv_v (G : hv_G) (v : Value) : Value := match v with
  | .ref i => .ref (hv_ad G i)
  | .float j => .int (G.2.1 j.toNat)
  | .int x => .int x
  | .long x => .long x
  | .null => .null
  | .double x => .double x
  | .retAddr x => .ref (G.2.2.2 (1000 + hx_k x))
def hv_tyl : List FieldType := [.byte, .int, .long, .boolean, .object "HeardNext$Life", .array .int]
def hv_tys (G : hv_G) : List (ClassId × FieldType) := [(G.2.2.2 0, .byte), (G.2.2.2 1, .int), (G.2.2.2 2, .long), (G.2.2.2 3, .boolean), (G.2.2.2 4, .object "HeardNext$Life"), (G.2.2.2 5, .array .int)]
theorem hv_tys_at {G : hv_G} {t : Nat} {ty : FieldType} (h : hv_tyl[t]? = some ty) : (hv_tys G)[t]? = some (G.2.2.2 t, ty) := by
  match t, h with
  | 0, h => cases h; rfl
  | 1, h => cases h; rfl
  | 2, h => cases h; rfl
  | 3, h => cases h; rfl
  | 4, h => cases h; rfl
  | 5, h => cases h; rfl
  | t + 6, h => simp [hv_tyl] at h
def hv_at (G : hv_G) (i : Nat) (e : hv_E) (H : Heap) : Prop := match e with
  | .inl a => H[G.1.1 + i]? = some (arrV (G.2.2.2 a.1) a.2.1 (fun j => hv_v G (a.2.2 j)))
  | .inr o => ∃ r : vw_C, vwCl[o.1]? = some r ∧ t_OB (G.1.1 + i) (G.2.2.1.1 o.1) r.2.2 (G.2.2.1.2 o.1) H (fun k => hv_v G (o.2 k))
def hv_P (G : hv_G) (n : Nat) (hp : hv_H) (H : Heap) : Prop := H.size = G.1.1 + n ∧ ∀ (i : Nat) (e : hv_E), hp i = some e → hv_at G i e H
def hv_up (hp : hv_H) (i : Nat) (e : hv_E) : hv_H := fun j => if j = i then some e else hp j
def hv_uv (f : Nat → Value) (k : Nat) (v : Value) : Nat → Value := fun j => if j = k then v else f j
theorem hv_v_uv (G : hv_G) (f : Nat → Value) (k : Nat) (v : Value) : (fun j => hv_v G (hv_uv f k v j)) = updV (fun j => hv_v G (f j)) k (hv_v G v) := by
  funext j
  unfold hv_uv updV
  by_cases h : j = k <;> simp [h]
theorem hv_at.kept {G : hv_G} {i : Nat} {e : hv_E} {H H1 : Heap} (h : hv_at G i e H) (hq : H1[G.1.1 + i]? = H[G.1.1 + i]?) : hv_at G i e H1 := by
  match e, h with
  | .inl a, h => exact hq.trans h
  | .inr o, h =>
    obtain ⟨r, h1, h2⟩ := h
    exact ⟨r, h1, h2.kept hq⟩
theorem hv_at.lt {G : hv_G} {i : Nat} {e : hv_E} {H : Heap} (h : hv_at G i e H) : G.1.1 + i < H.size := by
  match e, h with
  | .inl a, h => exact (Array.getElem?_eq_some_iff.mp h).1
  | .inr o, h =>
    obtain ⟨r, h1, cell, h2, -⟩ := h
    exact (Array.getElem?_eq_some_iff.mp h2).1
theorem hv_P.set {G : hv_G} {n : Nat} {hp : hv_H} {i : Nat} {e : hv_E} {H H1 : Heap} (h : hv_P G n hp H) (he : hv_at G i e H1) (hz : H1.size = H.size) (oq : ∀ q : Nat, q ≠ G.1.1 + i → H1[q]? = H[q]?) : hv_P G n (hv_up hp i e) H1 := by
  refine ⟨hz.trans h.1, fun j x hj => ?_⟩
  unfold hv_up at hj
  by_cases hji : j = i
  · subst hji
    rw [if_pos rfl] at hj
    cases hj
    exact he
  · rw [if_neg hji] at hj
    exact (h.2 j x hj).kept (oq _ (by omega))
theorem hv_P.push {G : hv_G} {n : Nat} {hp : hv_H} {e : hv_E} {H H1 : Heap} (h : hv_P G n hp H) (he : hv_at G n e H1) (hz : H1.size = H.size + 1) (oq : ∀ q : Nat, q < H.size → H1[q]? = H[q]?) : hv_P G (n + 1) (hv_up hp n e) H1 := by
  refine ⟨by rw [hz, h.1]; omega, fun j x hj => ?_⟩
  unfold hv_up at hj
  by_cases hji : j = n
  · subst hji
    rw [if_pos rfl] at hj
    cases hj
    exact he
  · rw [if_neg hji] at hj
    exact (h.2 j x hj).kept (oq _ (h.2 j x hj).lt)
def hv_l (G : hv_G) (lv : List (Nat × Value)) : List (Nat × Value) := lv.map (fun q => (q.1, hv_v G q.2))
/-! THE TEXTS: where they lie (G.2.2.2 at 1000 and 1001), what they say, at a state z that all later ones keep -/
/-- the text constants: .retAddr k on the pile stands for the k-th -/
def hc_txt (k : Nat) : List Nat := match k with
  | 0 => [59, 61, 43, 45, 42, 47, 60, 40, 41]
  | _ => [104, 111, 117, 115, 101, 32, 115, 101, 110, 100, 115, 32, 107, 101, 101, 112, 115, 32, 116, 117, 114, 110, 115, 32, 104, 117, 109, 115, 32, 100, 105, 101, 115, 32, 103, 114, 105, 101, 102, 32, 115, 101, 101, 100, 32, 105, 102, 32, 116, 104, 101, 110, 32, 101, 108, 115, 101, 32, 100, 111, 111, 114, 32, 104, 111, 117, 114, 32, 100, 97, 121, 32, 112, 97, 114, 116, 32, 119, 97, 110, 116, 115, 32, 97, 103, 101, 32, 112, 97, 114, 116, 115, 32, 109, 97, 110, 121, 32, 104, 97, 100, 32]
def hx_ix (k : Nat) : Nat := match k with
  | 0 => 39
  | _ => 50
def hx_tt (k : Nat) : String := match k with
  | 0 => ";=+-*/<()"
  | _ => "house sends keeps turns hums dies grief seed if then else door hour day part wants age parts many had "
def hx_T (a : Nat) (bs : List Nat) (z : State) : Prop := ∃ (d : Nat) (C arr : Cell), z.heap[a]? = some C ∧ C.vm.isStatics = false ∧ z.vm.findClass "java/lang/String" = some C.cls ∧ (Cond.exactly (.arg 0) "java/lang/String").before #[.ref a] z = true ∧ z.fieldOf? a "java/lang/String" "value" "[B" = some (.ref d) ∧ z.fieldOf? a "java/lang/String" "coder" "B" = some (.int 0) ∧ z.heap[d]? = some arr ∧ z.isArrayOf arr .byte ∧ arr.vm ≠ .unknown ∧ arr.slots.size = bs.length ∧ ∀ (i b : Nat), bs[i]? = some b → arr.slots[i]? = some (.int (Int32.ofNat b))
def hx_Z (z : State) : Prop := Jvm.Lib.Cold.StaticIs z "java/lang/String" "COMPACT_STRINGS" "Z" (.int 1) ∧ ∃ fmt : Value, Jvm.Lib.Cold.StaticIs z "jdk/internal/util/Preconditions" "SIOOBE_FORMATTER" "Ljava/util/function/BiFunction;" fmt ∧ fmt.isRef = true
def hx_R (G : hv_G) (U : State) : Prop := ∀ k : Nat, (Cond.stringRef "HeardNext$Tokens" (hx_ix k) (hx_tt k)).before #[] U = true ∧ (Term.string "HeardNext$Tokens" (hx_ix k)).eval #[] U none [] U = some (.ref (G.2.2.2 (1000 + hx_k k)))
def hx_K (G : hv_G) (U : State) : Prop := hx_R G U ∧ ∃ z : State, z.heap.size ≤ G.1.1 ∧ (∀ (y : Nat) (c : Cell), z.heap[y]? = some c → U.heap[y]? = some c) ∧ z.vm.Alike U.vm ∧ hx_Z z ∧ ∀ k : Nat, hx_T (G.2.2.2 (1000 + hx_k k)) (hc_txt k) z
theorem hx_keepT {a : Nat} {bs : List Nat} {z U : State} (hal : z.vm.Alike U.vm) (hk : ∀ (y : Nat) (c : Cell), z.heap[y]? = some c → U.heap[y]? = some c) (h : hx_T a bs z) : hx_T a bs U := by
  obtain ⟨d, C, arr, h1, h2, h3, h4, h5, h6, h7, h8, h9, h10, h11⟩ := h
  have fk : ∀ (name desc : String), U.fieldOf? a "java/lang/String" name desc = z.fieldOf? a "java/lang/String" name desc := fun name desc => by
    have e1 : U.fieldOf? a "java/lang/String" name desc = (z.setVm U.vm).fieldOf? a "java/lang/String" name desc := by
      have e0 : U.heap[a]? = (z.setVm U.vm).heap[a]? := (hk a C h1).trans h1.symm
      simp only [State.fieldOf?, State.fieldNamed?, State.fieldFound?, e0]
      rfl
    exact e1.trans (State.fieldOf?_setVm hal a _ _ _)
  refine ⟨d, C, arr, hk _ _ h1, h2, by rw [hal.findClass]; exact h3, ?_, by rw [fk]; exact h5, by rw [fk]; exact h6, hk _ _ h7, State.isArrayOf_alike hal h8, h9, h10, h11⟩
  have e2 : (Cond.exactly (.arg 0) "java/lang/String").before #[.ref a] (z.setVm U.vm) = true := (exactly_setVm_of hal (b := a) rfl rfl).trans h4
  have e3 : (Cond.exactly (.arg 0) "java/lang/String").before #[.ref a] U = (Cond.exactly (.arg 0) "java/lang/String").before #[.ref a] (z.setVm U.vm) := by
    have e0 : U.heap[a]? = (z.setVm U.vm).heap[a]? := (hk a C h1).trans h1.symm
    have e4 : (#[Value.ref a] : Array Value)[0]? = some (.ref a) := rfl
    simp only [Cond.before, Cond.holds, Cond.value, Term.eval, e4, State.vm_setVm]
    cases hf : U.vm.findClass "java/lang/String" with
    | none => rfl
    | some c =>
      simp only [e0]
  rw [e3]
  exact e2
theorem hx_keepS {z U : State} {cls name desc : String} {v : Value} (hal : z.vm.Alike U.vm) (hk : ∀ (y : Nat) (c : Cell), z.heap[y]? = some c → U.heap[y]? = some c) (h : Jvm.Lib.Cold.StaticIs z cls name desc v) : Jvm.Lib.Cold.StaticIs U cls name desc v := by
  obtain ⟨cf, i, k, f, a1, cell1, h1, h2, h3, h4, h5, h6, h7⟩ := h
  obtain ⟨k', hk', he⟩ := State.fieldFound?_setVm hal h1
  exact ⟨cf, i, k', f, a1, cell1, hk', h2, by rw [he]; exact h3, by rw [he]; exact h4, hk _ _ h5, h6, h7⟩
/-- what a state knows of the texts -/
theorem hx_K.at {G : hv_G} {U : State} (h : hx_K G U) : hx_Z U ∧ ∀ k : Nat, hx_T (G.2.2.2 (1000 + hx_k k)) (hc_txt k) U := by
  obtain ⟨-, z, -, hk, hal, ⟨z1, fmt, z2, z3⟩, ht⟩ := h
  exact ⟨⟨hx_keepS hal hk z1, fmt, hx_keepS hal hk z2, z3⟩, fun k => hx_keepT hal hk (ht k)⟩
theorem hx_R.moved {G : hv_G} {s U : State} (hW : s.WarmedH U.vm) (h : hx_R G s) : hx_R G U := by
  intro k
  obtain ⟨h1, h2⟩ := h k
  have hcur : ∃ cur, s.vm.findClass "HeardNext$Tokens" = some cur := by
    simp only [Term.eval] at h2
    cases hf : s.vm.findClass "HeardNext$Tokens" with
    | none => simp [hf] at h2
    | some c => exact ⟨c, rfl⟩
  obtain ⟨cur, hcur⟩ := hcur
  have g1 := Cond.stringRef_warmed hW h1
  have g2 := Term.string_eval_warmed hW hcur h1 h2
  refine ⟨?_, ?_⟩
  · rw [← g1]
    simp only [Cond.before, Cond.holds, Cond.value, State.vm_setVm, State.names, State.poolOf?, State.resolvedAt?]
    rfl
  · rw [← g2]
    exact Term.string_eval_of_vm rfl
theorem hx_K.moved {G : hv_G} {s U : State} (hW : s.WarmedH U.vm) (hU : ∀ q : Nat, q < G.1.1 → U.heap[q]? = s.heap[q]?) (h : hx_K G s) : hx_K G U := by
  obtain ⟨h1, z, hz, hk, hal, hZ⟩ := h
  refine ⟨h1.moved hW, z, hz, fun y c hy => ?_, hal.trans hW.alike, hZ⟩
  have hlt : y < z.heap.size := (Array.getElem?_eq_some_iff.mp hy).1
  rw [hU y (by omega)]
  exact hk y c hy
def hv_X (G : hv_G) (p : Program) (s : State) (m : MethodId) (args : Array Value) (c : Code) (Ts : List Cond) (own : String) (cc : ByteArray) (nL : Nat) : Prop :=
  p.tables.exec = Jvm.exec ∧ c.code = cc ∧ c.maxLocals = nL ∧ s.vm.findClass own = some m.cls ∧ (∀ w ∈ Ts, w.before args s = true) ∧ va_K G.2.2.1 vwCl (hv_tys G) s ∧ G.1.1 ≤ s.heap.size ∧ G.1.2.1 < G.1.1 ∧ hx_K G s ∧ va_X G.1.2.1 G.1.2.2 G.2.1 s s.heap
def hv_W (G : hv_G) (p : Program) (l : Launch) (e : Env) (R : Room) (s : State) (m : MethodId) (args : Array Value) (below : List Frame) (meth : Method) (c : Code) (nL : Nat) (Q : State → Prop) (n : Nat) (hp : hv_H) (cells slots pc : Nat) (lv : List (Nat × Value)) (st : List Value) : Prop :=
  ∀ (H : Heap) (locs : List Loc) (ls : Array Slot), hv_P G n hp H → (∀ q : Nat, q < G.1.1 → H[q]? = s.heap[q]?) → (∀ q ∈ locs, G.1.1 ≤ q.base) → lv_has ls nL (hv_l G lv) → W p l e R s m args below meth c H locs cells slots Q (F0 m pc ls (st.map (hv_v G)))
def hv_s1 (i : Nat) (v : Value) (lv : List (Nat × Value)) : List (Nat × Value) := (i, v) :: lv.filter (fun q => !(q.1 == i) && !(q.1 + 1 == i && q.2.category == 2))
def hv_s2 (i : Nat) (v : Value) (lv : List (Nat × Value)) : List (Nat × Value) := (i, v) :: lv.filter (fun q => !(q.1 == i) && (!(q.1 == i + 1) && !(q.1 + 1 == i && q.2.category == 2)))
theorem hv_cat (G : hv_G) (v : Value) : (hv_v G v).category = v.category := by cases v <;> rfl
theorem hv_l_s1 (G : hv_G) (i : Nat) (v : Value) (lv : List (Nat × Value)) : (i, hv_v G v) :: (hv_l G lv).filter (fun q => !(q.1 == i) && !(q.1 + 1 == i && q.2.category == 2)) = hv_l G (hv_s1 i v lv) := by
  unfold hv_l hv_s1
  rw [List.map_cons, List.filter_map]
  congr 3
  funext q
  simp only [Function.comp, hv_cat]
theorem hv_l_s2 (G : hv_G) (i : Nat) (v : Value) (lv : List (Nat × Value)) : (i, hv_v G v) :: (hv_l G lv).filter (fun q => !(q.1 == i) && (!(q.1 == i + 1) && !(q.1 + 1 == i && q.2.category == 2))) = hv_l G (hv_s2 i v lv) := by
  unfold hv_l hv_s2
  rw [List.map_cons, List.filter_map]
  congr 3
  funext q
  simp only [Function.comp, hv_cat]
theorem hv_l_at {G : hv_G} {ls : Array Slot} {nL : Nat} {lv : List (Nat × Value)} (h : lv_has ls nL (hv_l G lv)) {i : Nat} {v : Value} (hm : (i, v) ∈ lv) : ls[i]? = some (.val (hv_v G v)) := h.2.2 (i, hv_v G v) (List.mem_map.mpr ⟨(i, v), hm, rfl⟩)
theorem hv_cats (G : hv_G) (st : List Value) : ((st.map (hv_v G)).map fun v => v.category).sum = (st.map fun v => v.category).sum := by
  rw [List.map_map]
  congr 1
  apply List.map_congr_left
  intro v _
  exact hv_cat G v
section HW
variable {G : hv_G} {p : Program} {l : Launch} {e : Env} {R : Room} {s : State} {m : MethodId} {args : Array Value} {below : List Frame} {meth : Method} {c : Code} {nL : Nat} {Q : State → Prop} {n : Nat} {hp : hv_H} {cells slots pc : Nat} {lv : List (Nat × Value)} {st : List Value} {Ts : List Cond} {own : String} {cc : ByteArray}
theorem hw_iconst (X : hv_X G p s m args c Ts own cc nL) {z : Int} {v : Int32} (hd : decode cc pc = .ok (.iconst z, 1)) (hv : Int32.ofInt z = v) (k : hv_W G p l e R s m args below meth c nL Q n hp cells slots (pc + 1) lv (.int v :: st)) : hv_W G p l e R s m args below meth c nL Q n hp cells slots pc lv st := fun H locs ls h1 h2 h3 h4 => lv_iconst X.1 X.2.1 hd hv (k H locs ls h1 h2 h3 h4)
theorem hw_bipush (X : hv_X G p s m args c Ts own cc nL) {z : Int} {v : Int32} (hd : decode cc pc = .ok (.bipush z, 2)) (hv : (Int8.ofInt z).toInt32 = v) (k : hv_W G p l e R s m args below meth c nL Q n hp cells slots (pc + 2) lv (.int v :: st)) : hv_W G p l e R s m args below meth c nL Q n hp cells slots pc lv st := fun H locs ls h1 h2 h3 h4 => lv_bipush X.1 X.2.1 hd hv (k H locs ls h1 h2 h3 h4)
theorem hw_sipush (X : hv_X G p s m args c Ts own cc nL) {z : Int} {v : Int32} (hd : decode cc pc = .ok (.sipush z, 3)) (hv : (Int16.ofInt z).toInt32 = v) (k : hv_W G p l e R s m args below meth c nL Q n hp cells slots (pc + 3) lv (.int v :: st)) : hv_W G p l e R s m args below meth c nL Q n hp cells slots pc lv st := fun H locs ls h1 h2 h3 h4 => lv_sipush X.1 X.2.1 hd hv (k H locs ls h1 h2 h3 h4)
theorem hw_lconst (X : hv_X G p s m args c Ts own cc nL) {z : Fin 2} {v : Int64} (hd : decode cc pc = .ok (.lconst z, 1)) (hv : Int64.ofNat (z : Nat) = v) (k : hv_W G p l e R s m args below meth c nL Q n hp cells slots (pc + 1) lv (.long v :: st)) : hv_W G p l e R s m args below meth c nL Q n hp cells slots pc lv st := fun H locs ls h1 h2 h3 h4 => lv_lconst X.1 X.2.1 hd hv (k H locs ls h1 h2 h3 h4)
theorem hw_ldc (X : hv_X G p s m args c Ts own cc nL) {ix : Nat} {v : Int32} (hd : decode cc pc = .ok (.ldc ix, 2)) (hw : Cond.constant own ix v ∈ Ts) (k : hv_W G p l e R s m args below meth c nL Q n hp cells slots (pc + 2) lv (.int v :: st)) : hv_W G p l e R s m args below meth c nL Q n hp cells slots pc lv st := fun H locs ls h1 h2 h3 h4 => lv_ldc X.1 X.2.1 X.2.2.2.1 (X.2.2.2.2.1 _ hw) hd (k H locs ls h1 h2 h3 h4)
theorem hw_ldcw (X : hv_X G p s m args c Ts own cc nL) {ix : Nat} {v : Int32} (hd : decode cc pc = .ok (.ldc_w ix, 3)) (hw : Cond.constant own ix v ∈ Ts) (k : hv_W G p l e R s m args below meth c nL Q n hp cells slots (pc + 3) lv (.int v :: st)) : hv_W G p l e R s m args below meth c nL Q n hp cells slots pc lv st := fun H locs ls h1 h2 h3 h4 => lv_ldcw X.1 X.2.1 X.2.2.2.1 (X.2.2.2.2.1 _ hw) hd (k H locs ls h1 h2 h3 h4)
theorem hw_ldc2 (X : hv_X G p s m args c Ts own cc nL) {ix : Nat} {v : Int64} (hd : decode cc pc = .ok (.ldc2_w ix, 3)) (hw : Cond.constantLong own ix v ∈ Ts) (k : hv_W G p l e R s m args below meth c nL Q n hp cells slots (pc + 3) lv (.long v :: st)) : hv_W G p l e R s m args below meth c nL Q n hp cells slots pc lv st := fun H locs ls h1 h2 h3 h4 => lv_ldc2 X.1 X.2.1 X.2.2.2.1 (X.2.2.2.2.1 _ hw) hd (k H locs ls h1 h2 h3 h4)
theorem hw_iload_n (X : hv_X G p s m args c Ts own cc nL) {kf : Fin 4} {i : Nat} {x : Int32} (hd : decode cc pc = .ok (.iload_n kf, 1)) (hi : (kf : Nat) = i) (hm : (i, .int x) ∈ lv) (k : hv_W G p l e R s m args below meth c nL Q n hp cells slots (pc + 1) lv (.int x :: st)) : hv_W G p l e R s m args below meth c nL Q n hp cells slots pc lv st := fun H locs ls h1 h2 h3 h4 => lv_iload_n X.1 X.2.1 hd hi (hv_l_at h4 hm) (k H locs ls h1 h2 h3 h4)
theorem hw_iload_nS (X : hv_X G p s m args c Ts own cc nL) {kf : Fin 4} {i : Nat} {x : UInt32} (hd : decode cc pc = .ok (.iload_n kf, 1)) (hi : (kf : Nat) = i) (hm : (i, .float x) ∈ lv) (k : hv_W G p l e R s m args below meth c nL Q n hp cells slots (pc + 1) lv (.float x :: st)) : hv_W G p l e R s m args below meth c nL Q n hp cells slots pc lv st := fun H locs ls h1 h2 h3 h4 => lv_iload_n X.1 X.2.1 hd hi (hv_l_at h4 hm) (k H locs ls h1 h2 h3 h4)
theorem hw_iload (X : hv_X G p s m args c Ts own cc nL) {i : Nat} {x : Int32} (hd : decode cc pc = .ok (.iload i, 2)) (hm : (i, .int x) ∈ lv) (k : hv_W G p l e R s m args below meth c nL Q n hp cells slots (pc + 2) lv (.int x :: st)) : hv_W G p l e R s m args below meth c nL Q n hp cells slots pc lv st := fun H locs ls h1 h2 h3 h4 => lv_iload X.1 X.2.1 hd (hv_l_at h4 hm) (k H locs ls h1 h2 h3 h4)
theorem hw_iloadS (X : hv_X G p s m args c Ts own cc nL) {i : Nat} {x : UInt32} (hd : decode cc pc = .ok (.iload i, 2)) (hm : (i, .float x) ∈ lv) (k : hv_W G p l e R s m args below meth c nL Q n hp cells slots (pc + 2) lv (.float x :: st)) : hv_W G p l e R s m args below meth c nL Q n hp cells slots pc lv st := fun H locs ls h1 h2 h3 h4 => lv_iload X.1 X.2.1 hd (hv_l_at h4 hm) (k H locs ls h1 h2 h3 h4)
theorem hw_lload_n (X : hv_X G p s m args c Ts own cc nL) {kf : Fin 4} {i : Nat} {x : Int64} (hd : decode cc pc = .ok (.lload_n kf, 1)) (hi : (kf : Nat) = i) (hm : (i, .long x) ∈ lv) (k : hv_W G p l e R s m args below meth c nL Q n hp cells slots (pc + 1) lv (.long x :: st)) : hv_W G p l e R s m args below meth c nL Q n hp cells slots pc lv st := fun H locs ls h1 h2 h3 h4 => lv_lload_n X.1 X.2.1 hd hi (hv_l_at h4 hm) (k H locs ls h1 h2 h3 h4)
theorem hw_lload (X : hv_X G p s m args c Ts own cc nL) {i : Nat} {x : Int64} (hd : decode cc pc = .ok (.lload i, 2)) (hm : (i, .long x) ∈ lv) (k : hv_W G p l e R s m args below meth c nL Q n hp cells slots (pc + 2) lv (.long x :: st)) : hv_W G p l e R s m args below meth c nL Q n hp cells slots pc lv st := fun H locs ls h1 h2 h3 h4 => lv_lload X.1 X.2.1 hd (hv_l_at h4 hm) (k H locs ls h1 h2 h3 h4)
theorem hw_aload_n (X : hv_X G p s m args c Ts own cc nL) {kf : Fin 4} {i : Nat} {x : Nat} (hd : decode cc pc = .ok (.aload_n kf, 1)) (hi : (kf : Nat) = i) (hm : (i, .ref x) ∈ lv) (k : hv_W G p l e R s m args below meth c nL Q n hp cells slots (pc + 1) lv (.ref x :: st)) : hv_W G p l e R s m args below meth c nL Q n hp cells slots pc lv st := fun H locs ls h1 h2 h3 h4 => lv_aload_n X.1 X.2.1 hd hi (hv_l_at h4 hm) (k H locs ls h1 h2 h3 h4)
theorem hw_aload (X : hv_X G p s m args c Ts own cc nL) {i : Nat} {x : Nat} (hd : decode cc pc = .ok (.aload i, 2)) (hm : (i, .ref x) ∈ lv) (k : hv_W G p l e R s m args below meth c nL Q n hp cells slots (pc + 2) lv (.ref x :: st)) : hv_W G p l e R s m args below meth c nL Q n hp cells slots pc lv st := fun H locs ls h1 h2 h3 h4 => lv_aload X.1 X.2.1 hd (hv_l_at h4 hm) (k H locs ls h1 h2 h3 h4)
theorem hw_istore_n (X : hv_X G p s m args c Ts own cc nL) {kf : Fin 4} {i : Nat} {x : Int32} (hd : decode cc pc = .ok (.istore_n kf, 1)) (hi : (kf : Nat) = i) (hn : i < nL) (k : hv_W G p l e R s m args below meth c nL Q n hp cells slots (pc + 1) (hv_s1 i (.int x) lv) st) : hv_W G p l e R s m args below meth c nL Q n hp cells slots pc lv (.int x :: st) := fun H locs ls h1 h2 h3 h4 => lv_istore_n X.1 X.2.1 hd hi h4 hn (hv_l_s1 G i (.int x) lv) (fun ls h4 => k H locs ls h1 h2 h3 h4)
theorem hw_istore_nS (X : hv_X G p s m args c Ts own cc nL) {kf : Fin 4} {i : Nat} {x : UInt32} (hd : decode cc pc = .ok (.istore_n kf, 1)) (hi : (kf : Nat) = i) (hn : i < nL) (k : hv_W G p l e R s m args below meth c nL Q n hp cells slots (pc + 1) (hv_s1 i (.float x) lv) st) : hv_W G p l e R s m args below meth c nL Q n hp cells slots pc lv (.float x :: st) := fun H locs ls h1 h2 h3 h4 => lv_istore_n X.1 X.2.1 hd hi h4 hn (hv_l_s1 G i (.float x) lv) (fun ls h4 => k H locs ls h1 h2 h3 h4)
theorem hw_istore (X : hv_X G p s m args c Ts own cc nL) {i : Nat} {x : Int32} (hd : decode cc pc = .ok (.istore i, 2)) (hn : i < nL) (k : hv_W G p l e R s m args below meth c nL Q n hp cells slots (pc + 2) (hv_s1 i (.int x) lv) st) : hv_W G p l e R s m args below meth c nL Q n hp cells slots pc lv (.int x :: st) := fun H locs ls h1 h2 h3 h4 => lv_istore X.1 X.2.1 hd h4 hn (hv_l_s1 G i (.int x) lv) (fun ls h4 => k H locs ls h1 h2 h3 h4)
theorem hw_istoreS (X : hv_X G p s m args c Ts own cc nL) {i : Nat} {x : UInt32} (hd : decode cc pc = .ok (.istore i, 2)) (hn : i < nL) (k : hv_W G p l e R s m args below meth c nL Q n hp cells slots (pc + 2) (hv_s1 i (.float x) lv) st) : hv_W G p l e R s m args below meth c nL Q n hp cells slots pc lv (.float x :: st) := fun H locs ls h1 h2 h3 h4 => lv_istore X.1 X.2.1 hd h4 hn (hv_l_s1 G i (.float x) lv) (fun ls h4 => k H locs ls h1 h2 h3 h4)
theorem hw_lstore_n (X : hv_X G p s m args c Ts own cc nL) {kf : Fin 4} {i : Nat} {x : Int64} (hd : decode cc pc = .ok (.lstore_n kf, 1)) (hi : (kf : Nat) = i) (hn : i + 1 < nL) (k : hv_W G p l e R s m args below meth c nL Q n hp cells slots (pc + 1) (hv_s2 i (.long x) lv) st) : hv_W G p l e R s m args below meth c nL Q n hp cells slots pc lv (.long x :: st) := fun H locs ls h1 h2 h3 h4 => lv_lstore_n X.1 X.2.1 hd hi h4 hn (hv_l_s2 G i (.long x) lv) (fun ls h4 => k H locs ls h1 h2 h3 h4)
theorem hw_lstore (X : hv_X G p s m args c Ts own cc nL) {i : Nat} {x : Int64} (hd : decode cc pc = .ok (.lstore i, 2)) (hn : i + 1 < nL) (k : hv_W G p l e R s m args below meth c nL Q n hp cells slots (pc + 2) (hv_s2 i (.long x) lv) st) : hv_W G p l e R s m args below meth c nL Q n hp cells slots pc lv (.long x :: st) := fun H locs ls h1 h2 h3 h4 => lv_lstore X.1 X.2.1 hd h4 hn (hv_l_s2 G i (.long x) lv) (fun ls h4 => k H locs ls h1 h2 h3 h4)
theorem hw_astore_n (X : hv_X G p s m args c Ts own cc nL) {kf : Fin 4} {i : Nat} {x : Nat} (hd : decode cc pc = .ok (.astore_n kf, 1)) (hi : (kf : Nat) = i) (hn : i < nL) (k : hv_W G p l e R s m args below meth c nL Q n hp cells slots (pc + 1) (hv_s1 i (.ref x) lv) st) : hv_W G p l e R s m args below meth c nL Q n hp cells slots pc lv (.ref x :: st) := fun H locs ls h1 h2 h3 h4 => lv_astore_n X.1 X.2.1 hd hi h4 hn (hv_l_s1 G i (.ref x) lv) (fun ls h4 => k H locs ls h1 h2 h3 h4)
theorem hw_astore (X : hv_X G p s m args c Ts own cc nL) {i : Nat} {x : Nat} (hd : decode cc pc = .ok (.astore i, 2)) (hn : i < nL) (k : hv_W G p l e R s m args below meth c nL Q n hp cells slots (pc + 2) (hv_s1 i (.ref x) lv) st) : hv_W G p l e R s m args below meth c nL Q n hp cells slots pc lv (.ref x :: st) := fun H locs ls h1 h2 h3 h4 => lv_astore X.1 X.2.1 hd h4 hn (hv_l_s1 G i (.ref x) lv) (fun ls h4 => k H locs ls h1 h2 h3 h4)
theorem hw_iinc (X : hv_X G p s m args c Ts own cc nL) {i : Nat} {z : Int} {x : Int32} (hd : decode cc pc = .ok (.iinc i z, 3)) (hm : (i, .int x) ∈ lv) (hn : i < nL) (k : hv_W G p l e R s m args below meth c nL Q n hp cells slots (pc + 3) (hv_s1 i (.int (x + Int32.ofInt z)) lv) st) : hv_W G p l e R s m args below meth c nL Q n hp cells slots pc lv st := by
  intro H locs ls h1 h2 h3 h4
  have hm' : (i, Value.int x) ∈ hv_l G lv := List.mem_map.mpr ⟨(i, .int x), hm, rfl⟩
  obtain ⟨k0, hk0⟩ := List.mem_iff_getElem?.mp hm'
  exact lv_iinc X.1 X.2.1 hd h4 hk0 rfl hn (hv_l_s1 G i (.int (x + Int32.ofInt z)) lv) (fun ls h4 => k H locs ls h1 h2 h3 h4)
theorem hw_iadd (X : hv_X G p s m args c Ts own cc nL) {x y : Int32} (hd : decode cc pc = .ok (.iadd, 1))  (k : hv_W G p l e R s m args below meth c nL Q n hp cells slots (pc + 1) lv (.int (x + y) :: st)) : hv_W G p l e R s m args below meth c nL Q n hp cells slots pc lv (.int y :: .int x :: st) := fun H locs ls h1 h2 h3 h4 => lv_iadd X.1 X.2.1 hd (k H locs ls h1 h2 h3 h4)
theorem hw_isub (X : hv_X G p s m args c Ts own cc nL) {x y : Int32} (hd : decode cc pc = .ok (.isub, 1))  (k : hv_W G p l e R s m args below meth c nL Q n hp cells slots (pc + 1) lv (.int (x - y) :: st)) : hv_W G p l e R s m args below meth c nL Q n hp cells slots pc lv (.int y :: .int x :: st) := fun H locs ls h1 h2 h3 h4 => lv_isub X.1 X.2.1 hd (k H locs ls h1 h2 h3 h4)
theorem hw_imul (X : hv_X G p s m args c Ts own cc nL) {x y : Int32} (hd : decode cc pc = .ok (.imul, 1))  (k : hv_W G p l e R s m args below meth c nL Q n hp cells slots (pc + 1) lv (.int (x * y) :: st)) : hv_W G p l e R s m args below meth c nL Q n hp cells slots pc lv (.int y :: .int x :: st) := fun H locs ls h1 h2 h3 h4 => lv_imul X.1 X.2.1 hd (k H locs ls h1 h2 h3 h4)
theorem hw_iand (X : hv_X G p s m args c Ts own cc nL) {x y : Int32} (hd : decode cc pc = .ok (.iand, 1))  (k : hv_W G p l e R s m args below meth c nL Q n hp cells slots (pc + 1) lv (.int (x &&& y) :: st)) : hv_W G p l e R s m args below meth c nL Q n hp cells slots pc lv (.int y :: .int x :: st) := fun H locs ls h1 h2 h3 h4 => lv_iand X.1 X.2.1 hd (k H locs ls h1 h2 h3 h4)
theorem hw_ior (X : hv_X G p s m args c Ts own cc nL) {x y : Int32} (hd : decode cc pc = .ok (.ior, 1))  (k : hv_W G p l e R s m args below meth c nL Q n hp cells slots (pc + 1) lv (.int (x ||| y) :: st)) : hv_W G p l e R s m args below meth c nL Q n hp cells slots pc lv (.int y :: .int x :: st) := fun H locs ls h1 h2 h3 h4 => lv_ior X.1 X.2.1 hd (k H locs ls h1 h2 h3 h4)
theorem hw_ixor (X : hv_X G p s m args c Ts own cc nL) {x y : Int32} (hd : decode cc pc = .ok (.ixor, 1))  (k : hv_W G p l e R s m args below meth c nL Q n hp cells slots (pc + 1) lv (.int (x ^^^ y) :: st)) : hv_W G p l e R s m args below meth c nL Q n hp cells slots pc lv (.int y :: .int x :: st) := fun H locs ls h1 h2 h3 h4 => lv_ixor X.1 X.2.1 hd (k H locs ls h1 h2 h3 h4)
theorem hw_idiv (X : hv_X G p s m args c Ts own cc nL) {x y : Int32} (hd : decode cc pc = .ok (.idiv, 1)) (hne : ¬ y = 0) (k : hv_W G p l e R s m args below meth c nL Q n hp cells slots (pc + 1) lv (.int (x / y) :: st)) : hv_W G p l e R s m args below meth c nL Q n hp cells slots pc lv (.int y :: .int x :: st) := fun H locs ls h1 h2 h3 h4 => lv_idiv X.1 X.2.1 hd hne (k H locs ls h1 h2 h3 h4)
theorem hw_irem (X : hv_X G p s m args c Ts own cc nL) {x y : Int32} (hd : decode cc pc = .ok (.irem, 1)) (hne : ¬ y = 0) (k : hv_W G p l e R s m args below meth c nL Q n hp cells slots (pc + 1) lv (.int (x - x / y * y) :: st)) : hv_W G p l e R s m args below meth c nL Q n hp cells slots pc lv (.int y :: .int x :: st) := fun H locs ls h1 h2 h3 h4 => lv_irem X.1 X.2.1 hd hne (k H locs ls h1 h2 h3 h4)
theorem hw_ishl (X : hv_X G p s m args c Ts own cc nL) {x y : Int32} (hd : decode cc pc = .ok (.ishl, 1))  (k : hv_W G p l e R s m args below meth c nL Q n hp cells slots (pc + 1) lv (.int (x <<< (y &&& 31)) :: st)) : hv_W G p l e R s m args below meth c nL Q n hp cells slots pc lv (.int y :: .int x :: st) := fun H locs ls h1 h2 h3 h4 => lv_ishl X.1 X.2.1 hd (k H locs ls h1 h2 h3 h4)
theorem hw_ishr (X : hv_X G p s m args c Ts own cc nL) {x y : Int32} (hd : decode cc pc = .ok (.ishr, 1))  (k : hv_W G p l e R s m args below meth c nL Q n hp cells slots (pc + 1) lv (.int (x >>> (y &&& 31)) :: st)) : hv_W G p l e R s m args below meth c nL Q n hp cells slots pc lv (.int y :: .int x :: st) := fun H locs ls h1 h2 h3 h4 => lv_ishr X.1 X.2.1 hd (k H locs ls h1 h2 h3 h4)
theorem hw_iushr (X : hv_X G p s m args c Ts own cc nL) {x y : Int32} (hd : decode cc pc = .ok (.iushr, 1))  (k : hv_W G p l e R s m args below meth c nL Q n hp cells slots (pc + 1) lv (.int ((x.toUInt32 >>> (y.toUInt32 &&& Int32.toUInt32 31)).toInt32) :: st)) : hv_W G p l e R s m args below meth c nL Q n hp cells slots pc lv (.int y :: .int x :: st) := fun H locs ls h1 h2 h3 h4 => lv_iushr X.1 X.2.1 hd rfl (k H locs ls h1 h2 h3 h4)
theorem hw_ladd (X : hv_X G p s m args c Ts own cc nL) {x y : Int64} (hd : decode cc pc = .ok (.ladd, 1))  (k : hv_W G p l e R s m args below meth c nL Q n hp cells slots (pc + 1) lv (.long (x + y) :: st)) : hv_W G p l e R s m args below meth c nL Q n hp cells slots pc lv (.long y :: .long x :: st) := fun H locs ls h1 h2 h3 h4 => lv_ladd X.1 X.2.1 hd (k H locs ls h1 h2 h3 h4)
theorem hw_lsub (X : hv_X G p s m args c Ts own cc nL) {x y : Int64} (hd : decode cc pc = .ok (.lsub, 1))  (k : hv_W G p l e R s m args below meth c nL Q n hp cells slots (pc + 1) lv (.long (x - y) :: st)) : hv_W G p l e R s m args below meth c nL Q n hp cells slots pc lv (.long y :: .long x :: st) := fun H locs ls h1 h2 h3 h4 => lv_lsub X.1 X.2.1 hd (k H locs ls h1 h2 h3 h4)
theorem hw_lmul (X : hv_X G p s m args c Ts own cc nL) {x y : Int64} (hd : decode cc pc = .ok (.lmul, 1))  (k : hv_W G p l e R s m args below meth c nL Q n hp cells slots (pc + 1) lv (.long (x * y) :: st)) : hv_W G p l e R s m args below meth c nL Q n hp cells slots pc lv (.long y :: .long x :: st) := fun H locs ls h1 h2 h3 h4 => lv_lmul X.1 X.2.1 hd (k H locs ls h1 h2 h3 h4)
theorem hw_lor (X : hv_X G p s m args c Ts own cc nL) {x y : Int64} (hd : decode cc pc = .ok (.lor, 1))  (k : hv_W G p l e R s m args below meth c nL Q n hp cells slots (pc + 1) lv (.long (x ||| y) :: st)) : hv_W G p l e R s m args below meth c nL Q n hp cells slots pc lv (.long y :: .long x :: st) := fun H locs ls h1 h2 h3 h4 => lv_lor X.1 X.2.1 hd (k H locs ls h1 h2 h3 h4)
theorem hw_lshl (X : hv_X G p s m args c Ts own cc nL) {x : Int64} {y : Int32} (hd : decode cc pc = .ok (.lshl, 1))  (k : hv_W G p l e R s m args below meth c nL Q n hp cells slots (pc + 1) lv (.long (x <<< (y.toInt64 &&& 63)) :: st)) : hv_W G p l e R s m args below meth c nL Q n hp cells slots pc lv (.int y :: .long x :: st) := fun H locs ls h1 h2 h3 h4 => lv_lshl X.1 X.2.1 hd rfl (k H locs ls h1 h2 h3 h4)
theorem hw_lcmp (X : hv_X G p s m args c Ts own cc nL) {x y : Int64} (hd : decode cc pc = .ok (.lcmp, 1))  (k : hv_W G p l e R s m args below meth c nL Q n hp cells slots (pc + 1) lv (.int (lg_cmp x y) :: st)) : hv_W G p l e R s m args below meth c nL Q n hp cells slots pc lv (.long y :: .long x :: st) := fun H locs ls h1 h2 h3 h4 => W.lcmp X.1 X.2.1 hd (k H locs ls h1 h2 h3 h4)
theorem hw_i2l (X : hv_X G p s m args c Ts own cc nL) {x : Int32} (hd : decode cc pc = .ok (.i2l, 1))  (k : hv_W G p l e R s m args below meth c nL Q n hp cells slots (pc + 1) lv (.long x.toInt64 :: st)) : hv_W G p l e R s m args below meth c nL Q n hp cells slots pc lv (.int x :: st) := fun H locs ls h1 h2 h3 h4 => lv_i2l X.1 X.2.1 hd rfl (k H locs ls h1 h2 h3 h4)
theorem hw_l2i (X : hv_X G p s m args c Ts own cc nL) {x : Int64} (hd : decode cc pc = .ok (.l2i, 1))  (k : hv_W G p l e R s m args below meth c nL Q n hp cells slots (pc + 1) lv (.int x.toInt32 :: st)) : hv_W G p l e R s m args below meth c nL Q n hp cells slots pc lv (.long x :: st) := fun H locs ls h1 h2 h3 h4 => lv_l2i X.1 X.2.1 hd rfl (k H locs ls h1 h2 h3 h4)
theorem hw_i2b (X : hv_X G p s m args c Ts own cc nL) {x : Int32} (hd : decode cc pc = .ok (.i2b, 1))  (k : hv_W G p l e R s m args below meth c nL Q n hp cells slots (pc + 1) lv (.int x.toInt8.toInt32 :: st)) : hv_W G p l e R s m args below meth c nL Q n hp cells slots pc lv (.int x :: st) := fun H locs ls h1 h2 h3 h4 => lv_i2b X.1 X.2.1 hd rfl (k H locs ls h1 h2 h3 h4)
theorem hw_i2c (X : hv_X G p s m args c Ts own cc nL) {x : Int32} (hd : decode cc pc = .ok (.i2c, 1))  (k : hv_W G p l e R s m args below meth c nL Q n hp cells slots (pc + 1) lv (.int (x.toUInt32 % 65536).toInt32 :: st)) : hv_W G p l e R s m args below meth c nL Q n hp cells slots pc lv (.int x :: st) := fun H locs ls h1 h2 h3 h4 => lv_i2c X.1 X.2.1 hd rfl (k H locs ls h1 h2 h3 h4)
theorem hw_iushrS (X : hv_X G p s m args c Ts own cc nL) {y : Int32} {j i : UInt32} (hd : decode cc pc = .ok (.iushr, 1)) (hv : G.2.1 i.toNat = ((G.2.1 j.toNat).toUInt32 >>> (y.toUInt32 &&& Int32.toUInt32 31)).toInt32) (k : hv_W G p l e R s m args below meth c nL Q n hp cells slots (pc + 1) lv (.float i :: st)) : hv_W G p l e R s m args below meth c nL Q n hp cells slots pc lv (.int y :: .float j :: st) := by
  intro H locs ls h1 h2 h3 h4
  have hk := k H locs ls h1 h2 h3 h4
  have e : hv_v G (.float i) = .int (((G.2.1 j.toNat).toUInt32 >>> (y.toUInt32 &&& Int32.toUInt32 31)).toInt32) := congrArg Value.int hv
  rw [List.map_cons, e] at hk
  exact lv_iushr X.1 X.2.1 hd rfl hk
theorem hw_ishrS (X : hv_X G p s m args c Ts own cc nL) {y : Int32} {j i : UInt32} (hd : decode cc pc = .ok (.ishr, 1)) (hv : G.2.1 i.toNat = (G.2.1 j.toNat) >>> (y &&& 31)) (k : hv_W G p l e R s m args below meth c nL Q n hp cells slots (pc + 1) lv (.float i :: st)) : hv_W G p l e R s m args below meth c nL Q n hp cells slots pc lv (.int y :: .float j :: st) := by
  intro H locs ls h1 h2 h3 h4
  have hk := k H locs ls h1 h2 h3 h4
  have e : hv_v G (.float i) = .int ((G.2.1 j.toNat) >>> (y &&& 31)) := congrArg Value.int hv
  rw [List.map_cons, e] at hk
  exact lv_ishr X.1 X.2.1 hd hk
theorem hw_i2bS (X : hv_X G p s m args c Ts own cc nL) {j i : UInt32} (hd : decode cc pc = .ok (.i2b, 1)) (hv : G.2.1 i.toNat = (G.2.1 j.toNat).toInt8.toInt32) (k : hv_W G p l e R s m args below meth c nL Q n hp cells slots (pc + 1) lv (.float i :: st)) : hv_W G p l e R s m args below meth c nL Q n hp cells slots pc lv (.float j :: st) := by
  intro H locs ls h1 h2 h3 h4
  have hk := k H locs ls h1 h2 h3 h4
  have e : hv_v G (.float i) = .int (G.2.1 j.toNat).toInt8.toInt32 := congrArg Value.int hv
  rw [List.map_cons, e] at hk
  exact lv_i2b X.1 X.2.1 hd rfl hk
theorem hw_dup (X : hv_X G p s m args c Ts own cc nL) {v : Value} (hd : decode cc pc = .ok (.dup, 1)) (hc : v.category = 1) (k : hv_W G p l e R s m args below meth c nL Q n hp cells slots (pc + 1) lv (v :: v :: st)) : hv_W G p l e R s m args below meth c nL Q n hp cells slots pc lv (v :: st) := fun H locs ls h1 h2 h3 h4 => lv_dup X.1 X.2.1 hd ((hv_cat G v).trans hc) (k H locs ls h1 h2 h3 h4)
theorem hw_pop (X : hv_X G p s m args c Ts own cc nL) {v : Value} (hd : decode cc pc = .ok (.pop, 1)) (hc : v.category = 1) (k : hv_W G p l e R s m args below meth c nL Q n hp cells slots (pc + 1) lv st) : hv_W G p l e R s m args below meth c nL Q n hp cells slots pc lv (v :: st) := fun H locs ls h1 h2 h3 h4 => lv_pop X.1 X.2.1 hd ((hv_cat G v).trans hc) (k H locs ls h1 h2 h3 h4)
theorem hw_dup2 (X : hv_X G p s m args c Ts own cc nL) {v w : Value} (hd : decode cc pc = .ok (.dup2, 1)) (hc : v.category = 1) (hw : w.category = 1) (k : hv_W G p l e R s m args below meth c nL Q n hp cells slots (pc + 1) lv (v :: w :: v :: w :: st)) : hv_W G p l e R s m args below meth c nL Q n hp cells slots pc lv (v :: w :: st) := fun H locs ls h1 h2 h3 h4 => lv_dup2_11 X.1 X.2.1 hd ((hv_cat G v).trans hc) ((hv_cat G w).trans hw) (k H locs ls h1 h2 h3 h4)
theorem hw_if_eq (X : hv_X G p s m args c Ts own cc nL) {x : Int32} {off : Int} {tgt : Nat} (hd : decode cc pc = .ok (.ifCond .eq off, 3)) (ht : (pc : Int) + off = (tgt : Int)) (kt : x = 0 → hv_W G p l e R s m args below meth c nL Q n hp cells slots tgt lv st) (kf : ¬ x = 0 → hv_W G p l e R s m args below meth c nL Q n hp cells slots (pc + 3) lv st) : hv_W G p l e R s m args below meth c nL Q n hp cells slots pc lv (.int x :: st) := fun H locs ls h1 h2 h3 h4 => lv_if_eq X.1 X.2.1 hd ht (fun q => kt q H locs ls h1 h2 h3 h4) (fun q => kf q H locs ls h1 h2 h3 h4)
theorem hw_ifS_eq (X : hv_X G p s m args c Ts own cc nL) {j : UInt32} {x : Int32} {off : Int} {tgt : Nat} (hd : decode cc pc = .ok (.ifCond .eq off, 3)) (ht : (pc : Int) + off = (tgt : Int)) (hj : G.2.1 j.toNat = x) (kt : x = 0 → hv_W G p l e R s m args below meth c nL Q n hp cells slots tgt lv st) (kf : ¬ x = 0 → hv_W G p l e R s m args below meth c nL Q n hp cells slots (pc + 3) lv st) : hv_W G p l e R s m args below meth c nL Q n hp cells slots pc lv (.float j :: st) := by
  subst hj
  exact fun H locs ls h1 h2 h3 h4 => lv_if_eq X.1 X.2.1 hd ht (fun q => kt q H locs ls h1 h2 h3 h4) (fun q => kf q H locs ls h1 h2 h3 h4)
theorem hw_icmp_eq (X : hv_X G p s m args c Ts own cc nL) {x y : Int32} {off : Int} {tgt : Nat} (hd : decode cc pc = .ok (.if_icmp .eq off, 3)) (ht : (pc : Int) + off = (tgt : Int)) (kt : x = y → hv_W G p l e R s m args below meth c nL Q n hp cells slots tgt lv st) (kf : ¬ x = y → hv_W G p l e R s m args below meth c nL Q n hp cells slots (pc + 3) lv st) : hv_W G p l e R s m args below meth c nL Q n hp cells slots pc lv (.int y :: .int x :: st) := fun H locs ls h1 h2 h3 h4 => lv_icmp_eq X.1 X.2.1 hd ht (fun q => kt q H locs ls h1 h2 h3 h4) (fun q => kf q H locs ls h1 h2 h3 h4)
theorem hw_icmpSI_eq (X : hv_X G p s m args c Ts own cc nL) {jx : UInt32} {x y : Int32} {off : Int} {tgt : Nat} (hd : decode cc pc = .ok (.if_icmp .eq off, 3)) (ht : (pc : Int) + off = (tgt : Int)) (hj : G.2.1 jx.toNat = x) (kt : x = y → hv_W G p l e R s m args below meth c nL Q n hp cells slots tgt lv st) (kf : ¬ x = y → hv_W G p l e R s m args below meth c nL Q n hp cells slots (pc + 3) lv st) : hv_W G p l e R s m args below meth c nL Q n hp cells slots pc lv (.int y :: .float jx :: st) := by
  subst hj
  exact fun H locs ls h1 h2 h3 h4 => lv_icmp_eq X.1 X.2.1 hd ht (fun q => kt q H locs ls h1 h2 h3 h4) (fun q => kf q H locs ls h1 h2 h3 h4)
theorem hw_icmpIS_eq (X : hv_X G p s m args c Ts own cc nL) {jy : UInt32} {x y : Int32} {off : Int} {tgt : Nat} (hd : decode cc pc = .ok (.if_icmp .eq off, 3)) (ht : (pc : Int) + off = (tgt : Int)) (hj : G.2.1 jy.toNat = y) (kt : x = y → hv_W G p l e R s m args below meth c nL Q n hp cells slots tgt lv st) (kf : ¬ x = y → hv_W G p l e R s m args below meth c nL Q n hp cells slots (pc + 3) lv st) : hv_W G p l e R s m args below meth c nL Q n hp cells slots pc lv (.float jy :: .int x :: st) := by
  subst hj
  exact fun H locs ls h1 h2 h3 h4 => lv_icmp_eq X.1 X.2.1 hd ht (fun q => kt q H locs ls h1 h2 h3 h4) (fun q => kf q H locs ls h1 h2 h3 h4)
theorem hw_if_ne (X : hv_X G p s m args c Ts own cc nL) {x : Int32} {off : Int} {tgt : Nat} (hd : decode cc pc = .ok (.ifCond .ne off, 3)) (ht : (pc : Int) + off = (tgt : Int)) (kt : ¬ x = 0 → hv_W G p l e R s m args below meth c nL Q n hp cells slots tgt lv st) (kf : x = 0 → hv_W G p l e R s m args below meth c nL Q n hp cells slots (pc + 3) lv st) : hv_W G p l e R s m args below meth c nL Q n hp cells slots pc lv (.int x :: st) := fun H locs ls h1 h2 h3 h4 => lv_if_ne X.1 X.2.1 hd ht (fun q => kt q H locs ls h1 h2 h3 h4) (fun q => kf q H locs ls h1 h2 h3 h4)
theorem hw_ifS_ne (X : hv_X G p s m args c Ts own cc nL) {j : UInt32} {x : Int32} {off : Int} {tgt : Nat} (hd : decode cc pc = .ok (.ifCond .ne off, 3)) (ht : (pc : Int) + off = (tgt : Int)) (hj : G.2.1 j.toNat = x) (kt : ¬ x = 0 → hv_W G p l e R s m args below meth c nL Q n hp cells slots tgt lv st) (kf : x = 0 → hv_W G p l e R s m args below meth c nL Q n hp cells slots (pc + 3) lv st) : hv_W G p l e R s m args below meth c nL Q n hp cells slots pc lv (.float j :: st) := by
  subst hj
  exact fun H locs ls h1 h2 h3 h4 => lv_if_ne X.1 X.2.1 hd ht (fun q => kt q H locs ls h1 h2 h3 h4) (fun q => kf q H locs ls h1 h2 h3 h4)
theorem hw_icmp_ne (X : hv_X G p s m args c Ts own cc nL) {x y : Int32} {off : Int} {tgt : Nat} (hd : decode cc pc = .ok (.if_icmp .ne off, 3)) (ht : (pc : Int) + off = (tgt : Int)) (kt : ¬ x = y → hv_W G p l e R s m args below meth c nL Q n hp cells slots tgt lv st) (kf : x = y → hv_W G p l e R s m args below meth c nL Q n hp cells slots (pc + 3) lv st) : hv_W G p l e R s m args below meth c nL Q n hp cells slots pc lv (.int y :: .int x :: st) := fun H locs ls h1 h2 h3 h4 => lv_icmp_ne X.1 X.2.1 hd ht (fun q => kt q H locs ls h1 h2 h3 h4) (fun q => kf q H locs ls h1 h2 h3 h4)
theorem hw_icmpSI_ne (X : hv_X G p s m args c Ts own cc nL) {jx : UInt32} {x y : Int32} {off : Int} {tgt : Nat} (hd : decode cc pc = .ok (.if_icmp .ne off, 3)) (ht : (pc : Int) + off = (tgt : Int)) (hj : G.2.1 jx.toNat = x) (kt : ¬ x = y → hv_W G p l e R s m args below meth c nL Q n hp cells slots tgt lv st) (kf : x = y → hv_W G p l e R s m args below meth c nL Q n hp cells slots (pc + 3) lv st) : hv_W G p l e R s m args below meth c nL Q n hp cells slots pc lv (.int y :: .float jx :: st) := by
  subst hj
  exact fun H locs ls h1 h2 h3 h4 => lv_icmp_ne X.1 X.2.1 hd ht (fun q => kt q H locs ls h1 h2 h3 h4) (fun q => kf q H locs ls h1 h2 h3 h4)
theorem hw_icmpIS_ne (X : hv_X G p s m args c Ts own cc nL) {jy : UInt32} {x y : Int32} {off : Int} {tgt : Nat} (hd : decode cc pc = .ok (.if_icmp .ne off, 3)) (ht : (pc : Int) + off = (tgt : Int)) (hj : G.2.1 jy.toNat = y) (kt : ¬ x = y → hv_W G p l e R s m args below meth c nL Q n hp cells slots tgt lv st) (kf : x = y → hv_W G p l e R s m args below meth c nL Q n hp cells slots (pc + 3) lv st) : hv_W G p l e R s m args below meth c nL Q n hp cells slots pc lv (.float jy :: .int x :: st) := by
  subst hj
  exact fun H locs ls h1 h2 h3 h4 => lv_icmp_ne X.1 X.2.1 hd ht (fun q => kt q H locs ls h1 h2 h3 h4) (fun q => kf q H locs ls h1 h2 h3 h4)
theorem hw_if_lt (X : hv_X G p s m args c Ts own cc nL) {x : Int32} {off : Int} {tgt : Nat} (hd : decode cc pc = .ok (.ifCond .lt off, 3)) (ht : (pc : Int) + off = (tgt : Int)) (kt : x < 0 → hv_W G p l e R s m args below meth c nL Q n hp cells slots tgt lv st) (kf : ¬ x < 0 → hv_W G p l e R s m args below meth c nL Q n hp cells slots (pc + 3) lv st) : hv_W G p l e R s m args below meth c nL Q n hp cells slots pc lv (.int x :: st) := fun H locs ls h1 h2 h3 h4 => lv_if_lt X.1 X.2.1 hd ht (fun q => kt q H locs ls h1 h2 h3 h4) (fun q => kf q H locs ls h1 h2 h3 h4)
theorem hw_ifS_lt (X : hv_X G p s m args c Ts own cc nL) {j : UInt32} {x : Int32} {off : Int} {tgt : Nat} (hd : decode cc pc = .ok (.ifCond .lt off, 3)) (ht : (pc : Int) + off = (tgt : Int)) (hj : G.2.1 j.toNat = x) (kt : x < 0 → hv_W G p l e R s m args below meth c nL Q n hp cells slots tgt lv st) (kf : ¬ x < 0 → hv_W G p l e R s m args below meth c nL Q n hp cells slots (pc + 3) lv st) : hv_W G p l e R s m args below meth c nL Q n hp cells slots pc lv (.float j :: st) := by
  subst hj
  exact fun H locs ls h1 h2 h3 h4 => lv_if_lt X.1 X.2.1 hd ht (fun q => kt q H locs ls h1 h2 h3 h4) (fun q => kf q H locs ls h1 h2 h3 h4)
theorem hw_icmp_lt (X : hv_X G p s m args c Ts own cc nL) {x y : Int32} {off : Int} {tgt : Nat} (hd : decode cc pc = .ok (.if_icmp .lt off, 3)) (ht : (pc : Int) + off = (tgt : Int)) (kt : x < y → hv_W G p l e R s m args below meth c nL Q n hp cells slots tgt lv st) (kf : ¬ x < y → hv_W G p l e R s m args below meth c nL Q n hp cells slots (pc + 3) lv st) : hv_W G p l e R s m args below meth c nL Q n hp cells slots pc lv (.int y :: .int x :: st) := fun H locs ls h1 h2 h3 h4 => lv_icmp_lt X.1 X.2.1 hd ht (fun q => kt q H locs ls h1 h2 h3 h4) (fun q => kf q H locs ls h1 h2 h3 h4)
theorem hw_icmpSI_lt (X : hv_X G p s m args c Ts own cc nL) {jx : UInt32} {x y : Int32} {off : Int} {tgt : Nat} (hd : decode cc pc = .ok (.if_icmp .lt off, 3)) (ht : (pc : Int) + off = (tgt : Int)) (hj : G.2.1 jx.toNat = x) (kt : x < y → hv_W G p l e R s m args below meth c nL Q n hp cells slots tgt lv st) (kf : ¬ x < y → hv_W G p l e R s m args below meth c nL Q n hp cells slots (pc + 3) lv st) : hv_W G p l e R s m args below meth c nL Q n hp cells slots pc lv (.int y :: .float jx :: st) := by
  subst hj
  exact fun H locs ls h1 h2 h3 h4 => lv_icmp_lt X.1 X.2.1 hd ht (fun q => kt q H locs ls h1 h2 h3 h4) (fun q => kf q H locs ls h1 h2 h3 h4)
theorem hw_icmpIS_lt (X : hv_X G p s m args c Ts own cc nL) {jy : UInt32} {x y : Int32} {off : Int} {tgt : Nat} (hd : decode cc pc = .ok (.if_icmp .lt off, 3)) (ht : (pc : Int) + off = (tgt : Int)) (hj : G.2.1 jy.toNat = y) (kt : x < y → hv_W G p l e R s m args below meth c nL Q n hp cells slots tgt lv st) (kf : ¬ x < y → hv_W G p l e R s m args below meth c nL Q n hp cells slots (pc + 3) lv st) : hv_W G p l e R s m args below meth c nL Q n hp cells slots pc lv (.float jy :: .int x :: st) := by
  subst hj
  exact fun H locs ls h1 h2 h3 h4 => lv_icmp_lt X.1 X.2.1 hd ht (fun q => kt q H locs ls h1 h2 h3 h4) (fun q => kf q H locs ls h1 h2 h3 h4)
theorem hw_if_ge (X : hv_X G p s m args c Ts own cc nL) {x : Int32} {off : Int} {tgt : Nat} (hd : decode cc pc = .ok (.ifCond .ge off, 3)) (ht : (pc : Int) + off = (tgt : Int)) (kt : 0 ≤ x → hv_W G p l e R s m args below meth c nL Q n hp cells slots tgt lv st) (kf : ¬ 0 ≤ x → hv_W G p l e R s m args below meth c nL Q n hp cells slots (pc + 3) lv st) : hv_W G p l e R s m args below meth c nL Q n hp cells slots pc lv (.int x :: st) := fun H locs ls h1 h2 h3 h4 => lv_if_ge X.1 X.2.1 hd ht (fun q => kt q H locs ls h1 h2 h3 h4) (fun q => kf q H locs ls h1 h2 h3 h4)
theorem hw_ifS_ge (X : hv_X G p s m args c Ts own cc nL) {j : UInt32} {x : Int32} {off : Int} {tgt : Nat} (hd : decode cc pc = .ok (.ifCond .ge off, 3)) (ht : (pc : Int) + off = (tgt : Int)) (hj : G.2.1 j.toNat = x) (kt : 0 ≤ x → hv_W G p l e R s m args below meth c nL Q n hp cells slots tgt lv st) (kf : ¬ 0 ≤ x → hv_W G p l e R s m args below meth c nL Q n hp cells slots (pc + 3) lv st) : hv_W G p l e R s m args below meth c nL Q n hp cells slots pc lv (.float j :: st) := by
  subst hj
  exact fun H locs ls h1 h2 h3 h4 => lv_if_ge X.1 X.2.1 hd ht (fun q => kt q H locs ls h1 h2 h3 h4) (fun q => kf q H locs ls h1 h2 h3 h4)
theorem hw_icmp_ge (X : hv_X G p s m args c Ts own cc nL) {x y : Int32} {off : Int} {tgt : Nat} (hd : decode cc pc = .ok (.if_icmp .ge off, 3)) (ht : (pc : Int) + off = (tgt : Int)) (kt : y ≤ x → hv_W G p l e R s m args below meth c nL Q n hp cells slots tgt lv st) (kf : ¬ y ≤ x → hv_W G p l e R s m args below meth c nL Q n hp cells slots (pc + 3) lv st) : hv_W G p l e R s m args below meth c nL Q n hp cells slots pc lv (.int y :: .int x :: st) := fun H locs ls h1 h2 h3 h4 => lv_icmp_ge X.1 X.2.1 hd ht (fun q => kt q H locs ls h1 h2 h3 h4) (fun q => kf q H locs ls h1 h2 h3 h4)
theorem hw_icmpSI_ge (X : hv_X G p s m args c Ts own cc nL) {jx : UInt32} {x y : Int32} {off : Int} {tgt : Nat} (hd : decode cc pc = .ok (.if_icmp .ge off, 3)) (ht : (pc : Int) + off = (tgt : Int)) (hj : G.2.1 jx.toNat = x) (kt : y ≤ x → hv_W G p l e R s m args below meth c nL Q n hp cells slots tgt lv st) (kf : ¬ y ≤ x → hv_W G p l e R s m args below meth c nL Q n hp cells slots (pc + 3) lv st) : hv_W G p l e R s m args below meth c nL Q n hp cells slots pc lv (.int y :: .float jx :: st) := by
  subst hj
  exact fun H locs ls h1 h2 h3 h4 => lv_icmp_ge X.1 X.2.1 hd ht (fun q => kt q H locs ls h1 h2 h3 h4) (fun q => kf q H locs ls h1 h2 h3 h4)
theorem hw_icmpIS_ge (X : hv_X G p s m args c Ts own cc nL) {jy : UInt32} {x y : Int32} {off : Int} {tgt : Nat} (hd : decode cc pc = .ok (.if_icmp .ge off, 3)) (ht : (pc : Int) + off = (tgt : Int)) (hj : G.2.1 jy.toNat = y) (kt : y ≤ x → hv_W G p l e R s m args below meth c nL Q n hp cells slots tgt lv st) (kf : ¬ y ≤ x → hv_W G p l e R s m args below meth c nL Q n hp cells slots (pc + 3) lv st) : hv_W G p l e R s m args below meth c nL Q n hp cells slots pc lv (.float jy :: .int x :: st) := by
  subst hj
  exact fun H locs ls h1 h2 h3 h4 => lv_icmp_ge X.1 X.2.1 hd ht (fun q => kt q H locs ls h1 h2 h3 h4) (fun q => kf q H locs ls h1 h2 h3 h4)
theorem hw_if_gt (X : hv_X G p s m args c Ts own cc nL) {x : Int32} {off : Int} {tgt : Nat} (hd : decode cc pc = .ok (.ifCond .gt off, 3)) (ht : (pc : Int) + off = (tgt : Int)) (kt : 0 < x → hv_W G p l e R s m args below meth c nL Q n hp cells slots tgt lv st) (kf : ¬ 0 < x → hv_W G p l e R s m args below meth c nL Q n hp cells slots (pc + 3) lv st) : hv_W G p l e R s m args below meth c nL Q n hp cells slots pc lv (.int x :: st) := fun H locs ls h1 h2 h3 h4 => lv_if_gt X.1 X.2.1 hd ht (fun q => kt q H locs ls h1 h2 h3 h4) (fun q => kf q H locs ls h1 h2 h3 h4)
theorem hw_ifS_gt (X : hv_X G p s m args c Ts own cc nL) {j : UInt32} {x : Int32} {off : Int} {tgt : Nat} (hd : decode cc pc = .ok (.ifCond .gt off, 3)) (ht : (pc : Int) + off = (tgt : Int)) (hj : G.2.1 j.toNat = x) (kt : 0 < x → hv_W G p l e R s m args below meth c nL Q n hp cells slots tgt lv st) (kf : ¬ 0 < x → hv_W G p l e R s m args below meth c nL Q n hp cells slots (pc + 3) lv st) : hv_W G p l e R s m args below meth c nL Q n hp cells slots pc lv (.float j :: st) := by
  subst hj
  exact fun H locs ls h1 h2 h3 h4 => lv_if_gt X.1 X.2.1 hd ht (fun q => kt q H locs ls h1 h2 h3 h4) (fun q => kf q H locs ls h1 h2 h3 h4)
theorem hw_icmp_gt (X : hv_X G p s m args c Ts own cc nL) {x y : Int32} {off : Int} {tgt : Nat} (hd : decode cc pc = .ok (.if_icmp .gt off, 3)) (ht : (pc : Int) + off = (tgt : Int)) (kt : y < x → hv_W G p l e R s m args below meth c nL Q n hp cells slots tgt lv st) (kf : ¬ y < x → hv_W G p l e R s m args below meth c nL Q n hp cells slots (pc + 3) lv st) : hv_W G p l e R s m args below meth c nL Q n hp cells slots pc lv (.int y :: .int x :: st) := fun H locs ls h1 h2 h3 h4 => lv_icmp_gt X.1 X.2.1 hd ht (fun q => kt q H locs ls h1 h2 h3 h4) (fun q => kf q H locs ls h1 h2 h3 h4)
theorem hw_icmpSI_gt (X : hv_X G p s m args c Ts own cc nL) {jx : UInt32} {x y : Int32} {off : Int} {tgt : Nat} (hd : decode cc pc = .ok (.if_icmp .gt off, 3)) (ht : (pc : Int) + off = (tgt : Int)) (hj : G.2.1 jx.toNat = x) (kt : y < x → hv_W G p l e R s m args below meth c nL Q n hp cells slots tgt lv st) (kf : ¬ y < x → hv_W G p l e R s m args below meth c nL Q n hp cells slots (pc + 3) lv st) : hv_W G p l e R s m args below meth c nL Q n hp cells slots pc lv (.int y :: .float jx :: st) := by
  subst hj
  exact fun H locs ls h1 h2 h3 h4 => lv_icmp_gt X.1 X.2.1 hd ht (fun q => kt q H locs ls h1 h2 h3 h4) (fun q => kf q H locs ls h1 h2 h3 h4)
theorem hw_icmpIS_gt (X : hv_X G p s m args c Ts own cc nL) {jy : UInt32} {x y : Int32} {off : Int} {tgt : Nat} (hd : decode cc pc = .ok (.if_icmp .gt off, 3)) (ht : (pc : Int) + off = (tgt : Int)) (hj : G.2.1 jy.toNat = y) (kt : y < x → hv_W G p l e R s m args below meth c nL Q n hp cells slots tgt lv st) (kf : ¬ y < x → hv_W G p l e R s m args below meth c nL Q n hp cells slots (pc + 3) lv st) : hv_W G p l e R s m args below meth c nL Q n hp cells slots pc lv (.float jy :: .int x :: st) := by
  subst hj
  exact fun H locs ls h1 h2 h3 h4 => lv_icmp_gt X.1 X.2.1 hd ht (fun q => kt q H locs ls h1 h2 h3 h4) (fun q => kf q H locs ls h1 h2 h3 h4)
theorem hw_if_le (X : hv_X G p s m args c Ts own cc nL) {x : Int32} {off : Int} {tgt : Nat} (hd : decode cc pc = .ok (.ifCond .le off, 3)) (ht : (pc : Int) + off = (tgt : Int)) (kt : x ≤ 0 → hv_W G p l e R s m args below meth c nL Q n hp cells slots tgt lv st) (kf : ¬ x ≤ 0 → hv_W G p l e R s m args below meth c nL Q n hp cells slots (pc + 3) lv st) : hv_W G p l e R s m args below meth c nL Q n hp cells slots pc lv (.int x :: st) := fun H locs ls h1 h2 h3 h4 => lv_if_le X.1 X.2.1 hd ht (fun q => kt q H locs ls h1 h2 h3 h4) (fun q => kf q H locs ls h1 h2 h3 h4)
theorem hw_ifS_le (X : hv_X G p s m args c Ts own cc nL) {j : UInt32} {x : Int32} {off : Int} {tgt : Nat} (hd : decode cc pc = .ok (.ifCond .le off, 3)) (ht : (pc : Int) + off = (tgt : Int)) (hj : G.2.1 j.toNat = x) (kt : x ≤ 0 → hv_W G p l e R s m args below meth c nL Q n hp cells slots tgt lv st) (kf : ¬ x ≤ 0 → hv_W G p l e R s m args below meth c nL Q n hp cells slots (pc + 3) lv st) : hv_W G p l e R s m args below meth c nL Q n hp cells slots pc lv (.float j :: st) := by
  subst hj
  exact fun H locs ls h1 h2 h3 h4 => lv_if_le X.1 X.2.1 hd ht (fun q => kt q H locs ls h1 h2 h3 h4) (fun q => kf q H locs ls h1 h2 h3 h4)
theorem hw_icmp_le (X : hv_X G p s m args c Ts own cc nL) {x y : Int32} {off : Int} {tgt : Nat} (hd : decode cc pc = .ok (.if_icmp .le off, 3)) (ht : (pc : Int) + off = (tgt : Int)) (kt : x ≤ y → hv_W G p l e R s m args below meth c nL Q n hp cells slots tgt lv st) (kf : ¬ x ≤ y → hv_W G p l e R s m args below meth c nL Q n hp cells slots (pc + 3) lv st) : hv_W G p l e R s m args below meth c nL Q n hp cells slots pc lv (.int y :: .int x :: st) := fun H locs ls h1 h2 h3 h4 => lv_icmp_le X.1 X.2.1 hd ht (fun q => kt q H locs ls h1 h2 h3 h4) (fun q => kf q H locs ls h1 h2 h3 h4)
theorem hw_icmpSI_le (X : hv_X G p s m args c Ts own cc nL) {jx : UInt32} {x y : Int32} {off : Int} {tgt : Nat} (hd : decode cc pc = .ok (.if_icmp .le off, 3)) (ht : (pc : Int) + off = (tgt : Int)) (hj : G.2.1 jx.toNat = x) (kt : x ≤ y → hv_W G p l e R s m args below meth c nL Q n hp cells slots tgt lv st) (kf : ¬ x ≤ y → hv_W G p l e R s m args below meth c nL Q n hp cells slots (pc + 3) lv st) : hv_W G p l e R s m args below meth c nL Q n hp cells slots pc lv (.int y :: .float jx :: st) := by
  subst hj
  exact fun H locs ls h1 h2 h3 h4 => lv_icmp_le X.1 X.2.1 hd ht (fun q => kt q H locs ls h1 h2 h3 h4) (fun q => kf q H locs ls h1 h2 h3 h4)
theorem hw_icmpIS_le (X : hv_X G p s m args c Ts own cc nL) {jy : UInt32} {x y : Int32} {off : Int} {tgt : Nat} (hd : decode cc pc = .ok (.if_icmp .le off, 3)) (ht : (pc : Int) + off = (tgt : Int)) (hj : G.2.1 jy.toNat = y) (kt : x ≤ y → hv_W G p l e R s m args below meth c nL Q n hp cells slots tgt lv st) (kf : ¬ x ≤ y → hv_W G p l e R s m args below meth c nL Q n hp cells slots (pc + 3) lv st) : hv_W G p l e R s m args below meth c nL Q n hp cells slots pc lv (.float jy :: .int x :: st) := by
  subst hj
  exact fun H locs ls h1 h2 h3 h4 => lv_icmp_le X.1 X.2.1 hd ht (fun q => kt q H locs ls h1 h2 h3 h4) (fun q => kf q H locs ls h1 h2 h3 h4)
theorem hw_goto (X : hv_X G p s m args c Ts own cc nL) {off : Int} {tgt : Nat} (hd : decode cc pc = .ok (.goto off, 3)) (ht : (pc : Int) + off = (tgt : Int)) (k : hv_W G p l e R s m args below meth c nL Q n hp cells slots tgt lv st) : hv_W G p l e R s m args below meth c nL Q n hp cells slots pc lv st := fun H locs ls h1 h2 h3 h4 => lv_goto X.1 X.2.1 hd ht (k H locs ls h1 h2 h3 h4)
theorem hw_tableOut (X : hv_X G p s m args c Ts own cc nL) {dflt lo hi : Int} {offs : Array Int} {len : Nat} {x : Int32} {tgt : Nat} (hd : decode cc pc = .ok (.tableswitch dflt lo hi offs, len)) (h : x.toInt < lo ∨ hi < x.toInt) (ht : (pc : Int) + dflt = (tgt : Int)) (k : hv_W G p l e R s m args below meth c nL Q n hp cells slots tgt lv st) : hv_W G p l e R s m args below meth c nL Q n hp cells slots pc lv (.int x :: st) := fun H locs ls h1 h2 h3 h4 => lv_tableOut X.1 X.2.1 hd h ht (k H locs ls h1 h2 h3 h4)
theorem hw_tableIn (X : hv_X G p s m args c Ts own cc nL) {dflt lo hi : Int} {offs : Array Int} {len : Nat} {x : Int32} {off : Int} {tgt : Nat} (hd : decode cc pc = .ok (.tableswitch dflt lo hi offs, len)) (g1 : ¬ x.toInt < lo) (g2 : ¬ hi < x.toInt) (ho : offs[(x.toInt - lo).toNat]? = some off) (ht : (pc : Int) + off = (tgt : Int)) (k : hv_W G p l e R s m args below meth c nL Q n hp cells slots tgt lv st) : hv_W G p l e R s m args below meth c nL Q n hp cells slots pc lv (.int x :: st) := fun H locs ls h1 h2 h3 h4 => lv_tableIn X.1 X.2.1 hd g1 g2 ho ht (k H locs ls h1 h2 h3 h4)
theorem hw_tableOutS (X : hv_X G p s m args c Ts own cc nL) {dflt lo hi : Int} {offs : Array Int} {len : Nat} {j : UInt32} {tgt : Nat} (hd : decode cc pc = .ok (.tableswitch dflt lo hi offs, len)) (h : (G.2.1 j.toNat).toInt < lo ∨ hi < (G.2.1 j.toNat).toInt) (ht : (pc : Int) + dflt = (tgt : Int)) (k : hv_W G p l e R s m args below meth c nL Q n hp cells slots tgt lv st) : hv_W G p l e R s m args below meth c nL Q n hp cells slots pc lv (.float j :: st) := fun H locs ls h1 h2 h3 h4 => lv_tableOut X.1 X.2.1 hd h ht (k H locs ls h1 h2 h3 h4)
end HW
