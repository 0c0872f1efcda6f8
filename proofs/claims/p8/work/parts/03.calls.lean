/-! CONTRACTS: a method at a world and its arguments, by the words gw that every state keeps -/
def hv_keep (w : Cond) : Bool := match w with
  | .fieldLinkNest .. => true
  | .methodLinkNest .. => true
  | .arrayOver (.object _) => true
  | .arrayOver (.array _) => true
  | .arrayClass _ => true
  | w => w.onTables && w.keeps
theorem hv_keeps {w : Cond} (h : hv_keep w = true) {args a' : Array Value} {s U : State} (hW : s.WarmedH U.vm) (hb : w.before args s = true) : w.before a' U = true := by
  unfold hv_keep at h
  split at h
  · exact va_Nw.use rfl (va_Nw.warmF hW (va_Nw.of rfl hb))
  · exact va_Nw.use rfl (va_Nw.warmM hW (va_Nw.of rfl hb))
  · exact va_AO.use (va_AO.moved hW.alike (va_AO.of hb))
  · exact Jvm.Stand.arrayOver_alikeB hW.alike hb
  · exact word_at hW (Or.inr ⟨_, rfl⟩) hb
  · exact word_at hW (Or.inl h) hb
def hv_Pc (G : hv_G) (n : Nat) (hp : hv_H) (as : List Value) : Array Value → State → Prop := fun v U => v = (as.map (hv_v G)).toArray ∧ hv_P G n hp U.heap ∧ va_K G.2.2.1 vwCl (hv_tys G) U ∧ G.1.2.1 < G.1.1 ∧ hx_K G U ∧ va_X G.1.2.1 G.1.2.2 G.2.1 U U.heap
def hv_Qc (G : hv_G) (n : Nat) (hp : hv_H) (r : Option Value) : Array Value → State → Outcome → State → Prop := fun _ st o t => o = .returned (r.map (hv_v G)) ∧ hv_P G n hp t.heap ∧ ∀ q : Nat, q < G.1.1 → t.heap[q]? = st.heap[q]?
def hv_C (G : hv_G) (gw : List Cond) (l : Launch) (y : MethodName) (bytes : ByteArray) (maxL : Nat) (ret : Option FieldType) (fr lo : Nat) (n : Nat) (hp : hv_H) (as : List Value) (r : Option Value) (n' : Nat) (hp' : hv_H) (mc ms : Nat) : Prop :=
  Met l y (.code y bytes maxL ret :: gw) { frames := fr, cells := mc, slots := ms, locals := lo } (hv_Pc G n hp as) (hv_Qc G n' hp' r) mc ms (fun q => G.1.1 ≤ q)
theorem hv_blind (G : hv_G) (n : Nat) (hp : hv_H) (as : List Value) : FrameBlind (hv_Pc G n hp as) := by
  intro a U g mk h
  obtain ⟨h1, h2, h3, h4, h6, h5⟩ := h
  exact ⟨h1, h2, va_K.moved (u := U) (U := U.calling g mk a) (Vm.Alike.refl U.vm) h3, h4, h6, va_X.moved (u := U) (U := U.calling g mk a) (Vm.Alike.refl U.vm) h5⟩
section HWC
variable {G : hv_G} {p : Program} {l : Launch} {e : Env} {R : Room} {s : State} {m : MethodId} {args : Array Value} {below : List Frame} {meth : Method} {c : Code} {nL : Nat} {Q : State → Prop} {n : Nat} {hp : hv_H} {cells slots pc : Nat} {lv : List (Nat × Value)} {st : List Value} {Ts : List Cond} {own : String} {cc : ByteArray}
theorem hv_pre (X : hv_X G p s m args c Ts own cc nL) {H : Heap} (h1 : hv_P G n hp H) (h2 : ∀ q : Nat, q < G.1.1 → H[q]? = s.heap[q]?) (as : List Value) : ∀ U : State, U.heap = H → s.WarmedH U.vm → hv_Pc G n hp as (as.map (hv_v G)).toArray U := by
  intro U hU hW
  obtain ⟨hx, hb, hml, hown, hts, hK, hB, hbB, hxK, hX⟩ := X
  refine ⟨rfl, by rw [hU]; exact h1, va_K.moved hW.alike hK, hbB, hxK.moved hW (fun q hq => by rw [hU]; exact h2 q hq), ?_⟩
  rw [hU]
  exact va_X.moved hW.alike (va_X.kept hX (h2 _ hbB))
/-- behind a call: what came back, the world as the contract has it -/
theorem hw_back {as : Array Value} {r : Option Value} {n' : Nat} {hp' : hv_H} {mc ms : Nat} {ls : Array Slot} {st0 : List Value} {H : Heap} {locs : List Loc}
    (hr : va_Run p l e R s m args below meth c H locs cells slots mc ms (F0 m pc ls st0) (st.map (hv_v G)) (hv_Qc G n' hp' r as) (fun q => G.1.1 ≤ q)) (h2 : ∀ q : Nat, q < G.1.1 → H[q]? = s.heap[q]?) (h3 : ∀ q ∈ locs, G.1.1 ≤ q.base) (h4 : lv_has ls nL (hv_l G lv))
    (k : hv_W G p l e R s m args below meth c nL Q n' hp' (cells + mc) (slots + ms) (pc + 3) lv (r.toList ++ st)) : W p l e R s m args below meth c H locs cells slots Q (F0 m pc ls st0) := by
  intro T hT XX
  obtain ⟨v, st₀, t, T', L, h0, X', hL, e1, e2, ⟨hv, hp1, hq⟩, stp⟩ := hr T hT XX
  cases hv
  have k1 := k T'.heap (locs ++ L) ls (by rw [e1]; exact hp1) (fun q hq1 => by rw [e1, hq q hq1, h0]; exact h2 q hq1) (fun q hq1 => by
      rcases List.mem_append.mp hq1 with h | h
      · exact h3 q h
      · exact hL q h) h4
  have er : (r.toList ++ st).map (hv_v G) = (r.map (hv_v G)).toList ++ st.map (hv_v G) := by cases r <;> simp
  rw [er] at k1
  obtain ⟨t2, a1, b1⟩ := k1 T' rfl X'
  exact ⟨t2, stp t2 a1, b1⟩
theorem hv_callB (X : hv_X G p s m args c Ts own cc nL) {gw : List Cond} {y : MethodName} {bytes : ByteArray} {maxL : Nat} {ret : Option FieldType} {fr lo mc ms ix na : Nat} (hgw : ∀ w ∈ gw, w ∈ Ts) (hkp : ∀ w ∈ gw, hv_keep w = true) (hcode : Cond.code y bytes maxL ret ∈ gw) (hini : Cond.initialized y.cls ∈ Ts) (hlink : Cond.methodLink own ix y ∈ Ts)
    (hy : y.cls ≠ "java/lang/invoke/MethodHandle" ∧ y.cls ≠ "java/lang/invoke/VarHandle") (hna : (parseMethodDescriptor y.desc).map (fun d => d.parameters.length) = some na) (hfr : fr + 1 ≤ R.frames) (hlo : 8 + (maxL + 11) + lo ≤ R.locals) :
    CallB R s args own ix y bytes maxL ret (.code y bytes maxL ret :: gw) { frames := fr, cells := mc, slots := ms, locals := lo } mc ms na := by
  have hts := X.2.2.2.2.1
  refine ⟨rfl, rfl, hfr, hlo, ?_, List.mem_cons_self, hts _ (hgw _ hcode), hts _ hini, hy, ?_, hts _ hlink⟩
  · intro w hw a' U hW
    have hw' : w ∈ gw := by
      rcases List.mem_cons.mp hw with h | h
      · rw [h]; exact hcode
      · exact h
    exact hv_keeps (hkp w hw') hW (hts _ (hgw w hw'))
  · intro sig h
    rw [h] at hna
    exact (Option.some.inj hna).symm
theorem hw_callV (X : hv_X G p s m args c Ts own cc nL) {gw : List Cond} {y : MethodName} {bytes : ByteArray} {maxL : Nat} {ret : Option FieldType} {fr lo mc ms ix na n' i ci : Nat} {hp' : hv_H} {r : Option Value} {as : List Value} {rc : vw_C} {f : Nat → Value} (hM : hv_C G gw l y bytes maxL ret fr lo n hp (.ref (i + 1) :: as) r n' hp' mc ms)
    (hd : decode cc pc = .ok (.invokevirtual ix, 3)) (hgw : ∀ w ∈ gw, w ∈ Ts) (hkp : ∀ w ∈ gw, hv_keep w = true) (hcode : Cond.code y bytes maxL ret ∈ gw) (hini : Cond.initialized y.cls ∈ Ts) (hlink : Cond.methodLink own ix y ∈ Ts) (hinst : Cond.instanceMethod y ∈ Ts) (hsel : Cond.selects rc.1 y y ∈ Ts)
    (hy : y.cls ≠ "java/lang/invoke/MethodHandle" ∧ y.cls ≠ "java/lang/invoke/VarHandle") (hna : (parseMethodDescriptor y.desc).map (fun d => d.parameters.length) = some na) (hal : as.length = na) (hi : hp i = some (.inr (ci, f))) (hc : vwCl[ci]? = some rc) (hfr : fr + 1 ≤ R.frames) (hlo : 8 + (maxL + 11) + lo ≤ R.locals) (hst : (st.map fun v => v.category).sum ≤ 8) (hcc : cells + mc ≤ R.cells) (hss : slots + ms ≤ R.slots)
    (k : hv_W G p l e R s m args below meth c nL Q n' hp' (cells + mc) (slots + ms) (pc + 3) lv (r.toList ++ st)) : hv_W G p l e R s m args below meth c nL Q n hp cells slots pc lv (as.reverse ++ .ref (i + 1) :: st) := by
  intro H locs ls h1 h2 h3 h4
  have hB := hv_callB X (mc := mc) (ms := ms) hgw hkp hcode hini hlink hy hna hfr hlo
  obtain ⟨r', hr', cell, q1, q2, q3, -⟩ := h1.2 i _ hi
  have hcl := ((X.2.2.2.2.2.1).1 ci rc hc).2.1
  refine hw_back (va_runV (As := as.map (hv_v G)) (b := G.1.1 + i) (rest := st.map (hv_v G)) ⟨X.1, X.2.1, X.2.2.1, X.2.2.2.1, X.2.2.2.2.1⟩ hM ⟨hB, X.2.2.2.2.1 _ hinst, X.2.2.2.2.1 _ hsel⟩ ⟨hv_blind G n hp _, ⟨cell, q1, by rw [q3]; rfl, by rw [q2]; exact hcl⟩, hv_pre X h1 h2 (.ref (i + 1) :: as)⟩ rfl (by rw [List.length_map]; exact hal) h4.1 ?_ (lv_room (by rw [hv_cats]; exact hst)) hd ⟨hcc, hss⟩) h2 h3 h4 k
  show List.map (hv_v G) (as.reverse ++ .ref (i + 1) :: st) = _
  rw [List.map_append, List.map_reverse]
  rfl
theorem hw_callI (X : hv_X G p s m args c Ts own cc nL) {gw : List Cond} {y : MethodName} {bytes : ByteArray} {maxL : Nat} {fr lo mc ms ix na n' a : Nat} {hp' : hv_H} {r : Option Value} {as : List Value} (hM : hv_C G gw l y bytes maxL none fr lo n hp (.ref a :: as) r n' hp' mc ms)
    (hd : decode cc pc = .ok (.invokespecial ix, 3)) (hgw : ∀ w ∈ gw, w ∈ Ts) (hkp : ∀ w ∈ gw, hv_keep w = true) (hcode : Cond.code y bytes maxL none ∈ gw) (hini : Cond.initialized y.cls ∈ Ts) (hlink : Cond.methodLink own ix y ∈ Ts) (hinst : Cond.instanceMethod y ∈ Ts) (hnm : y.name = "<init>")
    (hy : y.cls ≠ "java/lang/invoke/MethodHandle" ∧ y.cls ≠ "java/lang/invoke/VarHandle") (hna : (parseMethodDescriptor y.desc).map (fun d => d.parameters.length) = some na) (hal : as.length = na) (hfr : fr + 1 ≤ R.frames) (hlo : 8 + (maxL + 11) + lo ≤ R.locals) (hst : (st.map fun v => v.category).sum ≤ 8) (hcc : cells + mc ≤ R.cells) (hss : slots + ms ≤ R.slots)
    (k : hv_W G p l e R s m args below meth c nL Q n' hp' (cells + mc) (slots + ms) (pc + 3) lv (r.toList ++ st)) : hv_W G p l e R s m args below meth c nL Q n hp cells slots pc lv (as.reverse ++ .ref a :: st) := by
  intro H locs ls h1 h2 h3 h4
  have hB := hv_callB X (mc := mc) (ms := ms) hgw hkp hcode hini hlink hy hna hfr hlo
  refine hw_back (va_runI (As := as.map (hv_v G)) (b := hv_ad G a) (rest := st.map (hv_v G)) ⟨X.1, X.2.1, X.2.2.1, X.2.2.2.1, X.2.2.2.2.1⟩ hM ⟨hB, hnm, X.2.2.2.2.1 _ hinst⟩ ⟨hv_blind G n hp _, hv_pre X h1 h2 (.ref a :: as)⟩ rfl (by rw [List.length_map]; exact hal) h4.1 ?_ (lv_room (by rw [hv_cats]; exact hst)) hd ⟨hcc, hss⟩) h2 h3 h4 k
  show List.map (hv_v G) (as.reverse ++ .ref a :: st) = _
  rw [List.map_append, List.map_reverse]
  rfl
theorem hw_callS (X : hv_X G p s m args c Ts own cc nL) {gw : List Cond} {y : MethodName} {bytes : ByteArray} {maxL : Nat} {ret : Option FieldType} {fr lo mc ms ix na n' : Nat} {hp' : hv_H} {r : Option Value} {as : List Value} (hM : hv_C G gw l y bytes maxL ret fr lo n hp as r n' hp' mc ms)
    (hd : decode cc pc = .ok (.invokestatic ix, 3)) (hgw : ∀ w ∈ gw, w ∈ Ts) (hkp : ∀ w ∈ gw, hv_keep w = true) (hcode : Cond.code y bytes maxL ret ∈ gw) (hini : Cond.initialized y.cls ∈ Ts) (hlink : Cond.methodLink own ix y ∈ Ts) (hstat : Cond.static y ∈ Ts)
    (hy : y.cls ≠ "java/lang/invoke/MethodHandle" ∧ y.cls ≠ "java/lang/invoke/VarHandle") (hna : (parseMethodDescriptor y.desc).map (fun d => d.parameters.length) = some na) (hal : as.length = na) (hfr : fr + 1 ≤ R.frames) (hlo : 8 + (maxL + 11) + lo ≤ R.locals) (hst : (st.map fun v => v.category).sum ≤ 8) (hcc : cells + mc ≤ R.cells) (hss : slots + ms ≤ R.slots)
    (k : hv_W G p l e R s m args below meth c nL Q n' hp' (cells + mc) (slots + ms) (pc + 3) lv (r.toList ++ st)) : hv_W G p l e R s m args below meth c nL Q n hp cells slots pc lv (as.reverse ++ st) := by
  intro H locs ls h1 h2 h3 h4
  have hB := hv_callB X (mc := mc) (ms := ms) hgw hkp hcode hini hlink hy hna hfr hlo
  refine hw_back (va_runS (As := as.map (hv_v G)) (rest := st.map (hv_v G)) ⟨X.1, X.2.1, X.2.2.1, X.2.2.2.1, X.2.2.2.2.1⟩ hM ⟨hB, X.2.2.2.2.1 _ hstat⟩ ⟨hv_blind G n hp _, hv_pre X h1 h2 as⟩ rfl (by rw [List.length_map]; exact hal) h4.1 ?_ (lv_room (by rw [hv_cats]; exact hst)) hd ⟨hcc, hss⟩) h2 h3 h4 k
  show List.map (hv_v G) (as.reverse ++ st) = _
  rw [List.map_append, List.map_reverse]
theorem hw_callSN (X : hv_X G p s m args c Ts own cc nL) {gw : List Cond} {y : MethodName} {bytes : ByteArray} {maxL : Nat} {ret : Option FieldType} {fr lo mc ms ix na n' : Nat} {host : String} {hp' : hv_H} {r : Option Value} {as : List Value} (hM : hv_C G gw l y bytes maxL ret fr lo n hp as r n' hp' mc ms)
    (hd : decode cc pc = .ok (.invokestatic ix, 3)) (hgw : ∀ w ∈ gw, w ∈ Ts) (hkp : ∀ w ∈ gw, hv_keep w = true) (hcode : Cond.code y bytes maxL ret ∈ gw) (hini : Cond.initialized y.cls ∈ Ts) (hlink : Cond.methodLinkNest own ix y host ∈ Ts) (hstat : Cond.static y ∈ Ts)
    (hy : y.cls ≠ "java/lang/invoke/MethodHandle" ∧ y.cls ≠ "java/lang/invoke/VarHandle") (hna : (parseMethodDescriptor y.desc).map (fun d => d.parameters.length) = some na) (hal : as.length = na) (hfr : fr + 1 ≤ R.frames) (hlo : 8 + (maxL + 11) + lo ≤ R.locals) (hst : (st.map fun v => v.category).sum ≤ 8) (hcc : cells + mc ≤ R.cells) (hss : slots + ms ≤ R.slots)
    (k : hv_W G p l e R s m args below meth c nL Q n' hp' (cells + mc) (slots + ms) (pc + 3) lv (r.toList ++ st)) : hv_W G p l e R s m args below meth c nL Q n hp cells slots pc lv (as.reverse ++ st) := by
  intro H locs ls h1 h2 h3 h4
  have hts := X.2.2.2.2.1
  have hB : va_CN R s args own ix y host bytes maxL ret (.code y bytes maxL ret :: gw) { frames := fr, cells := mc, slots := ms, locals := lo } mc ms na := by
    refine ⟨⟨rfl, rfl, hfr, hlo, ?_, List.mem_cons_self⟩, hts _ (hgw _ hcode), hts _ hini, hy, ?_, hts _ hlink⟩
    · intro w hw a' U hW
      have hw' : w ∈ gw := by
        rcases List.mem_cons.mp hw with h | h
        · rw [h]; exact hcode
        · exact h
      exact hv_keeps (hkp w hw') hW (hts _ (hgw w hw'))
    · intro sig h
      rw [h] at hna
      exact (Option.some.inj hna).symm
  refine hw_back (va_runSN (As := as.map (hv_v G)) (rest := st.map (hv_v G)) ⟨X.1, X.2.1, X.2.2.1, X.2.2.2.1, X.2.2.2.2.1⟩ hM ⟨hB, X.2.2.2.2.1 _ hstat, trivial⟩ ⟨hv_blind G n hp _, hv_pre X h1 h2 as⟩ rfl (by rw [List.length_map]; exact hal) h4.1 ?_ (lv_room (by rw [hv_cats]; exact hst)) hd ⟨hcc, hss⟩) h2 h3 h4 k
  show List.map (hv_v G) (as.reverse ++ st) = _
  rw [List.map_append, List.map_reverse]
theorem hw_iret (X : hv_X G p s m args c Ts own cc nL) {v : Value} {x : Int32} {ty : FieldType} (hlk : meth.locks = false) (hr : meth.sig.returnType = some ty) (hv : hv_v G v = .int x) (hn : narrow ty (.int x) = .int x) (hd : decode cc pc = .ok (.ireturn, 1)) :
    hv_W G p l e R s m args below meth c nL (MQ below (hv_Qc G n hp (some v)) args s cells slots (fun q => G.1.1 ≤ q)) n hp cells slots pc lv [v] := by
  intro H locs ls h1 h2 h3 h4
  show W p l e R s m args below meth c H locs cells slots _ (F0 m pc ls [hv_v G v])
  rw [hv]
  exact W.zret X.1 X.2.1 hr hn (fun t ht _ => ⟨by rw [Option.map_some, hv], by rw [ht]; exact h1, fun q hq => by rw [ht]; exact h2 q hq⟩) h3 hd hlk
theorem hw_lret (X : hv_X G p s m args c Ts own cc nL) {x : Int64} (hlk : meth.locks = false) (hr : meth.sig.returnType = some .long) (hd : decode cc pc = .ok (.lreturn, 1)) :
    hv_W G p l e R s m args below meth c nL (MQ below (hv_Qc G n hp (some (.long x))) args s cells slots (fun q => G.1.1 ≤ q)) n hp cells slots pc lv [.long x] := by
  intro H locs ls h1 h2 h3 h4
  exact W.lret X.1 X.2.1 hr (fun t ht _ => ⟨rfl, by rw [ht]; exact h1, fun q hq => by rw [ht]; exact h2 q hq⟩) h3 hd hlk
theorem hw_aret (X : hv_X G p s m args c Ts own cc nL) {a : Nat} {ty : FieldType} (hlk : meth.locks = false) (hr : meth.sig.returnType = some ty) (hrt : (∃ n, ty = .object n) ∨ ∃ t, ty = .array t) (hd : decode cc pc = .ok (.areturn, 1)) :
    hv_W G p l e R s m args below meth c nL (MQ below (hv_Qc G n hp (some (.ref a))) args s cells slots (fun q => G.1.1 ≤ q)) n hp cells slots pc lv [.ref a] := by
  intro H locs ls h1 h2 h3 h4
  exact W.aret X.1 X.2.1 hr hrt (Or.inr ⟨_, rfl⟩) (fun t ht _ => ⟨rfl, by rw [ht]; exact h1, fun q hq => by rw [ht]; exact h2 q hq⟩) h3 hd hlk
theorem hw_vret (X : hv_X G p s m args c Ts own cc nL) (hlk : meth.locks = false) (hr : meth.sig.returnType = none) (hd : decode cc pc = .ok (.return_, 1)) :
    hv_W G p l e R s m args below meth c nL (MQ below (hv_Qc G n hp none) args s cells slots (fun q => G.1.1 ≤ q)) n hp cells slots pc lv [] := by
  intro H locs ls h1 h2 h3 h4
  exact W.vret X.1 X.2.1 hr (fun t ht _ => ⟨rfl, by rw [ht]; exact h1, fun q hq => by rw [ht]; exact h2 q hq⟩) h3 hd hlk
theorem hw_widen {k1 k2 : Nat} (h1 : cells ≤ k1) (h2 : slots ≤ k2) (k : hv_W G p l e R s m args below meth c nL Q n hp k1 k2 pc lv st) : hv_W G p l e R s m args below meth c nL Q n hp cells slots pc lv st := fun H locs ls g1 g2 g3 g4 => W.widen h1 h2 (k H locs ls g1 g2 g3 g4)
theorem hw_heap {hp' : hv_H} (h : ∀ i, hp i = hp' i) (k : hv_W G p l e R s m args below meth c nL Q n hp' cells slots pc lv st) : hv_W G p l e R s m args below meth c nL Q n hp cells slots pc lv st := by
  have : hp = hp' := funext h
  rw [this]
  exact k
end HWC
theorem hv_args_map (G : hv_G) (as : List Value) : ∀ i : Nat, lv_args i (as.map (hv_v G)) = hv_l G (lv_args i as) := by
  induction as with
  | nil => intro i; rfl
  | cons v vs ih =>
    intro i
    show (i, hv_v G v) :: lv_args (if (hv_v G v).category = 2 then i + 2 else i + 1) (vs.map (hv_v G)) = (i, hv_v G v) :: hv_l G (lv_args (if v.category = 2 then i + 2 else i + 1) vs)
    rw [hv_cat, ih]
def hv_words (as : List Value) : Nat := (as.map fun v => v.category).sum
theorem hv_sl_len (G : hv_G) (as : List Value) : (lg_sl (as.map (hv_v G))).length = hv_words as := by
  induction as with
  | nil => rfl
  | cons v vs ih =>
    have hc : v.category = 1 ∨ v.category = 2 := lv_cat v
    have e : lg_sl ((v :: vs).map (hv_v G)) = (if (hv_v G v).category = 2 then [.val (hv_v G v), .second] else [.val (hv_v G v)]) ++ lg_sl (vs.map (hv_v G)) := by simp [lg_sl]
    rw [e, List.length_append, ih, hv_cat]
    unfold hv_words
    rcases hc with h | h <;> simp [h]
theorem hv_ofW {l : Launch} {y : MethodName} {ws ws' : List Cond} {rm : Room} {Pc : Array Value → State → Prop} {Qc : Array Value → State → Outcome → State → Prop} {mc ms : Nat} {free : Addr → Prop} {cc : ByteArray} {maxL : Nat} {ret : Option FieldType}
    (hy : plainFor y = true) (hw : ws = Cond.code y cc maxL ret :: ws')
    (body : ∀ p e s m args below meth c s₁, BodyLoose p l y (headSpec ws rm) cc maxL ret e s m args below meth c s₁ → c.maxLocals = maxL → Pc args s →
      W p l e (headSpec ws rm).room s m args below meth c s.heap [] 0 0 (MQ below Qc args s mc ms free) (entryFrame m args maxL)) : Met l y ws rm Pc Qc mc ms free := by
  refine MetFree.of_bodySF (code := cc) (maxLocals := maxL) (ret := ret) hy ?_ ?_
  · intro args s m h hn
    obtain ⟨meth, c, h1, h2, h3, h4, h5, h6, -, -⟩ := Cond.code_spec hn (atoms_spec (ws := ws) h _ (by rw [hw]; exact List.mem_cons_self))
    exact ⟨meth, c, h1, h2, h3, h4, h5, h6⟩
  · intro p e s m args below meth c s₁ B hml hP _
    have hh0 : s₁.heap = s.heap := by rw [B.state]; rfl
    obtain ⟨t, a1, o, b1, b2, b3⟩ := body p e s m args below meth c s₁ B hml hP s₁ hh0 (Stand.of_body B)
    exact ⟨t, o, a1, b1, b2, ⟨b3.1, b3.2⟩⟩
/-- a contract out of the walk of the method's body -/
theorem hv_C.of {G : hv_G} {gw : List Cond} {l : Launch} {y : MethodName} {bytes : ByteArray} {maxL : Nat} {ret : Option FieldType} {fr lo : Nat} {n : Nat} {hp : hv_H} {as : List Value} {r : Option Value} {n' : Nat} {hp' : hv_H} {mc ms : Nat} (hy : plainFor y = true) (hal : hv_words as ≤ maxL)
    (k : ∀ (p : Program) (e : Env) (s : State) (m : MethodId) (args : Array Value) (below : List Frame) (meth : Method) (c : Code), hv_X G p s m args c (.code y bytes maxL ret :: gw) y.cls bytes maxL → meth.sig.returnType = ret → meth.locks = false → meth.name = y.name →
      hv_W G p l e { frames := fr, cells := mc, slots := ms, locals := lo } s m args below meth c maxL (MQ below (hv_Qc G n' hp' r) args s mc ms (fun q => G.1.1 ≤ q)) n hp 0 0 0 (lv_args 0 as) []) : hv_C G gw l y bytes maxL ret fr lo n hp as r n' hp' mc ms := by
  refine hv_ofW (cc := bytes) (maxL := maxL) (ret := ret) hy rfl ?_
  intro p e s m args below meth c s₁ B hml hv
  obtain ⟨rfl, h1, h2, h3, hk, h4⟩ := hv
  have hts := atoms_spec (ws := .code y bytes maxL ret :: gw) B.pre
  have hown : s.vm.findClass y.cls = some m.cls := findClass_of_methodNamed B.named
  have hX : hv_X G p s m (as.map (hv_v G)).toArray c (.code y bytes maxL ret :: gw) y.cls bytes maxL := ⟨B.exec, B.bytes, hml, hown, hts, h2, by rw [h1.1]; omega, h3, hk, h4⟩
  have hl := lv_entry (as.map (hv_v G)) (n := maxL) (by rw [hv_sl_len]; exact hal)
  rw [lg_entry_eq]
  rw [hv_args_map] at hl
  exact k p e s m _ below meth c hX B.returns B.notSynchronized (name_of_methodNamed B.named B.method).1 s.heap [] _ h1 (fun q _ => rfl) (fun q hq => absurd hq List.not_mem_nil) hl
