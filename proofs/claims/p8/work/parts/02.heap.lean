section HWH
variable {G : hv_G} {p : Program} {l : Launch} {e : Env} {R : Room} {s : State} {m : MethodId} {args : Array Value} {below : List Frame} {meth : Method} {c : Code} {nL : Nat} {Q : State → Prop} {n : Nat} {hp : hv_H} {cells slots pc : Nat} {lv : List (Nat × Value)} {st : List Value} {Ts : List Cond} {own : String} {cc : ByteArray}
theorem hv_world {i ci : Nat} {f : Nat → Value} {H : Heap} {C : String} {T : u_T} {N : Nat} (h : hv_at G i (.inr (ci, f)) H) (hcl : vwCl[ci]? = some (C, T, N)) : va_P G.2.2.1 vwCl [(G.1.1 + i, .inr (ci, (List.range N).map (fun k => hv_v G (f k))))] H := by
  obtain ⟨r, h1, h2⟩ := h
  have hr : r = (C, T, N) := Option.some.inj (h1.symm.trans hcl)
  subst hr
  intro k q hq
  have hk : k < 1 := (List.getElem?_eq_some_iff.mp hq).1
  rw [show k = 0 by omega] at hq
  cases hq
  exact ⟨_, hcl, h2.to (fun j hj => by
    have hj' : j < N := hj
    show hv_v G (f j) = vp_V _ j
    unfold vp_V
    rw [List.getD_eq_getElem?_getD]
    simp [hj'])⟩
theorem hv_fld {N k : Nat} (f : Nat → Value) (hk : k < N) : ((List.range N).map (fun k => hv_v G (f k)))[k]? = some (hv_v G (f k)) := by simp [hk]
theorem hw_get (X : hv_X G p s m args c Ts own cc nL) {ix ci kf i N : Nat} {C : String} {T : u_T} {f : Nat → Value} (hd : decode cc pc = .ok (.getfield ix, 3)) (hcl : vwCl[ci]? = some (C, T, N)) (hin : ∀ w ∈ u_ws C T N, w ∈ Ts) (hk : kf < N)
    (hl : Cond.fieldLink own ix (T kf).1 (T kf).2.1 (T kf).2.2.1 ∈ Ts ∨ ∃ host : String, Cond.fieldLinkNest own ix (T kf).1 (T kf).2.1 (T kf).2.2.1 host ∈ Ts) (hi : hp i = some (.inr (ci, f)))
    (k : hv_W G p l e R s m args below meth c nL Q n hp cells slots (pc + 3) lv (f kf :: st)) : hv_W G p l e R s m args below meth c nL Q n hp cells slots pc lv (.ref (i + 1) :: st) := by
  intro H locs ls h1 h2 h3 h4
  have hw := hv_world (h1.2 i _ hi) hcl
  obtain ⟨hx, hb, hml, hown, hts, hK, hB, hbB, hxK, hX⟩ := X
  rcases hl with hl | ⟨host, hl⟩
  · exact va_get hx hb hts hin hown hK hw 0 rfl hcl kf hk (hts _ hl) (fun _ h => h) (hv_fld f hk) hd (k H locs ls h1 h2 h3 h4)
  · exact va_getN hx hb hts hin hown hK hw 0 rfl hcl kf hk (hts _ hl) (fun _ h => h) (hv_fld f hk) hd (k H locs ls h1 h2 h3 h4)
theorem hv_locs {B : Nat} {locs : List Loc} {a k : Nat} (h3 : ∀ q ∈ locs, B ≤ q.base) (ha : B ≤ a) : ∀ q ∈ locs ++ [⟨a, k⟩], B ≤ q.base := by
  intro q hq
  rcases List.mem_append.mp hq with h | h
  · exact h3 q h
  · cases List.mem_singleton.mp h
    exact ha
theorem hv_low {B a : Nat} {H H1 Hs : Heap} (h2 : ∀ q : Nat, q < B → H[q]? = Hs[q]?) (oq : ∀ q : Nat, q ≠ a → H1[q]? = H[q]?) (ha : B ≤ a) : ∀ q : Nat, q < B → H1[q]? = Hs[q]? := fun q hq => (oq q (by omega)).trans (h2 q hq)
theorem hw_put (X : hv_X G p s m args c Ts own cc nL) {ix ci kf i N : Nat} {C : String} {T : u_T} {f : Nat → Value} {ty0 : Nat → FieldType} {v : Value} (hd : decode cc pc = .ok (.putfield ix, 3)) (hcl : vwCl[ci]? = some (C, T, N)) (hin : ∀ w ∈ u_ws C T N, w ∈ Ts) (hty : ∀ k, k < N → parseFieldDescriptor (T k).2.2.1 = some (ty0 k)) (hnm : ∀ a, a < N → ∀ b, b < N → a ≠ b → (T a).2.1 ≠ (T b).2.1) (hk : kf < N)
    (hl : (Cond.fieldLink own ix (T kf).1 (T kf).2.1 (T kf).2.2.1 ∈ Ts ∧ (T kf).2.2.2 = false) ∨ (∃ host : String, Cond.fieldLinkNest own ix (T kf).1 (T kf).2.1 (T kf).2.2.1 host ∈ Ts ∧ (T kf).2.2.2 = false) ∨ (Cond.fieldLink own ix (T kf).1 (T kf).2.1 (T kf).2.2.1 ∈ Ts ∧ (T kf).2.2.2 = true ∧ meth.name = "<init>" ∧ (T kf).1 = own))
    (hn : narrow (ty0 kf) (hv_v G v) = hv_v G v) (hf : fits (ty0 kf) (hv_v G v) = true) (hi : hp i = some (.inr (ci, f)))
    (k : hv_W G p l e R s m args below meth c nL Q n (hv_up hp i (.inr (ci, hv_uv f kf v))) cells slots (pc + 3) lv st) : hv_W G p l e R s m args below meth c nL Q n hp cells slots pc lv (v :: .ref (i + 1) :: st) := by
  intro H locs ls h1 h2 h3 h4
  obtain ⟨hx, hb, hml, hown, hts, hK, hB, hbB, hxK, hX⟩ := X
  have hap := va_apart (own := own) hts hin ty0 hty hnm hK hcl
  obtain ⟨r, g1, cell, q1, q2, q3, q4⟩ := h1.2 i _ hi
  have hr : r = (C, T, N) := Option.some.inj (g1.symm.trans hcl)
  subst hr
  obtain ⟨hS, hfc, kC, hkC, hkind⟩ := hK.1 ci _ hcl
  obtain ⟨cf, kf1, fi, f1, hfi, hsl⟩ := hS kf hk
  have hlay := hts _ (hin _ (u_in_lay hk))
  unfold u_lay at hlay
  have hst := (u_facts hfc hkC (u_lays hts hin hk) hfi).1
  have done : ∀ H' : Heap, H'[G.1.1 + i]? = some (cell.setSlot f1.slot (hv_v G v)) → H'.size = H.size → (∀ q : Nat, q ≠ G.1.1 + i → H'[q]? = H[q]?) → W p l e R s m args below meth c H' (locs ++ [⟨G.1.1 + i, f1.slot⟩]) cells slots Q (F0 m (pc + 3) ls (st.map (hv_v G))) := by
    intro H' e1 e2 e3
    refine k H' _ ls (h1.set ?_ e2 e3) (hv_low h2 e3 (Nat.le_add_right _ _)) (hv_locs h3 (Nat.le_add_right _ _)) h4
    refine ⟨_, hcl, ?_⟩
    rw [hv_v_uv]
    rw [hsl] at e1
    exact ⟨_, e1, q2, q3, t_set q4 hap hk (hv_v G v)⟩
  rcases hl with ⟨hl, hfin⟩ | ⟨host, hl, hfin⟩ | ⟨hl, hfin, hin2, hdecl⟩
  · rw [if_neg (by rw [hfin]; decide)] at hlay
    have h6 := u_store hfc hkC hkind hlay hfi (hty kf hk) hn hf
    exact W.putK hx hb (f := f1) ⟨hown, hts _ hl, ⟨_, _, _, hfi⟩, hst⟩ (by rw [q2]; exact h6) q1 q3 (by rw [hsl]; exact k2_hasslot (q4 kf hk)) rfl rfl hd done
  · rw [if_neg (by rw [hfin]; decide)] at hlay
    have h6 := u_store hfc hkC hkind hlay hfi (hty kf hk) hn hf
    exact va_WputK hx hb (f := f1) hown (hts _ hl) hfi hst (by rw [q2]; exact h6) q1 q3 (by rw [hsl]; exact k2_hasslot (q4 kf hk)) rfl rfl hd done
  · rw [if_pos hfin] at hlay
    have hcf : m.cls = cf := by
      obtain ⟨_, _, c', _, _, _, -, -, hf', -, -, -, hown2, -⟩ := Cond.laysFinal_spec hlay
      have e1 : c' = cf := by have := hfi.symm.trans hf'; simp at this; exact this.1.symm
      rw [hdecl] at hown2
      rw [← e1]; exact Option.some.inj (hown.symm.trans hown2)
    have h6 := u_fits hfc hkC hkind (Or.inr hlay) hfi (hty kf hk) hn hf
    exact W.putFinK hx hb hown (hts _ hl) hfi hst hcf hin2 (by rw [q2]; exact h6) q1 q3 (by rw [hsl]; exact k2_hasslot (q4 kf hk)) rfl rfl hd done
theorem hv_rd {cA : ClassId} {N : Nat} {f : Nat → Value} {j : Int32} (hin : vp_in j N) : ¬ (j < 0 ∨ (arrV cA N f).slots.size ≤ j.toNatClampNeg) ∧ (arrV cA N f).slots[j.toNatClampNeg]? = some (f j.toNatClampNeg) := by
  have hlt : j.toNatClampNeg < N := Nat.not_le.mp fun q => hin (Or.inr q)
  exact ⟨by rw [arrV_size]; exact hin, arrV_read _ _ hlt⟩
theorem hv_arr (hK : va_K G.2.2.1 vwCl (hv_tys G) s) {t : Nat} {ty : FieldType} (ht : hv_tyl[t]? = some ty) (N : Nat) (f : Nat → Value) : s.isArrayOf (arrV (G.2.2.2 t) N f) ty := (hK.2 t _ (hv_tys_at ht)).1 N f
theorem hw_iald (X : hv_X G p s m args c Ts own cc nL) {i N : Nat} {f : Nat → Value} {j : Int32} (hd : decode cc pc = .ok (.iaload, 1)) (hi : hp i = some (.inl (1, N, f))) (hin : vp_in j N)
    (k : hv_W G p l e R s m args below meth c nL Q n hp cells slots (pc + 1) lv (f j.toNatClampNeg :: st)) : hv_W G p l e R s m args below meth c nL Q n hp cells slots pc lv (.int j :: .ref (i + 1) :: st) := by
  intro H locs ls h1 h2 h3 h4
  obtain ⟨g1, g2⟩ := hv_rd (cA := G.2.2.2 1) (f := fun j => hv_v G (f j)) hin
  exact W.iald X.1 X.2.1 (h1.2 i _ hi) (hv_arr X.2.2.2.2.2.1 rfl N _) (fun q => by cases q) g1 g2 rfl rfl hd (k H locs ls h1 h2 h3 h4)
theorem hw_bald (X : hv_X G p s m args c Ts own cc nL) {i N : Nat} {f : Nat → Value} {j : Int32} (hd : decode cc pc = .ok (.baload, 1)) (hi : hp i = some (.inl (0, N, f))) (hin : vp_in j N)
    (k : hv_W G p l e R s m args below meth c nL Q n hp cells slots (pc + 1) lv (f j.toNatClampNeg :: st)) : hv_W G p l e R s m args below meth c nL Q n hp cells slots pc lv (.int j :: .ref (i + 1) :: st) := by
  intro H locs ls h1 h2 h3 h4
  obtain ⟨g1, g2⟩ := hv_rd (cA := G.2.2.2 0) (f := fun j => hv_v G (f j)) hin
  exact W.bald X.1 X.2.1 (h1.2 i _ hi) (hv_arr X.2.2.2.2.2.1 rfl N _) (fun q => by cases q) g1 g2 rfl rfl hd (k H locs ls h1 h2 h3 h4)
theorem hw_zald (X : hv_X G p s m args c Ts own cc nL) {i N : Nat} {f : Nat → Value} {j : Int32} (hd : decode cc pc = .ok (.baload, 1)) (hi : hp i = some (.inl (3, N, f))) (hin : vp_in j N)
    (k : hv_W G p l e R s m args below meth c nL Q n hp cells slots (pc + 1) lv (f j.toNatClampNeg :: st)) : hv_W G p l e R s m args below meth c nL Q n hp cells slots pc lv (.int j :: .ref (i + 1) :: st) := by
  intro H locs ls h1 h2 h3 h4
  obtain ⟨g1, g2⟩ := hv_rd (cA := G.2.2.2 3) (f := fun j => hv_v G (f j)) hin
  exact W.zald X.1 X.2.1 (h1.2 i _ hi) (hv_arr X.2.2.2.2.2.1 rfl N _) (fun q => by cases q) g1 g2 rfl rfl hd (k H locs ls h1 h2 h3 h4)
theorem hw_lald (X : hv_X G p s m args c Ts own cc nL) {i N : Nat} {f : Nat → Value} {j : Int32} (hd : decode cc pc = .ok (.laload, 1)) (hi : hp i = some (.inl (2, N, f))) (hin : vp_in j N)
    (k : hv_W G p l e R s m args below meth c nL Q n hp cells slots (pc + 1) lv (f j.toNatClampNeg :: st)) : hv_W G p l e R s m args below meth c nL Q n hp cells slots pc lv (.int j :: .ref (i + 1) :: st) := by
  intro H locs ls h1 h2 h3 h4
  obtain ⟨g1, g2⟩ := hv_rd (cA := G.2.2.2 2) (f := fun j => hv_v G (f j)) hin
  exact W.lald X.1 X.2.1 (h1.2 i _ hi) (hv_arr X.2.2.2.2.2.1 rfl N _) (fun q => by cases q) g1 g2 rfl rfl hd (k H locs ls h1 h2 h3 h4)
theorem hw_aald (X : hv_X G p s m args c Ts own cc nL) {t i N : Nat} {ty : FieldType} {f : Nat → Value} {j : Int32} (hd : decode cc pc = .ok (.aaload, 1)) (ht : hv_tyl[t]? = some ty) (hr : ty.isReference = true) (hi : hp i = some (.inl (t, N, f))) (hin : vp_in j N)
    (k : hv_W G p l e R s m args below meth c nL Q n hp cells slots (pc + 1) lv (f j.toNatClampNeg :: st)) : hv_W G p l e R s m args below meth c nL Q n hp cells slots pc lv (.int j :: .ref (i + 1) :: st) := by
  intro H locs ls h1 h2 h3 h4
  obtain ⟨g1, g2⟩ := hv_rd (cA := G.2.2.2 t) (f := fun j => hv_v G (f j)) hin
  exact W.aald X.1 X.2.1 (h1.2 i _ hi) (hv_arr X.2.2.2.2.2.1 ht N _) hr (fun q => by cases q) g1 g2 rfl rfl hd (k H locs ls h1 h2 h3 h4)
theorem hv_ast {i t N : Nat} {f : Nat → Value} {H H1 : Heap} {j : Nat} {v w : Value} (h1 : hv_P G n hp H) (hvw : hv_v G v = w) (e1 : H1[G.1.1 + i]? = some ((arrV (G.2.2.2 t) N (fun j => hv_v G (f j))).setSlot j w)) (z : H1.size = H.size) (oq : ∀ q : Nat, q ≠ G.1.1 + i → H1[q]? = H[q]?) : hv_P G n (hv_up hp i (.inl (t, N, hv_uv f j v))) H1 := by
  refine h1.set ?_ z oq
  show H1[G.1.1 + i]? = some (arrV _ _ _)
  rw [e1, arrV_store, ← hvw]
  exact congrArg (fun z => some (arrV _ _ z)) (hv_v_uv G f j v).symm
theorem hw_iast (X : hv_X G p s m args c Ts own cc nL) {i N : Nat} {f : Nat → Value} {j x : Int32} {v : Value} (hd : decode cc pc = .ok (.iastore, 1)) (hv : hv_v G v = .int x) (hi : hp i = some (.inl (1, N, f))) (hin : vp_in j N)
    (k : hv_W G p l e R s m args below meth c nL Q n (hv_up hp i (.inl (1, N, hv_uv f j.toNatClampNeg v))) cells slots (pc + 1) lv st) : hv_W G p l e R s m args below meth c nL Q n hp cells slots pc lv (v :: .int j :: .ref (i + 1) :: st) := by
  intro H locs ls h1 h2 h3 h4
  obtain ⟨g1, -⟩ := hv_rd (cA := G.2.2.2 1) (f := fun j => hv_v G (f j)) hin
  show W p l e R s m args below meth c H locs cells slots Q (F0 m pc ls (hv_v G v :: .int j :: .ref (G.1.1 + i) :: st.map (hv_v G)))
  rw [hv]
  exact W.iast X.1 X.2.1 (h1.2 i _ hi) (hv_arr X.2.2.2.2.2.1 rfl N _) (fun q => by cases q) g1 rfl rfl hd (fun H1 e1 z oq => k H1 _ ls (hv_ast h1 hv e1 z oq) (hv_low h2 oq (Nat.le_add_right _ _)) (hv_locs h3 (Nat.le_add_right _ _)) h4)
theorem hw_bast (X : hv_X G p s m args c Ts own cc nL) {i N : Nat} {f : Nat → Value} {j x : Int32} (hd : decode cc pc = .ok (.bastore, 1)) (hi : hp i = some (.inl (0, N, f))) (hin : vp_in j N)
    (k : hv_W G p l e R s m args below meth c nL Q n (hv_up hp i (.inl (0, N, hv_uv f j.toNatClampNeg (.int x.toInt8.toInt32)))) cells slots (pc + 1) lv st) : hv_W G p l e R s m args below meth c nL Q n hp cells slots pc lv (.int x :: .int j :: .ref (i + 1) :: st) := by
  intro H locs ls h1 h2 h3 h4
  obtain ⟨g1, -⟩ := hv_rd (cA := G.2.2.2 0) (f := fun j => hv_v G (f j)) hin
  exact W.bast X.1 X.2.1 (h1.2 i _ hi) (hv_arr X.2.2.2.2.2.1 rfl N _) (fun q => by cases q) g1 rfl rfl hd (fun H1 e1 z oq => k H1 _ ls (hv_ast h1 rfl e1 z oq) (hv_low h2 oq (Nat.le_add_right _ _)) (hv_locs h3 (Nat.le_add_right _ _)) h4)
theorem hv_b8 (x : Int32) : x.toInt8.toInt32.toInt8.toInt32 = x.toInt8.toInt32 := by simp
theorem hw_bastS (X : hv_X G p s m args c Ts own cc nL) {i N : Nat} {f : Nat → Value} {j x : Int32} {y : UInt32} (hd : decode cc pc = .ok (.bastore, 1)) (hy : G.2.1 y.toNat = x.toInt8.toInt32) (hi : hp i = some (.inl (0, N, f))) (hin : vp_in j N)
    (k : hv_W G p l e R s m args below meth c nL Q n (hv_up hp i (.inl (0, N, hv_uv f j.toNatClampNeg (.float y)))) cells slots (pc + 1) lv st) : hv_W G p l e R s m args below meth c nL Q n hp cells slots pc lv (.float y :: .int j :: .ref (i + 1) :: st) := by
  intro H locs ls h1 h2 h3 h4
  obtain ⟨g1, -⟩ := hv_rd (cA := G.2.2.2 0) (f := fun j => hv_v G (f j)) hin
  have ev : hv_v G (.float y) = .int x.toInt8.toInt32 := congrArg Value.int hy
  show W p l e R s m args below meth c H locs cells slots Q (F0 m pc ls (hv_v G (.float y) :: .int j :: .ref (G.1.1 + i) :: st.map (hv_v G)))
  rw [ev]
  exact W.bast X.1 X.2.1 (h1.2 i _ hi) (hv_arr X.2.2.2.2.2.1 rfl N _) (fun q => by cases q) g1 rfl rfl hd (fun H1 e1 z oq => k H1 _ ls (hv_ast h1 (w := .int x.toInt8.toInt32) ev (by rw [e1]; show _ = some ((arrV _ _ _).setSlot _ _); rw [narrow_byte, hv_b8]) z oq) (hv_low h2 oq (Nat.le_add_right _ _)) (hv_locs h3 (Nat.le_add_right _ _)) h4)
theorem hw_zast (X : hv_X G p s m args c Ts own cc nL) {i N : Nat} {f : Nat → Value} {j x y : Int32} (hd : decode cc pc = .ok (.bastore, 1)) (hy : narrow .boolean (.int x) = .int y) (hi : hp i = some (.inl (3, N, f))) (hin : vp_in j N)
    (k : hv_W G p l e R s m args below meth c nL Q n (hv_up hp i (.inl (3, N, hv_uv f j.toNatClampNeg (.int y)))) cells slots (pc + 1) lv st) : hv_W G p l e R s m args below meth c nL Q n hp cells slots pc lv (.int x :: .int j :: .ref (i + 1) :: st) := by
  intro H locs ls h1 h2 h3 h4
  obtain ⟨g1, -⟩ := hv_rd (cA := G.2.2.2 3) (f := fun j => hv_v G (f j)) hin
  exact W.zast X.1 X.2.1 (h1.2 i _ hi) (hv_arr X.2.2.2.2.2.1 rfl N _) (fun q => by cases q) g1 rfl rfl hd (fun H1 e1 z oq => k H1 _ ls (hv_ast h1 hy.symm e1 z oq) (hv_low h2 oq (Nat.le_add_right _ _)) (hv_locs h3 (Nat.le_add_right _ _)) h4)
theorem hw_last (X : hv_X G p s m args c Ts own cc nL) {i N : Nat} {f : Nat → Value} {j : Int32} {x : Int64} (hd : decode cc pc = .ok (.lastore, 1)) (hi : hp i = some (.inl (2, N, f))) (hin : vp_in j N)
    (k : hv_W G p l e R s m args below meth c nL Q n (hv_up hp i (.inl (2, N, hv_uv f j.toNatClampNeg (.long x)))) cells slots (pc + 1) lv st) : hv_W G p l e R s m args below meth c nL Q n hp cells slots pc lv (.long x :: .int j :: .ref (i + 1) :: st) := by
  intro H locs ls h1 h2 h3 h4
  obtain ⟨g1, -⟩ := hv_rd (cA := G.2.2.2 2) (f := fun j => hv_v G (f j)) hin
  exact W.last X.1 X.2.1 (h1.2 i _ hi) (hv_arr X.2.2.2.2.2.1 rfl N _) (fun q => by cases q) g1 rfl rfl hd (fun H1 e1 z oq => k H1 _ ls (hv_ast h1 rfl e1 z oq) (hv_low h2 oq (Nat.le_add_right _ _)) (hv_locs h3 (Nat.le_add_right _ _)) h4)
theorem hw_aast (X : hv_X G p s m args c Ts own cc nL) {t i iv ci N : Nat} {r : vw_C} {f g : Nat → Value} {j : Int32} (hd : decode cc pc = .ok (.aastore, 1)) (ht : hv_tyl[t]? = some (.object r.1)) (hi : hp i = some (.inl (t, N, f))) (hv : hp iv = some (.inr (ci, g))) (hc : vwCl[ci]? = some r) (hin : vp_in j N)
    (k : hv_W G p l e R s m args below meth c nL Q n (hv_up hp i (.inl (t, N, hv_uv f j.toNatClampNeg (.ref (iv + 1))))) cells slots (pc + 1) lv st) : hv_W G p l e R s m args below meth c nL Q n hp cells slots pc lv (.ref (iv + 1) :: .int j :: .ref (i + 1) :: st) := by
  intro H locs ls h1 h2 h3 h4
  have hK := X.2.2.2.2.2.1
  have hlt : j.toNatClampNeg < N := Nat.not_le.mp fun q => hin (Or.inr q)
  have h0 : ¬ j < 0 := fun q => hin (Or.inl q)
  obtain ⟨r', hr', cellV, g1, g2, g3, -⟩ := h1.2 iv _ hv
  have hcls := (hK.1 ci r hc).2
  obtain ⟨kA, comp, k1, k2, k3, -⟩ := (hK.2 t _ (hv_tys_at ht)).2
  have hcomp : comp = G.2.2.1.1 ci := Option.some.inj (k3.symm.trans hcls.1)
  subst hcomp
  obtain ⟨kC, hkC, -⟩ := hcls.2
  refine W.aast X.1 X.2.1 (h1.2 i _ hi) (fun q h => by cases h) (fun h => by cases h) k1 k2 rfl hkC ⟨h0, by show _ < (arrV _ _ _).slots.size; rw [arrV_size]; exact hlt⟩ g1 (fun q h => by rw [g3] at h; cases h) (by rw [g2]; exact hkC) (by rw [g2]; exact va_assign hcls) rfl rfl hd (fun H1 e1 z oq => ?_)
  exact k H1 _ ls (hv_ast h1 rfl e1 z oq) (hv_low h2 oq (Nat.le_add_right _ _)) (hv_locs h3 (Nat.le_add_right _ _)) h4
theorem hw_alen (X : hv_X G p s m args c Ts own cc nL) {t i N : Nat} {ty : FieldType} {f : Nat → Value} {v : Int32} (hd : decode cc pc = .ok (.arraylength, 1)) (ht : hv_tyl[t]? = some ty) (hi : hp i = some (.inl (t, N, f))) (hv : Int32.ofNat N = v)
    (k : hv_W G p l e R s m args below meth c nL Q n hp cells slots (pc + 1) lv (.int v :: st)) : hv_W G p l e R s m args below meth c nL Q n hp cells slots pc lv (.ref (i + 1) :: st) := by
  intro H locs ls h1 h2 h3 h4
  exact W.alen X.1 X.2.1 (h1.2 i _ hi) (hv_arr X.2.2.2.2.2.1 ht N _) (by rw [arrV_size]; exact hv) rfl rfl hd (k H locs ls h1 h2 h3 h4)
theorem hv_low' {B : Nat} {H H1 Hs : Heap} (h2 : ∀ q : Nat, q < B → H[q]? = Hs[q]?) (hz : B ≤ H.size) (oq : ∀ q : Nat, q < H.size → H1[q]? = H[q]?) : ∀ q : Nat, q < B → H1[q]? = Hs[q]? := fun q hq => (oq q (by omega)).trans (h2 q hq)
theorem hw_new (X : hv_X G p s m args c Ts own cc nL) {ix ci N : Nat} {C : String} {T : u_T} {f : Nat → Value} {ty0 : Nat → FieldType} (hd : decode cc pc = .ok (.new ix, 3)) (hcl : vwCl[ci]? = some (C, T, N)) (hin : ∀ w ∈ u_ws C T N, w ∈ Ts) (hty : ∀ k, k < N → parseFieldDescriptor (T k).2.2.1 = some (ty0 k))
    (hw1 : Cond.classLink own ix C ∈ Ts) (hw2 : Cond.instantiable C N ∈ Ts) (hw3 : Cond.initialized C ∈ Ts) (hf : ∀ j, j < N → defaultValue (ty0 j) = hv_v G (f j)) (hc : cells + 1 ≤ R.cells) (hs : slots + N ≤ R.slots)
    (k : hv_W G p l e R s m args below meth c nL Q (n + 1) (hv_up hp n (.inr (ci, f))) (cells + 1) (slots + N) (pc + 3) lv (.ref (n + 1) :: st)) : hv_W G p l e R s m args below meth c nL Q n hp cells slots pc lv st := by
  intro H locs ls h1 h2 h3 h4
  obtain ⟨hx, hb, hml, hown, hts, hK, hB, hbB, hxK, hX⟩ := X
  have hKn := hK.1 ci _ hcl
  refine W.newcK hx hb hown (hts _ hw1) (hts _ hw2) (hts _ hw3) rfl hd hc hs hKn.2.1 h1.1 (fun H1 kC hkC e1 z1 o1 => ?_)
  have o2 : ∀ q : Nat, q < H.size → H1[q]? = H[q]? := fun q hq => o1 q (by rw [← h1.1]; exact hq)
  refine k H1 _ ls (h1.push ?_ (by rw [z1, h1.1]) o2) (hv_low' h2 (by rw [h1.1]; omega) o2) h3 h4
  exact ⟨_, hcl, (u_born ty0 hts hin hKn hkC e1 hty).to hf⟩
theorem hw_newa (X : hv_X G p s m args c Ts own cc nL) {t N : Nat} {atype : ArrayType} {ty : FieldType} {j : Int32} {v : Value} (hd : decode cc pc = .ok (.newarray atype, 2)) (hat : newarray.typeOf atype = ty) (ht : hv_tyl[t]? = some ty) (hra : ∀ C : String, ty ≠ .object C) (hw : Cond.arrayClass ty ∈ Ts) (hv : defaultValue ty = hv_v G v) (hj : ¬ j < 0) (hN : j.toNatClampNeg = N) (hby : N * componentBytes ty ≤ 536870912) (hc : cells + 1 ≤ R.cells) (hs : slots + N ≤ R.slots)
    (k : hv_W G p l e R s m args below meth c nL Q (n + 1) (hv_up hp n (.inl (t, N, fun _ => v))) (cells + 1) (slots + N) (pc + 2) lv (.ref (n + 1) :: st)) : hv_W G p l e R s m args below meth c nL Q n hp cells slots pc lv (.int j :: st) := by
  intro H locs ls h1 h2 h3 h4
  subst hat
  have hK := X.2.2.2.2.2.1
  refine va_newaK X.1 X.2.1 (X.2.2.2.2.1 _ hw) rfl hd rfl hj hN hby hc hs h1.1 (fun H1 cA e1 z1 o1 hAr hNm => ?_)
  have o2 : ∀ q : Nat, q < H.size → H1[q]? = H[q]? := fun q hq => o1 q (by rw [← h1.1]; exact hq)
  have hra2 : s.vm.findClass ("[" ++ (newarray.typeOf atype).toString) = some (G.2.2.2 t) := by
    have hR := (hK.2 t _ (hv_tys_at ht)).2
    cases atype <;> exact hR
  have hcy : cA = G.2.2.2 t := Option.some.inj (hNm.symm.trans hra2)
  subst hcy
  refine k H1 _ ls (h1.push ?_ (by rw [z1, h1.1]) o2) (hv_low' h2 (by rw [h1.1]; omega) o2) h3 h4
  show H1[G.1.1 + n]? = some (arrV _ _ _)
  rw [e1, hv]
theorem hw_newq (X : hv_X G p s m args c Ts own cc nL) {t ix N : Nat} {C : String} {j : Int32} (hd : decode cc pc = .ok (.anewarray ix, 3)) (ht : hv_tyl[t]? = some (.object C)) (hw1 : Cond.classLink own ix C ∈ Ts) (hw2 : Cond.arrayOver (.object C) ∈ Ts) (hj : ¬ j < 0) (hN : j.toNatClampNeg = N) (hby : N * 4 ≤ 536870912) (hc : cells + 1 ≤ R.cells) (hs : slots + N ≤ R.slots)
    (k : hv_W G p l e R s m args below meth c nL Q (n + 1) (hv_up hp n (.inl (t, N, fun _ => .null))) (cells + 1) (slots + N) (pc + 3) lv (.ref (n + 1) :: st)) : hv_W G p l e R s m args below meth c nL Q n hp cells slots pc lv (.int j :: st) := by
  intro H locs ls h1 h2 h3 h4
  subst hN
  have hK := X.2.2.2.2.2.1
  refine W.anew X.1 X.2.1 X.2.2.2.1 (X.2.2.2.2.1 _ hw1) (X.2.2.2.2.1 _ hw2) rfl hd rfl hj hby hc hs (fun cA kA comp f1 f2 f3 f4 => ?_)
  obtain ⟨kA', comp', -, -, -, hnm⟩ := (hK.2 t _ (hv_tys_at ht)).2
  have hcy : cA = G.2.2.2 t := Option.some.inj (f1.symm.trans hnm)
  subst hcy
  have o2 : ∀ q : Nat, q < H.size → (H.push ({ cls := G.2.2.2 t, slots := Array.replicate j.toNatClampNeg .null, vm := .none } : Cell))[q]? = H[q]? := fun q hq => by rw [Array.getElem?_push, if_neg (Nat.ne_of_lt hq)]
  have hk := k (H.push ({ cls := G.2.2.2 t, slots := Array.replicate j.toNatClampNeg .null, vm := .none } : Cell)) locs ls (h1.push ?_ (by rw [Array.size_push]) o2) (hv_low' h2 (by rw [h1.1]; omega) o2) h3 h4
  · have hsz : H.size = G.1.1 + n := h1.1
    show W p l e R s m args below meth c _ locs _ _ Q (F0 m (pc + 3) ls (.ref H.size :: st.map (hv_v G)))
    rw [hsz]
    exact hk
  · show _ = some (arrV (G.2.2.2 t) j.toNatClampNeg (fun _ => Value.null))
    rw [← h1.1, Array.getElem?_push_size, ← arrV_new]
theorem hw_sld (X : hv_X G p s m args c Ts own cc nL) {j : Int32} {x : UInt32} (hd : decode cc pc = .ok (.iaload, 1)) (hin : vp_in j G.1.2.2) (hx : x.toNat = j.toNatClampNeg)
    (k : hv_W G p l e R s m args below meth c nL Q n hp cells slots (pc + 1) lv (.float x :: st)) : hv_W G p l e R s m args below meth c nL Q n hp cells slots pc lv (.int j :: .ref 0 :: st) := by
  intro H locs ls h1 h2 h3 h4
  obtain ⟨hxx, hb, hml, hown, hts, hK, hB, hbB, hxK, scr, g1, g2, g3, g4, g5⟩ := X
  have hlt : j.toNatClampNeg < G.1.2.2 := Nat.not_le.mp fun q => hin (Or.inr q)
  have hk := k H locs ls h1 h2 h3 h4
  have hv : hv_v G (.float x) = .int (G.2.1 j.toNatClampNeg) := by show Value.int (G.2.1 x.toNat) = _; rw [hx]
  rw [List.map_cons, hv] at hk
  exact W.iald hxx hb (a := G.1.2.1) (cell := scr) (by rw [h2 _ hbB]; exact g1) g2 g3 (by rw [g4]; exact hin) (g5 _ hlt) rfl rfl hd hk
theorem hw_sldK (X : hv_X G p s m args c Ts own cc nL) {j x : Int32} (hd : decode cc pc = .ok (.iaload, 1)) (hin : vp_in j G.1.2.2) (hx : G.2.1 j.toNatClampNeg = x)
    (k : hv_W G p l e R s m args below meth c nL Q n hp cells slots (pc + 1) lv (.int x :: st)) : hv_W G p l e R s m args below meth c nL Q n hp cells slots pc lv (.int j :: .ref 0 :: st) := by
  intro H locs ls h1 h2 h3 h4
  obtain ⟨hxx, hb, hml, hown, hts, hK, hB, hbB, hxK, scr, g1, g2, g3, g4, g5⟩ := X
  have hlt : j.toNatClampNeg < G.1.2.2 := Nat.not_le.mp fun q => hin (Or.inr q)
  have hk := k H locs ls h1 h2 h3 h4
  subst hx
  exact W.iald hxx hb (a := G.1.2.1) (cell := scr) (by rw [h2 _ hbB]; exact g1) g2 g3 (by rw [g4]; exact hin) (g5 _ hlt) rfl rfl hd hk
theorem hw_slen (X : hv_X G p s m args c Ts own cc nL) {v : Int32} (hd : decode cc pc = .ok (.arraylength, 1)) (hv : Int32.ofNat G.1.2.2 = v)
    (k : hv_W G p l e R s m args below meth c nL Q n hp cells slots (pc + 1) lv (.int v :: st)) : hv_W G p l e R s m args below meth c nL Q n hp cells slots pc lv (.ref 0 :: st) := by
  intro H locs ls h1 h2 h3 h4
  obtain ⟨hxx, hb, hml, hown, hts, hK, hB, hbB, hxK, scr, g1, g2, g3, g4, g5⟩ := X
  exact W.alen hxx hb (a := G.1.2.1) (cell := scr) (by rw [h2 _ hbB]; exact g1) g2 (by rw [g4]; exact hv) rfl rfl hd (k H locs ls h1 h2 h3 h4)
theorem hw_objInit (X : hv_X G p s m args c Ts own cc nL) {ix a : Nat} (hd : decode cc pc = .ok (.invokespecial ix, 3)) (hw1 : Cond.methodLink own ix Lib.objectInit ∈ Ts) (hw2 : Cond.instanceMethod Lib.objectInit ∈ Ts) (hw3 : Cond.code Lib.objectInit ⟨#[0xb1]⟩ 1 none ∈ Ts) (hr : 1 ≤ R.frames) (hr2 : 20 ≤ R.locals) (hst : (st.map fun v => v.category).sum ≤ 8)
    (k : hv_W G p l e R s m args below meth c nL Q n hp cells slots (pc + 3) lv st) : hv_W G p l e R s m args below meth c nL Q n hp cells slots pc lv (.ref a :: st) := by
  intro H locs ls h1 h2 h3 h4
  obtain ⟨hx, hb, hml, hown, hts, hK, hB, hbB, hxK, hX⟩ := X
  refine W.objInit hx hb hown (hts _ hw1) (hts _ hw2) (hts _ hw3) rfl (by rw [hml]; exact h4.1) rfl hd hr ?_ ?_
  · have := lv_room (m := m) (pc := pc) (ls := ls) (rest := (Value.ref a :: st).map (hv_v G)) (st := st.map (hv_v G)) (by rw [hv_cats]; exact hst)
    omega
  · exact k H locs ls h1 h2 h3 h4
theorem hw_copy (X : hv_X G p s m args c Ts own cc nL) {ix i0 i1 N0 N1 : Nat} {f g : Nat → Value} {sp dp z : Int32} (hd : decode cc pc = .ok (.invokestatic ix, 3)) (hw1 : Cond.methodLink own ix arraycopyName ∈ Ts) (hw2 : Cond.native arraycopyName ∈ Ts) (hw3 : Cond.static arraycopyName ∈ Ts) (hw4 : Cond.initialized "java/lang/System" ∈ Ts) (hi0 : hp i0 = some (.inl (1, N0, f))) (hi1 : hp i1 = some (.inl (1, N1, g)))
    (g1 : ¬ sp < 0) (g2 : ¬ dp < 0) (g3 : ¬ z < 0) (g4 : sp.toNatClampNeg + z.toNatClampNeg ≤ N0) (g5 : dp.toNatClampNeg + z.toNatClampNeg ≤ N1) (hint : ∀ i, i < z.toNatClampNeg → ∃ x : Int32, hv_v G (f (sp.toNatClampNeg + i)) = .int x) (hr : 1 ≤ R.frames) (hr2 : 8 + (nativeFrameWords "java/lang/System" "arraycopy" 5 + 11) ≤ R.locals) (hst : (st.map fun v => v.category).sum ≤ 8)
    (k : hv_W G p l e R s m args below meth c nL Q n (hv_up hp i1 (.inl (1, N1, va_cpy f g sp.toNatClampNeg dp.toNatClampNeg z.toNatClampNeg))) cells slots (pc + 3) lv st) : hv_W G p l e R s m args below meth c nL Q n hp cells slots pc lv (.int z :: .int dp :: .ref (i1 + 1) :: .int sp :: .ref (i0 + 1) :: st) := by
  intro H locs ls h1 h2 h3 h4
  obtain ⟨hx, hb, hml, hown, hts, hK, hB, hbB, hxK, hX⟩ := X
  have nn : ∀ z : Int32, ¬ z < 0 → z.toInt = (z.toNatClampNeg : Int) := by
    intro z hz
    have hz0 : (0 : Int) ≤ z.toInt := by
      have := Int32.not_lt.mp hz
      simpa using Int32.le_iff_toInt_le.mp this
    show z.toInt = ((z.toInt.toNat : Nat) : Int)
    omega
  intro T hT XX
  have hc0 : H[G.1.1 + i0]? = some (arrV (G.2.2.2 1) N0 (fun j => hv_v G (f j))) := h1.2 i0 _ hi0
  have hc1 : H[G.1.1 + i1]? = some (arrV (G.2.2.2 1) N1 (fun j => hv_v G (g j))) := h1.2 i1 _ hi1
  obtain ⟨-, k0, hk0, cm0, hkk0⟩ := hv_arr hK (t := 1) rfl N0 (fun j => hv_v G (f j))
  obtain ⟨-, k1, hk1, cm1, hkk1⟩ := hv_arr hK (t := 1) rfl N1 (fun j => hv_v G (g j))
  obtain ⟨vm', X', step⟩ := XX.arraycopy hx hown (hts _ hw1) (hts _ hw2) (hts _ hw3) (hts _ hw4) (src := G.1.1 + i0) (dst := G.1.1 + i1) (cs := arrV (G.2.2.2 1) N0 (fun j => hv_v G (f j))) (cd := arrV (G.2.2.2 1) N1 (fun j => hv_v G (g j))) (srcPos := sp) (destPos := dp) (n := z) (by rw [hT]; exact hc0) (by rw [hT]; exact hc1)
    (fun _ h => by cases h) (fun _ h => by cases h) (fun h => by cases h) (fun h => by cases h) hk0 hk1 hkk0 hkk1 (by simp [refKind]) g1 g2 g3
    (by rw [nn sp g1, nn z g3, arrV_size]; omega)
    (by rw [nn dp g2, nn z g3, arrV_size]; omega)
    (fun vm₁ _ i hi => by
      obtain ⟨x, hx0⟩ := hint i hi
      have e : (arrV (G.2.2.2 1) N0 (fun j => hv_v G (f j))).slots.getD (sp.toNatClampNeg + i) .null = .int x := by
        rw [Array.getD_eq_getD_getElem?, arrV_read _ _ (by omega)]
        exact hx0
      refine ⟨?_, ?_⟩
      · rw [e]
        rfl
      · rw [e]
        exact trivial)
    (g := F0 m pc ls (.int z :: .int dp :: .ref (G.1.1 + i1) :: .int sp :: .ref (G.1.1 + i0) :: st.map (hv_v G))) rfl (by rw [hml]; exact h4.1) (rest := st.map (hv_v G)) rfl (by rw [hb]; exact hd) hr (by
      have h8 : ((st.map (hv_v G)).map fun v => v.category).sum ≤ 8 := by rw [hv_cats]; exact hst
      show 2 * 0 + _ + _ ≤ _
      omega)
  have e1 : copied (arrV (G.2.2.2 1) N0 (fun j => hv_v G (f j))) (arrV (G.2.2.2 1) N1 (fun j => hv_v G (g j))) sp dp z = arrV (G.2.2.2 1) N1 (fun j => hv_v G (va_cpy f g sp.toNatClampNeg dp.toNatClampNeg z.toNatClampNeg j)) := va_copied (hv_v G) (G.2.2.2 1) (G.2.2.2 1) f g g4
  rw [e1] at X' step
  have hl : G.1.1 + i1 < H.size := (Array.getElem?_eq_some_iff.mp hc1).1
  generalize hcell : arrV (G.2.2.2 1) N1 (fun j => hv_v G (va_cpy f g sp.toNatClampNeg dp.toNatClampNeg z.toNatClampNeg j)) = cell at X' step
  have hheap : ((T.setVm vm').setCell (G.1.1 + i1) cell).heap = H.setIfInBounds (G.1.1 + i1) cell := by rw [← hT]; rfl
  have oq : ∀ q : Nat, q ≠ G.1.1 + i1 → (H.setIfInBounds (G.1.1 + i1) cell)[q]? = H[q]? := fun q hq => by simp [Array.getElem?_setIfInBounds, Ne.symm hq]
  have hat : hv_at G i1 (.inl (1, N1, va_cpy f g sp.toNatClampNeg dp.toNatClampNeg z.toNatClampNeg)) (H.setIfInBounds (G.1.1 + i1) cell) := by
    show (H.setIfInBounds (G.1.1 + i1) cell)[G.1.1 + i1]? = some (arrV _ _ _)
    rw [hcell]
    simp [Array.getElem?_setIfInBounds, hl]
  obtain ⟨t, a1, b1⟩ := k _ _ ls (h1.set hat (by simp) oq) (hv_low h2 oq (Nat.le_add_right _ _)) (fun q hq => by
      rcases List.mem_append.mp hq with h | h
      · exact h3 q h
      · obtain ⟨z, -, hz⟩ := List.mem_map.mp h
        rw [← hz]
        exact Nat.le_add_right _ _) h4 _ hheap X'
  exact ⟨t, step t a1, b1⟩
end HWH
