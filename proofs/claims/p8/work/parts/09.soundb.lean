section HCY
variable {G : hv_G} {p : Program} {l : Launch} {e : Env} {R : Room} {s0 : State} {m : MethodId} {args : Array Value} {below : List Frame} {meth : Method} {cd : Code} {nL : Nat} {Q : State → Prop} {Ts : List Cond} {cc : ByteArray} {oc : Nat} {LS : Nat × (Nat → Option Int32)} {call : Nat → hc_M → List Value → Nat → hc_H → Option hc_R} {fr lo : Nat}
theorem hs_getfield (X : hv_X G p s0 m args cd Ts (hc_own oc) cc nL) (hT : ∀ w ∈ hc_gw, w ∈ Ts) {pc n c s : Nat} {lc st : List Value} {h : hc_H} {r : hc_S ⊕ Option Value} {r1 r2 len z : Nat} {ini : Bool} (hd : decode cc pc = .ok (.getfield z, len)) (hk : hc_ok oc ini pc (.getfield z) len r1 r2 = true) (hh : hi_getfield r1 r2 pc lc st n h c s = some r) : hc_res G p l e R s0 m args below meth cd nL pc lc st n h c s r := by
  simp only [hc_ok, Bool.and_eq_true, Bool.or_eq_true] at hk
  have hl : len = 3 := Nat.eq_of_beq_eq_true hk.1
  subst hl
  have hlk : (Cond.fieldLink (hc_own oc) z (hc_T r1 r2).1 (hc_T r1 r2).2.1 (hc_T r1 r2).2.2.1 ∈ Ts ∨ ∃ host : String, Cond.fieldLinkNest (hc_own oc) z (hc_T r1 r2).1 (hc_T r1 r2).2.1 (hc_T r1 r2).2.2.1 host ∈ Ts) ∧ r1 < 11 ∧ r2 < hc_nf r1 := by
    rcases hk.2 with q | q
    · obtain ⟨pl, hpl⟩ := hc_m5_ok q
      obtain ⟨g1, g2, g3⟩ := hl_FL_ok _ hpl
      exact ⟨Or.inl (hT _ (hc_in g1 rfl)), g2, g3⟩
    · obtain ⟨pl, hpl⟩ := hc_m5_ok q
      obtain ⟨g1, g2, g3⟩ := hl_FN_ok _ hpl
      exact ⟨Or.inr ⟨_, hT _ (hc_in g1 rfl)⟩, g2, g3⟩
  obtain ⟨hlk, hr1, hr2⟩ := hlk
  unfold hi_getfield at hh
  split at hh
  next i st =>
    split at hh
    · cases hh
    next fs hfs =>
      split at hh
      · cases hh
      next v hv =>
        cases hh
        refine ⟨Nat.le_refl _, Nat.le_refl _, rfl, fun _ _ Q k => ?_⟩
        have e1 : (fun j => fs.getD j Value.null) r2 = v := by
          rw [hc_nth_eq] at hv
          show fs.getD r2 .null = v
          rw [List.getD_eq_getElem?_getD, hv]
          rfl
        have k' : hv_W G p l e R s0 m args below meth cd nL Q n (hc_f h) c s (pc + 3) (hc_lv lc) ((fun j => fs.getD j Value.null) r2 :: st) := by rw [e1]; exact k
        exact hw_get X hd (hc_cl hr1) (fun w hw => hT w (hc_u hr1 w hw)) hr2 hlk (hc_fI (hc_obj_ok hfs)) k'
  · cases hh
theorem hc_fit_ok {ty : FieldType} {v : Value} (h : hc_fit ty v = true) : narrow ty (hv_v G v) = hv_v G v ∧ fits ty (hv_v G v) = true := by
  unfold hc_fit at h
  split at h
  · cases v <;> first | exact ⟨rfl, rfl⟩ | cases h
  · split at h
    next x =>
      rcases Bool.or_eq_true _ _ ▸ h with q | q
      · have := of_decide_eq_true q
        subst this
        exact ⟨(by decide : narrow .boolean (.int 0) = .int 0), (by decide : fits .boolean (.int 0) = true)⟩
      · have := of_decide_eq_true q
        subst this
        exact ⟨(by decide : narrow .boolean (.int 1) = .int 1), (by decide : fits .boolean (.int 1) = true)⟩
    · cases h
  · split at h <;> first | exact ⟨rfl, rfl⟩ | cases h
  · split at h <;> first | exact ⟨rfl, rfl⟩ | cases h
  · cases h
theorem hs_putfield (X : hv_X G p s0 m args cd Ts (hc_own oc) cc nL) (hT : ∀ w ∈ hc_gw, w ∈ Ts) {pc n c s : Nat} {lc st : List Value} {h : hc_H} {r : hc_S ⊕ Option Value} {r1 r2 len z : Nat} {ini : Bool} (hin : ini = true → meth.name = "<init>") (hd : decode cc pc = .ok (.putfield z, len)) (hk : hc_ok oc ini pc (.putfield z) len r1 r2 = true) (hh : hi_putfield r1 r2 pc lc st n h c s = some r) : hc_res G p l e R s0 m args below meth cd nL pc lc st n h c s r := by
  simp only [hc_ok, Bool.and_eq_true, Bool.or_eq_true, decide_eq_true_eq, Bool.not_eq_true'] at hk
  have hl : len = 3 := Nat.eq_of_beq_eq_true hk.1
  subst hl
  have hlk : ((Cond.fieldLink (hc_own oc) z (hc_T r1 r2).1 (hc_T r1 r2).2.1 (hc_T r1 r2).2.2.1 ∈ Ts ∧ (hc_T r1 r2).2.2.2 = false) ∨ (∃ host : String, Cond.fieldLinkNest (hc_own oc) z (hc_T r1 r2).1 (hc_T r1 r2).2.1 (hc_T r1 r2).2.2.1 host ∈ Ts ∧ (hc_T r1 r2).2.2.2 = false) ∨ (Cond.fieldLink (hc_own oc) z (hc_T r1 r2).1 (hc_T r1 r2).2.1 (hc_T r1 r2).2.2.1 ∈ Ts ∧ (hc_T r1 r2).2.2.2 = true ∧ meth.name = "<init>" ∧ (hc_T r1 r2).1 = hc_own oc)) ∧ r1 < 11 ∧ r2 < hc_nf r1 := by
    rcases hk.2 with ⟨q, w⟩ | ⟨q, w⟩ | ⟨q, w1, w2, w3⟩
    · obtain ⟨pl, hpl⟩ := hc_m5_ok q
      obtain ⟨g1, g2, g3⟩ := hl_FL_ok _ hpl
      exact ⟨Or.inl ⟨hT _ (hc_in g1 rfl), w⟩, g2, g3⟩
    · obtain ⟨pl, hpl⟩ := hc_m5_ok q
      obtain ⟨g1, g2, g3⟩ := hl_FN_ok _ hpl
      exact ⟨Or.inr (Or.inl ⟨_, hT _ (hc_in g1 rfl), w⟩), g2, g3⟩
    · obtain ⟨pl, hpl⟩ := hc_m5_ok q
      obtain ⟨g1, g2, g3⟩ := hl_FL_ok _ hpl
      exact ⟨Or.inr (Or.inr ⟨hT _ (hc_in g1 rfl), w1, hin w2, w3⟩), g2, g3⟩
  obtain ⟨hlk, hr1, hr2⟩ := hlk
  unfold hi_putfield at hh
  split at hh
  next v i st =>
    split at hh
    · cases hh
    next fs hfs =>
      split at hh
      · cases hh
      next hft =>
        split at hh
        · cases hh
        next w hw =>
          split at hh
          · cases hh
          next h' hp' =>
            cases hh
            refine ⟨Nat.le_refl _, Nat.le_refl _, rfl, fun _ _ Q k => ?_⟩
            have hf := hc_fit_ok (G := G) hft
            rw [hc_nth_eq] at hw
            have hlt := (List.getElem?_eq_some_iff.mp hw).1
            have k' : hv_W G p l e R s0 m args below meth cd nL Q n (hv_up (hc_f h) i (.inr (r1, hv_uv (fun j => fs.getD j .null) r2 v))) c s (pc + 3) (hc_lv lc) st := by
              rw [← hc_toE_set hlt, ← hc_set_eq]
              have := hc_f_put hp'
              unfold hc_W at k
              rw [this] at k
              exact k
            exact hw_put X hd (hc_cl hr1) (fun w hw => hT w (hc_u hr1 w hw)) (hc_ty hr1) (hc_nm hr1) hr2 hlk hf.1 hf.2 (hc_fI (hc_obj_ok hfs)) k'
  · cases hh
theorem hsq_ald {t : Nat} {pc n c s : Nat} {lc st : List Value} {h : hc_H} {r : hc_S ⊕ Option Value} (hh : hc_ald t pc lc st n h c s = some r) : ∃ (i : Nat) (a : List Value) (j : Int32) (st' : List Value), st = .int j :: .ref (i + 1) :: st' ∧ hc_f h i = some (.inl (t, a.length, fun j => a.getD j .null)) ∧ vp_in j a.length ∧ r = .inl (pc + 1, lc, a.getD j.toNatClampNeg .null :: st', n, h, c, s) := by
  unfold hc_ald at hh
  split at hh
  next j i st =>
    split at hh
    · cases hh
    next a ha =>
      split at hh
      · cases hh
      next v hv =>
        cases hh
        obtain ⟨g1, g2⟩ := hc_el_ok hv
        exact ⟨i, a, j, st, rfl, hc_fI (hc_arr_ok ha), g1, by rw [g2]⟩
  · cases hh
theorem hs_iaload (X : hv_X G p s0 m args cd Ts (hc_own oc) cc nL) (hT : ∀ w ∈ hc_gw, w ∈ Ts) {pc n c s : Nat} {lc st : List Value} {h : hc_H} {r : hc_S ⊕ Option Value} {r1 r2 len : Nat} {ini : Bool} (hL : hc_LL G LS) (hd : decode cc pc = .ok (.iaload, len)) (hk : hc_ok oc ini pc .iaload len r1 r2 = true) (hh : hi_iaload LS pc lc st n h c s = some r) : hc_res G p l e R s0 m args below meth cd nL pc lc st n h c s r := by
  simp only [hc_ok] at hk
  have hl : len = 1 := Nat.eq_of_beq_eq_true hk
  subst hl
  unfold hi_iaload at hh
  split at hh
  next j st =>
    split at hh
    · cases hh
    next hj =>
      have hj' := Bool.or_eq_false_iff.mp hj
      have hlt : j.toNatClampNeg < LS.1 := by
        have := hj'.2
        exact Nat.not_le.mp (fun q => by rw [Nat.ble_eq_true_of_le q] at this; cases this)
      have h9 : LS.1 < 10000 := hL.2.1
      have hL1 : LS.1 = G.1.2.2 := hL.1.resolve_left (by omega)
      have hin : vp_in j G.1.2.2 := by
        rintro (q | q)
        · exact of_decide_eq_false hj'.1 q
        · rw [← hL1] at q; omega
      split at hh
      next x hx =>
        cases hh
        exact ⟨Nat.le_refl _, Nat.le_refl _, rfl, fun _ _ Q k => hw_sldK X hd hin ((hL.2.2.1 _ _ hx).1 (by omega)) k⟩
      · cases hh
        refine ⟨Nat.le_refl _, Nat.le_refl _, rfl, fun _ _ Q k => hw_sld X hd hin ?_ k⟩
        rw [UInt32.toNat_ofNat']
        exact Nat.mod_eq_of_lt (by have := hL.2.1; omega)
  next st h0 =>
    obtain ⟨i, a, j, st', rfl, g1, g2, rfl⟩ := hsq_ald hh
    exact ⟨Nat.le_refl _, Nat.le_refl _, rfl, fun _ _ Q k => hw_iald X hd g1 g2 k⟩
theorem hs_baload (X : hv_X G p s0 m args cd Ts (hc_own oc) cc nL) (hT : ∀ w ∈ hc_gw, w ∈ Ts) {pc n c s : Nat} {lc st : List Value} {h : hc_H} {r : hc_S ⊕ Option Value} {r1 r2 len : Nat} {ini : Bool} (hd : decode cc pc = .ok (.baload, len)) (hk : hc_ok oc ini pc .baload len r1 r2 = true) (hh : hi_baload pc lc st n h c s = some r) : hc_res G p l e R s0 m args below meth cd nL pc lc st n h c s r := by
  simp only [hc_ok] at hk
  have hl : len = 1 := Nat.eq_of_beq_eq_true hk
  subst hl
  unfold hi_baload at hh
  split at hh
  next r' hr' =>
    cases hh
    obtain ⟨i, a, j, st', rfl, g1, g2, rfl⟩ := hsq_ald hr'
    exact ⟨Nat.le_refl _, Nat.le_refl _, rfl, fun _ _ Q k => hw_bald X hd g1 g2 k⟩
  · obtain ⟨i, a, j, st', rfl, g1, g2, rfl⟩ := hsq_ald hh
    exact ⟨Nat.le_refl _, Nat.le_refl _, rfl, fun _ _ Q k => hw_zald X hd g1 g2 k⟩
theorem hs_laload (X : hv_X G p s0 m args cd Ts (hc_own oc) cc nL) (hT : ∀ w ∈ hc_gw, w ∈ Ts) {pc n c s : Nat} {lc st : List Value} {h : hc_H} {r : hc_S ⊕ Option Value} {r1 r2 len : Nat} {ini : Bool} (hd : decode cc pc = .ok (.laload, len)) (hk : hc_ok oc ini pc .laload len r1 r2 = true) (hh : hi_laload pc lc st n h c s = some r) : hc_res G p l e R s0 m args below meth cd nL pc lc st n h c s r := by
  simp only [hc_ok] at hk
  have hl : len = 1 := Nat.eq_of_beq_eq_true hk
  subst hl
  unfold hi_laload at hh
  obtain ⟨i, a, j, st', rfl, g1, g2, rfl⟩ := hsq_ald hh
  exact ⟨Nat.le_refl _, Nat.le_refl _, rfl, fun _ _ Q k => hw_lald X hd g1 g2 k⟩
theorem hs_aaload (X : hv_X G p s0 m args cd Ts (hc_own oc) cc nL) (hT : ∀ w ∈ hc_gw, w ∈ Ts) {pc n c s : Nat} {lc st : List Value} {h : hc_H} {r : hc_S ⊕ Option Value} {r1 r2 len : Nat} {ini : Bool} (hd : decode cc pc = .ok (.aaload, len)) (hk : hc_ok oc ini pc .aaload len r1 r2 = true) (hh : hi_aaload pc lc st n h c s = some r) : hc_res G p l e R s0 m args below meth cd nL pc lc st n h c s r := by
  simp only [hc_ok] at hk
  have hl : len = 1 := Nat.eq_of_beq_eq_true hk
  subst hl
  unfold hi_aaload at hh
  split at hh
  next r' hr' =>
    cases hh
    obtain ⟨i, a, j, st', rfl, g1, g2, rfl⟩ := hsq_ald hr'
    exact ⟨Nat.le_refl _, Nat.le_refl _, rfl, fun _ _ Q k => hw_aald X hd rfl rfl g1 g2 k⟩
  · obtain ⟨i, a, j, st', rfl, g1, g2, rfl⟩ := hsq_ald hh
    exact ⟨Nat.le_refl _, Nat.le_refl _, rfl, fun _ _ Q k => hw_aald X hd rfl rfl g1 g2 k⟩
theorem hsq_ast {t i : Nat} {j : Int32} {v : Value} {pc n c s : Nat} {lc st : List Value} {h : hc_H} {r : hc_S ⊕ Option Value} (hh : hc_ast t i j v pc lc st n h c s = some r) : ∃ (a : List Value) (h' : hc_H), hc_f h i = some (.inl (t, a.length, fun j => a.getD j .null)) ∧ vp_in j a.length ∧ r = .inl (pc + 1, lc, st, n, h', c, s) ∧ hc_f h' = hv_up (hc_f h) i (.inl (t, a.length, hv_uv (fun j => a.getD j .null) j.toNatClampNeg v)) := by
  unfold hc_ast at hh
  split at hh
  · cases hh
  next a ha =>
    split at hh
    · cases hh
    next w hw =>
      split at hh
      · cases hh
      next h' hp' =>
        cases hh
        obtain ⟨g1, g2⟩ := hc_el_ok hw
        have hlt : j.toNatClampNeg < a.length := Nat.not_le.mp fun q => g1 (Or.inr q)
        refine ⟨a, h', hc_fI (hc_arr_ok ha), g1, rfl, ?_⟩
        rw [hc_f_put hp', hc_set_eq]
        show hv_up _ _ (.inl (t, (a.set j.toNatClampNeg v).length, fun i => (a.set j.toNatClampNeg v).getD i .null)) = _
        rw [hc_toE_set hlt, List.length_set]
theorem hs_iastore (X : hv_X G p s0 m args cd Ts (hc_own oc) cc nL) (hT : ∀ w ∈ hc_gw, w ∈ Ts) {pc n c s : Nat} {lc st : List Value} {h : hc_H} {r : hc_S ⊕ Option Value} {r1 r2 len : Nat} {ini : Bool} (hd : decode cc pc = .ok (.iastore, len)) (hk : hc_ok oc ini pc .iastore len r1 r2 = true) (hh : hi_iastore pc lc st n h c s = some r) : hc_res G p l e R s0 m args below meth cd nL pc lc st n h c s r := by
  simp only [hc_ok] at hk
  have hl : len = 1 := Nat.eq_of_beq_eq_true hk
  subst hl
  unfold hi_iastore at hh
  split at hh
  next x j i st =>
    obtain ⟨a, h', g1, g2, rfl, g3⟩ := hsq_ast hh
    exact ⟨Nat.le_refl _, Nat.le_refl _, rfl, fun _ _ Q k => hw_iast X hd rfl g1 g2 (by unfold hc_W at k; rw [g3] at k; exact k)⟩
  next x j i st =>
    obtain ⟨a, h', g1, g2, rfl, g3⟩ := hsq_ast hh
    exact ⟨Nat.le_refl _, Nat.le_refl _, rfl, fun _ _ Q k => hw_iast X hd rfl g1 g2 (by unfold hc_W at k; rw [g3] at k; exact k)⟩
  · cases hh
theorem hs_bastore (X : hv_X G p s0 m args cd Ts (hc_own oc) cc nL) (hT : ∀ w ∈ hc_gw, w ∈ Ts) {pc n c s : Nat} {lc st : List Value} {h : hc_H} {r : hc_S ⊕ Option Value} {r1 r2 len : Nat} {ini : Bool} (hL : hc_LL G LS) (hd : decode cc pc = .ok (.bastore, len)) (hk : hc_ok oc ini pc .bastore len r1 r2 = true) (hh : hi_bastore pc lc st n h c s = some r) : hc_res G p l e R s0 m args below meth cd nL pc lc st n h c s r := by
  simp only [hc_ok] at hk
  have hl : len = 1 := Nat.eq_of_beq_eq_true hk
  subst hl
  unfold hi_bastore at hh
  split at hh
  next x j i st =>
    split at hh
    · obtain ⟨a, h', g1, g2, rfl, g3⟩ := hsq_ast hh
      exact ⟨Nat.le_refl _, Nat.le_refl _, rfl, fun _ _ Q k => hw_bast X hd g1 g2 (by unfold hc_W at k; rw [g3] at k; exact k)⟩
    · split at hh
      next hx =>
        have hy : narrow .boolean (.int x) = .int x := by
          rcases Bool.or_eq_true _ _ ▸ hx with q | q
          · have := of_decide_eq_true q
            subst this
            decide
          · have := of_decide_eq_true q
            subst this
            decide
        obtain ⟨a, h', g1, g2, rfl, g3⟩ := hsq_ast hh
        exact ⟨Nat.le_refl _, Nat.le_refl _, rfl, fun _ _ Q k => hw_zast X hd hy g1 g2 (by unfold hc_W at k; rw [g3] at k; exact k)⟩
      · cases hh
  next x j i st =>
    split at hh
    next hc =>
      simp only [Bool.and_eq_true] at hc
      have c1 := Nat.le_of_ble_eq_true hc.1
      have c2 := Nat.le_of_ble_eq_true hc.2
      obtain ⟨a, h', g1, g2, rfl, g3⟩ := hsq_ast hh
      have hv := hL.2.2.2.2 (x.toNat - 30000) (by omega) (by omega)
      rw [show 30000 + (x.toNat - 30000) = x.toNat by omega] at hv
      exact ⟨Nat.le_refl _, Nat.le_refl _, rfl, fun _ _ Q k => hw_bastS X hd hv g1 g2 (by unfold hc_W at k; rw [g3] at k; exact k)⟩
    · cases hh
  · cases hh
theorem hs_lastore (X : hv_X G p s0 m args cd Ts (hc_own oc) cc nL) (hT : ∀ w ∈ hc_gw, w ∈ Ts) {pc n c s : Nat} {lc st : List Value} {h : hc_H} {r : hc_S ⊕ Option Value} {r1 r2 len : Nat} {ini : Bool} (hd : decode cc pc = .ok (.lastore, len)) (hk : hc_ok oc ini pc .lastore len r1 r2 = true) (hh : hi_lastore pc lc st n h c s = some r) : hc_res G p l e R s0 m args below meth cd nL pc lc st n h c s r := by
  simp only [hc_ok] at hk
  have hl : len = 1 := Nat.eq_of_beq_eq_true hk
  subst hl
  unfold hi_lastore at hh
  split at hh
  next x j i st =>
    obtain ⟨a, h', g1, g2, rfl, g3⟩ := hsq_ast hh
    exact ⟨Nat.le_refl _, Nat.le_refl _, rfl, fun _ _ Q k => hw_last X hd g1 g2 (by unfold hc_W at k; rw [g3] at k; exact k)⟩
  · cases hh
theorem hs_aastore (X : hv_X G p s0 m args cd Ts (hc_own oc) cc nL) (hT : ∀ w ∈ hc_gw, w ∈ Ts) {pc n c s : Nat} {lc st : List Value} {h : hc_H} {r : hc_S ⊕ Option Value} {r1 r2 len : Nat} {ini : Bool} (hd : decode cc pc = .ok (.aastore, len)) (hk : hc_ok oc ini pc .aastore len r1 r2 = true) (hh : hi_aastore pc lc st n h c s = some r) : hc_res G p l e R s0 m args below meth cd nL pc lc st n h c s r := by
  simp only [hc_ok] at hk
  have hl : len = 1 := Nat.eq_of_beq_eq_true hk
  subst hl
  unfold hi_aastore at hh
  split at hh
  next iv j i st =>
    split at hh
    · cases hh
    next fs hfs =>
      obtain ⟨a, h', g1, g2, rfl, g3⟩ := hsq_ast hh
      exact ⟨Nat.le_refl _, Nat.le_refl _, rfl, fun _ _ Q k => hw_aast (r := (RX2, TX2, 11)) X hd rfl g1 (hc_fI (hc_obj_ok hfs)) rfl g2 (by unfold hc_W at k; rw [g3] at k; exact k)⟩
  · cases hh
theorem hs_arraylength (X : hv_X G p s0 m args cd Ts (hc_own oc) cc nL) (hT : ∀ w ∈ hc_gw, w ∈ Ts) {pc n c s : Nat} {lc st : List Value} {h : hc_H} {r : hc_S ⊕ Option Value} {r1 r2 len : Nat} {ini : Bool} (hL : LS.1 = 0 ∨ LS.1 = G.1.2.2) (hd : decode cc pc = .ok (.arraylength, len)) (hk : hc_ok oc ini pc .arraylength len r1 r2 = true) (hh : hi_arraylength LS pc lc st n h c s = some r) : hc_res G p l e R s0 m args below meth cd nL pc lc st n h c s r := by
  simp only [hc_ok] at hk
  have hl : len = 1 := Nat.eq_of_beq_eq_true hk
  subst hl
  unfold hi_arraylength at hh
  split at hh
  next st =>
    split at hh
    · cases hh
    next h0 =>
      cases hh
      have hL1 : LS.1 = G.1.2.2 := hL.resolve_left (fun q => by rw [q] at h0; cases h0)
      exact ⟨Nat.le_refl _, Nat.le_refl _, rfl, fun _ _ Q k => hw_slen X hd (by rw [hL1]) k⟩
  next i st =>
    split at hh
    next a ha =>
      split at hh
      · cases hh
      next hb =>
        cases hh
        have hlt : a.1 < 6 := Nat.not_le.mp (fun q => by rw [Nat.ble_eq_true_of_le q] at hb; cases hb)
        have hty : ∃ ty, hv_tyl[a.1]? = some ty := ⟨hv_tyl[a.1]'hlt, List.getElem?_eq_getElem hlt⟩
        obtain ⟨ty, hty⟩ := hty
        exact ⟨Nat.le_refl _, Nat.le_refl _, rfl, fun _ _ Q k => hw_alen X hd hty (hc_fI ha) rfl k⟩
    · cases hh
  · cases hh
theorem hc_dvv {ty : FieldType} (h : hc_def ty = true) : defaultValue ty = hv_v G (defaultValue ty) := by
  unfold hc_def at h
  split at h <;> first | rfl | cases h
theorem hs_new (X : hv_X G p s0 m args cd Ts (hc_own oc) cc nL) (hT : ∀ w ∈ hc_gw, w ∈ Ts) {pc n c s : Nat} {lc st : List Value} {h : hc_H} {r : hc_S ⊕ Option Value} {r1 r2 len z : Nat} {ini : Bool} (hd : decode cc pc = .ok (.new z, len)) (hk : hc_ok oc ini pc (.new z) len r1 r2 = true) (hh : hi_new r1 pc lc st n h c s = some r) : hc_res G p l e R s0 m args below meth cd nL pc lc st n h c s r := by
  simp only [hc_ok, Bool.and_eq_true] at hk
  have hl : len = 3 := Nat.eq_of_beq_eq_true hk.1
  subst hl
  obtain ⟨pl, hpl⟩ := hc_m4_ok hk.2
  obtain ⟨g1, hr1⟩ := hl_NW_ok _ hpl
  have hr1 : r1 < 11 := hr1
  obtain ⟨i1, i2⟩ := hl_IN_all r1 (List.mem_range.mpr hr1)
  obtain ⟨p1, hp1⟩ := hc_m2_ok i1
  obtain ⟨p2, hp2⟩ := hc_m2_ok i2
  unfold hi_new at hh
  split at hh
  · cases hh
  next h' hp' =>
    cases hh
    refine ⟨Nat.le_add_right _ _, Nat.le_add_right _ _, rfl, fun q1 q2 Q k => ?_⟩
    refine hw_new X hd (hc_cl hr1) (fun w hw => hT w (hc_u hr1 w hw)) (hc_ty hr1) (hT _ (hc_in g1 rfl)) (hT _ (hc_in (hl_IN_ok _ hp1) rfl)) (hT _ (hc_in (hl_IC_ok _ hp2) rfl)) (f := fun j => ((List.range (hc_nf r1)).map (fun k => defaultValue (hc_tyX r1 k))).getD j .null) ?_ q1 q2 ?_
    · intro j hj
      rw [List.getD_eq_getElem?_getD]
      simp only [List.getElem?_map, List.getElem?_range hj, Option.map_some, Option.getD_some]
      exact hc_dvv (hc_dv r1 hr1 j hj)
    · unfold hc_W at k
      rw [hc_f_put hp'] at k
      exact k
theorem hc_ble {a b : Nat} (h : Nat.ble a b = false) : b < a := Nat.not_le.mp (fun q => by rw [Nat.ble_eq_true_of_le q] at h; cases h)
def hv_sim (x y : Option hv_E) : Prop := x = y ∨ ∃ (t N : Nat) (f g : Nat → Value), x = some (.inl (t, N, f)) ∧ y = some (.inl (t, N, g)) ∧ ∀ j, j < N → f j = g j
theorem hv_sim_P {n : Nat} {hp hp' : hv_H} {H : Heap} (h : ∀ i, hv_sim (hp i) (hp' i)) (hP : hv_P G n hp H) : hv_P G n hp' H := by
  refine ⟨hP.1, fun i x hx => ?_⟩
  rcases h i with q | ⟨t, N, f, g, q1, q2, q3⟩
  · exact hP.2 i x (q.trans hx)
  · rw [q2] at hx
    cases hx
    have := hP.2 i _ q1
    show H[G.1.1 + i]? = some (arrV _ _ _)
    have e1 : arrV (G.2.2.2 t) N (fun j => hv_v G (f j)) = arrV (G.2.2.2 t) N (fun j => hv_v G (g j)) := by
      unfold arrV
      congr 2
      funext j
      exact congrArg (hv_v G) (q3 j.val j.isLt)
    rw [← e1]
    exact this
theorem hc_sim {n c s pc : Nat} {hp hp' : hv_H} {lv : List (Nat × Value)} {st : List Value} (h : ∀ i, hv_sim (hp i) (hp' i)) (k : hv_W G p l e R s0 m args below meth cd nL Q n hp' c s pc lv st) : hv_W G p l e R s0 m args below meth cd nL Q n hp c s pc lv st := fun H locs ls h1 h2 h3 h4 => k H locs ls (hv_sim_P h h1) h2 h3 h4
theorem hv_sim_up {hp : hv_H} {i t N : Nat} {f g : Nat → Value} (h : ∀ j, j < N → f j = g j) (x : Nat) : hv_sim (hv_up hp i (.inl (t, N, f)) x) (hv_up hp i (.inl (t, N, g)) x) := by
  unfold hv_up
  by_cases hx : x = i
  · rw [if_pos hx, if_pos hx]
    exact Or.inr ⟨t, N, f, g, rfl, rfl, h⟩
  · rw [if_neg hx, if_neg hx]
    exact Or.inl rfl
theorem hc_upL {hp : hv_H} {i t N : Nat} {a : List Value} (hl : a.length = N) : hv_up hp i (hc_toE (.inl (t, a))) = hv_up hp i (.inl (t, N, fun j => a.getD j .null)) := by
  subst hl
  rfl
theorem hc_getr {N j : Nat} {v : Value} (hj : j < N) : (List.replicate N v).getD j .null = v := by
  rw [List.getD_eq_getElem?_getD, List.getElem?_replicate, if_pos hj]
  rfl
theorem hs_newarray (X : hv_X G p s0 m args cd Ts (hc_own oc) cc nL) (hT : ∀ w ∈ hc_gw, w ∈ Ts) {pc n c s : Nat} {lc st : List Value} {h : hc_H} {r : hc_S ⊕ Option Value} {r1 r2 len : Nat} {ty : ArrayType} {ini : Bool} (hd : decode cc pc = .ok (.newarray ty, len)) (hk : hc_ok oc ini pc (.newarray ty) len r1 r2 = true) (hh : hi_newarray r1 pc lc st n h c s = some r) : hc_res G p l e R s0 m args below meth cd nL pc lc st n h c s r := by
  simp only [hc_ok, Bool.and_eq_true, decide_eq_true_eq] at hk
  have hl : len = 2 := Nat.eq_of_beq_eq_true hk.1
  subst hl
  obtain ⟨-, hty, hpv⟩ := hk
  unfold hi_newarray at hh
  split at hh
  next j st =>
    split at hh
    · cases hh
    next hj =>
      have hj' := Bool.or_eq_false_iff.mp hj
      have hlt := hc_ble hj'.2
      split at hh
      · cases hh
      next h' hp' =>
        cases hh
        refine ⟨Nat.le_add_right _ _, Nat.le_add_right _ _, rfl, fun q1 q2 Q k => ?_⟩
        unfold hc_W at k
        rw [hc_f_put hp', hc_upL (List.length_replicate)] at k
        have hcb : j.toNatClampNeg * componentBytes (newarray.typeOf ty) ≤ 536870912 := by
          generalize newarray.typeOf ty = t at hpv
          cases t <;> first | (cases hpv; done) | (show j.toNatClampNeg * _ ≤ _; simp only [componentBytes]; omega)
        have hw : Cond.arrayClass (newarray.typeOf ty) ∈ hc_gw := by
          generalize newarray.typeOf ty = t at hpv
          cases t <;> first | (cases hpv; done) | exact hl_arr_byte | exact hl_arr_int | exact hl_arr_long | exact hl_arr_boolean
        have hv : defaultValue (newarray.typeOf ty) = hv_v G (hc_zero r1) ∧ ∀ C : String, newarray.typeOf ty ≠ .object C := by
          generalize newarray.typeOf ty = t at hty hpv
          match r1, hty with
          | 0, hty => cases hty; exact ⟨rfl, fun C q => by cases q⟩
          | 1, hty => cases hty; exact ⟨rfl, fun C q => by cases q⟩
          | 2, hty => cases hty; exact ⟨rfl, fun C q => by cases q⟩
          | 3, hty => cases hty; exact ⟨rfl, fun C q => by cases q⟩
          | 4, hty => cases hty; cases hpv
          | 5, hty => cases hty; cases hpv
          | t + 6, hty => simp [hv_tyl] at hty
        refine hw_newa X hd rfl hty hv.2 (hT _ hw) hv.1 (of_decide_eq_false hj'.1) rfl hcb q1 q2 ?_
        exact hc_sim (hv_sim_up (fun i hi => (hc_getr hi).symm)) k
  · cases hh
theorem hs_anewarray (X : hv_X G p s0 m args cd Ts (hc_own oc) cc nL) (hT : ∀ w ∈ hc_gw, w ∈ Ts) {pc n c s : Nat} {lc st : List Value} {h : hc_H} {r : hc_S ⊕ Option Value} {r1 r2 len z : Nat} {ini : Bool} (hd : decode cc pc = .ok (.anewarray z, len)) (hk : hc_ok oc ini pc (.anewarray z) len r1 r2 = true) (hh : hi_anewarray pc lc st n h c s = some r) : hc_res G p l e R s0 m args below meth cd nL pc lc st n h c s r := by
  simp only [hc_ok, Bool.and_eq_true] at hk
  have hl : len = 3 := Nat.eq_of_beq_eq_true hk.1
  subst hl
  obtain ⟨pl, hpl⟩ := hc_m3_ok hk.2
  unfold hi_anewarray at hh
  split at hh
  next j st =>
    split at hh
    · cases hh
    next hj =>
      have hj' := Bool.or_eq_false_iff.mp hj
      have hlt := hc_ble hj'.2
      split at hh
      · cases hh
      next h' hp' =>
        cases hh
        refine ⟨Nat.le_add_right _ _, Nat.le_add_right _ _, rfl, fun q1 q2 Q k => ?_⟩
        unfold hc_W at k
        rw [hc_f_put hp', hc_upL (List.length_replicate)] at k
        refine hw_newq X hd (t := 4) rfl (hT _ (hc_in (hl_AN_ok _ hpl) rfl)) (hT _ hl_aoL) (of_decide_eq_false hj'.1) rfl (by omega) q1 q2 ?_
        exact hc_sim (hv_sim_up (fun i hi => (hc_getr hi).symm)) k
  · cases hh
theorem hc_rows_ok : ∀ (N n K : Nat) (t t' : hc_H), hc_rows t n K N = some t' → ∀ j, hc_get t' j = if n ≤ j ∧ j < n + N then some (.inl (1, List.replicate K (.int 0))) else hc_get t j
  | 0, n, K, t, t', h, j => by
    cases h
    rw [if_neg (by omega)]
  | N + 1, n, K, t, t', h, j => by
    have h' : (match hc_rows t n K N with | none => none | some t => hc_put t (n + N) (.inl (1, List.replicate K (.int 0)))) = some t' := h
    split at h'
    · cases h'
    next t1 h1 =>
      rw [hc_get_put h' j, hc_rows_ok N n K t t1 h1 j]
      by_cases e : j = n + N
      · subst e
        rw [if_pos rfl, if_pos (by omega)]
      · rw [if_neg e]
        by_cases e2 : n ≤ j ∧ j < n + N
        · rw [if_pos e2, if_pos (by omega)]
        · rw [if_neg e2, if_neg (by omega)]
theorem hs_multianewarray (X : hv_X G p s0 m args cd Ts (hc_own oc) cc nL) (hT : ∀ w ∈ hc_gw, w ∈ Ts) {pc n c s : Nat} {lc st : List Value} {h : hc_H} {r : hc_S ⊕ Option Value} {r1 r2 len z d : Nat} {ini : Bool} (hd : decode cc pc = .ok (.multianewarray z d, len)) (hk : hc_ok oc ini pc (.multianewarray z d) len r1 r2 = true) (hh : hi_multianewarray pc lc st n h c s = some r) : hc_res G p l e R s0 m args below meth cd nL pc lc st n h c s r := by
  simp only [hc_ok, Bool.and_eq_true] at hk
  have hl : len = 4 := Nat.eq_of_beq_eq_true hk.1
  subst hl
  have hd2 : d = 2 := Nat.eq_of_beq_eq_true hk.2.1
  subst hd2
  obtain ⟨pl, hpl⟩ := hc_m3_ok hk.2.2
  unfold hi_multianewarray at hh
  split at hh
  next b a st =>
    split at hh
    · cases hh
    next hj =>
      have g1 := Bool.or_eq_false_iff.mp hj
      have g2 := Bool.or_eq_false_iff.mp g1.1
      have g3 := Bool.or_eq_false_iff.mp g2.1
      have hb := hc_ble g1.2
      have ha := hc_ble g2.2
      split at hh
      · cases hh
      next h1 hp1 =>
        split at hh
        · cases hh
        next h2 hp2 =>
          cases hh
          refine ⟨by show c ≤ c + 1 + a.toNatClampNeg; omega, by show s ≤ s + a.toNatClampNeg + a.toNatClampNeg * b.toNatClampNeg; omega, rfl, fun q1 q2 Q k => ?_⟩
          refine hw_mna X hd (hT _ (hc_in (hl_MM_ok _ hpl) rfl)) (hT _ hl_aoI) (hT _ hl_arr_int) (of_decide_eq_false g3.1) (of_decide_eq_false g3.2) rfl rfl (by omega) (by omega) (by have : c + 1 + a.toNatClampNeg ≤ R.cells := q1; omega) (by have : s + a.toNatClampNeg + a.toNatClampNeg * b.toNatClampNeg ≤ R.slots := q2; omega) (hc_sim ?_ k)
          intro i
          have hg := hc_rows_ok _ _ _ _ _ hp2 i
          rw [hc_get_put hp1 i] at hg
          unfold hv_mH hc_f
          rw [hg]
          by_cases e1 : i = n
          · subst e1
            rw [if_pos rfl, if_neg (by omega), if_pos rfl]
            refine Or.inr ⟨5, a.toNatClampNeg, _, fun j => ((List.range a.toNatClampNeg).map (fun x => Value.ref (i + 1 + x + 1))).getD j .null, rfl, ?_, fun j hj => ?_⟩
            · show some (Sum.inl (5, ((List.range a.toNatClampNeg).map (fun x => Value.ref (i + 1 + x + 1))).length, _)) = _
              rw [List.length_map, List.length_range]
            · rw [if_pos hj]
              show _ = List.getD _ j Value.null
              rw [List.getD_eq_getElem?_getD]
              simp [hj]
          · rw [if_neg e1]
            by_cases e2 : n < i ∧ i < n + 1 + a.toNatClampNeg
            · rw [if_pos e2, if_pos (by omega)]
              refine Or.inr ⟨1, b.toNatClampNeg, _, fun j => (List.replicate b.toNatClampNeg (Value.int 0)).getD j .null, rfl, ?_, fun j hj => (hc_getr hj).symm⟩
              show some (Sum.inl (1, (List.replicate b.toNatClampNeg (Value.int 0)).length, _)) = _
              rw [List.length_replicate]
            · rw [if_neg e2, if_neg (by omega), if_neg e1]
              exact Or.inl rfl
  · cases hh
end HCY
