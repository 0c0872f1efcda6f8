/-! THE ORACLE: the small questions that are asked of an int of the script that isn't known -/
section HO
variable {G : hv_G} {l : Launch}
theorem ho_fl {oc ix ci kf : Nat} (h : hc_m5 hl_FL oc ix ci kf = true) : Cond.fieldLink (hc_own oc) ix (hc_T ci kf).1 (hc_T ci kf).2.1 (hc_T ci kf).2.2.1 ∈ hc_gw ∧ ci < 11 ∧ kf < hc_nf ci := by
  obtain ⟨pl, hpl⟩ := hc_m5_ok h
  obtain ⟨g1, g2, g3⟩ := hl_FL_ok _ hpl
  exact ⟨hc_in g1 rfl, g2, g3⟩
theorem ho_fn {oc ix ci kf : Nat} (h : hc_m5 hl_FN oc ix ci kf = true) : Cond.fieldLinkNest (hc_own oc) ix (hc_T ci kf).1 (hc_T ci kf).2.1 (hc_T ci kf).2.2.1 "HeardNext" ∈ hc_gw ∧ ci < 11 ∧ kf < hc_nf ci := by
  obtain ⟨pl, hpl⟩ := hc_m5_ok h
  obtain ⟨g1, g2, g3⟩ := hl_FN_ok _ hpl
  exact ⟨hc_in g1 rfl, g2, g3⟩
/-- isWithin, in: (x, a, b) -/
theorem ho_within {gw : List Cond} {y : MethodName} {cc : ByteArray} (hpl : plainFor y = true) (d0 : decode cc 0 = .ok (.iload_n 0, 1)) (d1 : decode cc 1 = .ok (.iload_n 1, 1)) (d2 : decode cc 2 = .ok (.if_icmp .lt 12, 3)) (d5 : decode cc 5 = .ok (.iload_n 0, 1)) (d6 : decode cc 6 = .ok (.iload_n 2, 1)) (d7 : decode cc 7 = .ok (.if_icmp .gt 7, 3)) (d10 : decode cc 10 = .ok (.iconst 1, 1)) (d11 : decode cc 11 = .ok (.goto 4, 3)) (d14 : decode cc 14 = .ok (.iconst 0, 1)) (d15 : decode cc 15 = .ok (.ireturn, 1)) {j : UInt32} {a b v : Int32} (hv : (v = 1 ∧ a ≤ G.2.1 j.toNat ∧ G.2.1 j.toNat ≤ b) ∨ (v = 0 ∧ ¬ (a ≤ G.2.1 j.toNat ∧ G.2.1 j.toNat ≤ b))) (n fr lo : Nat) (hp : hv_H) :
    hv_C G gw l y cc 3 (some .boolean) fr lo n hp [.float j, .int a, .int b] (some (.int v)) n hp 0 0 := by
  refine hv_C.of hpl (Nat.le_refl _) ?_
  intro p e s m args below meth c X hr hlk hnm
  refine hw_iload_nS X d0 rfl (List.mem_of_getElem? (i := 0) rfl) ?_
  refine hw_iload_n X d1 rfl (List.mem_of_getElem? (i := 1) rfl) ?_
  refine hw_icmpSI_lt (tgt := 14) X d2 rfl rfl (fun q => ?_) (fun q => ?_)
  · have : v = 0 := by
      rcases hv with ⟨-, h, -⟩ | ⟨h, -⟩
      · exact absurd h (Int32.not_le.mpr q)
      · exact h
    subst this
    refine hw_iconst (v := 0) X d14 (by decide) ?_
    exact hw_iret X hlk hr (x := 0) rfl (by decide) d15
  · refine hw_iload_nS X d5 rfl (List.mem_of_getElem? (i := 0) rfl) ?_
    refine hw_iload_n X d6 rfl (List.mem_of_getElem? (i := 2) rfl) ?_
    refine hw_icmpSI_gt (tgt := 14) X d7 rfl rfl (fun q2 => ?_) (fun q2 => ?_)
    · have : v = 0 := by
        rcases hv with ⟨-, -, h⟩ | ⟨h, -⟩
        · exact absurd h (Int32.not_le.mpr q2)
        · exact h
      subst this
      refine hw_iconst (v := 0) X d14 (by decide) ?_
      exact hw_iret X hlk hr (x := 0) rfl (by decide) d15
    · have : v = 1 := by
        rcases hv with ⟨h, -⟩ | ⟨-, h⟩
        · exact h
        · exact absurd ⟨Int32.not_lt.mp q, Int32.not_lt.mp q2⟩ h
      subst this
      refine hw_iconst (v := 1) X d10 (by decide) ?_
      refine hw_goto (tgt := 15) X d11 rfl ?_
      exact hw_iret X hlk hr (x := 1) rfl (by decide) d15
theorem ho_programme {gw : List Cond} {y : MethodName} {cc : ByteArray} (hpl : plainFor y = true) (d0 : decode cc 0 = .ok (.iload_n 0, 1)) (d1 : decode cc 1 = .ok (.ifCond .lt 14, 3)) (d4 : decode cc 4 = .ok (.iload_n 0, 1)) (d5 : decode cc 5 = .ok (.sipush 256, 3)) (d8 : decode cc 8 = .ok (.if_icmp .ge 7, 3)) (d11 : decode cc 11 = .ok (.iconst 1, 1)) (d12 : decode cc 12 = .ok (.goto 4, 3)) (d15 : decode cc 15 = .ok (.iconst 0, 1)) (d16 : decode cc 16 = .ok (.ireturn, 1)) {j : UInt32} {v : Int32} (hv : (v = 1 ∧ 0 ≤ G.2.1 j.toNat ∧ G.2.1 j.toNat ≤ 255) ∨ (v = 0 ∧ ¬ (0 ≤ G.2.1 j.toNat ∧ G.2.1 j.toNat ≤ 255))) (n fr lo : Nat) (hp : hv_H) :
    hv_C G gw l y cc 1 (some .boolean) fr lo n hp [.float j] (some (.int v)) n hp 0 0 := by
  have h255 : ∀ x : Int32, ¬ 256 ≤ x ↔ x ≤ 255 := by
    intro x
    rw [Int32.le_iff_toInt_le, Int32.le_iff_toInt_le]
    have h1 : (256 : Int32).toInt = 256 := by decide
    have h2 : (255 : Int32).toInt = 255 := by decide
    omega
  refine hv_C.of hpl (Nat.le_refl _) ?_
  intro p e s m args below meth c X hr hlk hnm
  refine hw_iload_nS X d0 rfl (List.mem_of_getElem? (i := 0) rfl) ?_
  refine hw_ifS_lt (tgt := 15) X d1 rfl rfl (fun q => ?_) (fun q => ?_)
  · have : v = 0 := by
      rcases hv with ⟨-, h, -⟩ | ⟨h, -⟩
      · exact absurd h (Int32.not_le.mpr q)
      · exact h
    subst this
    refine hw_iconst (v := 0) X d15 (by decide) ?_
    exact hw_iret X hlk hr (x := 0) rfl (by decide) d16
  · refine hw_iload_nS X d4 rfl (List.mem_of_getElem? (i := 0) rfl) ?_
    refine hw_sipush (v := 256) X d5 (by decide) ?_
    refine hw_icmpSI_ge (tgt := 15) X d8 rfl rfl (fun q2 => ?_) (fun q2 => ?_)
    · have : v = 0 := by
        rcases hv with ⟨-, -, h⟩ | ⟨h, -⟩
        · exact absurd q2 ((h255 _).mpr h)
        · exact h
      subst this
      refine hw_iconst (v := 0) X d15 (by decide) ?_
      exact hw_iret X hlk hr (x := 0) rfl (by decide) d16
    · have : v = 1 := by
        rcases hv with ⟨h, -⟩ | ⟨-, h⟩
        · exact h
        · exact absurd ⟨Int32.not_lt.mp q, (h255 _).mp q2⟩ h
      subst this
      refine hw_iconst (v := 1) X d11 (by decide) ?_
      refine hw_goto (tgt := 16) X d12 rfl ?_
      exact hw_iret X hlk hr (x := 1) rfl (by decide) d16
/-- isHouse where there are none -/
theorem ho_house {y : MethodName} {cc : ByteArray} (hpl : plainFor y = true) (hoc : hc_own 9 = y.cls) (d0 : decode cc 0 = .ok (.iload_n 1, 1)) (d1 : decode cc 1 = .ok (.ifCond .lt 24, 3)) (d4 : decode cc 4 = .ok (.iload_n 1, 1)) (d5 : decode cc 5 = .ok (.aload_n 0, 1)) (d6 : decode cc 6 = .ok (.getfield 20, 3)) (d9 : decode cc 9 = .ok (.getfield 125, 3)) (d12 : decode cc 12 = .ok (.if_icmp .ge 13, 3)) (d25 : decode cc 25 = .ok (.iconst 0, 1)) (d26 : decode cc 26 = .ok (.ireturn, 1)) {j : UInt32} {i t : Nat} {f g : Nat → Value} {hp : hv_H} (hi : hp i = some (.inr (9, f))) (hf : f 3 = .ref (t + 1)) (ht : hp t = some (.inr (5, g))) (hg : g 4 = .int 0) (n fr lo : Nat) :
    hv_C G hc_gw l y cc 2 (some .boolean) fr lo n hp [.ref (i + 1), .float j] (some (.int 0)) n hp 0 0 := by
  refine hv_C.of hpl (Nat.le_refl _) ?_
  intro p e s m args below meth c X hr hlk hnm
  rw [← hoc] at X
  have hT : ∀ w ∈ hc_gw, w ∈ (Cond.code y cc 2 (some .boolean) :: hc_gw) := fun w h => List.mem_cons_of_mem _ h
  obtain ⟨w1, w2, w3⟩ := ho_fl (oc := 9) (ix := 20) (ci := 9) (kf := 3) (by decide +kernel)
  obtain ⟨v1, v2, v3⟩ := ho_fn (oc := 9) (ix := 125) (ci := 5) (kf := 4) (by decide +kernel)
  refine hw_iload_nS X d0 rfl (List.mem_of_getElem? (i := 1) rfl) ?_
  refine hw_ifS_lt (tgt := 25) X d1 rfl rfl (fun q => ?_) (fun q => ?_)
  · refine hw_iconst (v := 0) X d25 (by decide) ?_
    exact hw_iret X hlk hr (x := 0) rfl (by decide) d26
  · refine hw_iload_nS X d4 rfl (List.mem_of_getElem? (i := 1) rfl) ?_
    refine hw_aload_n X d5 rfl (List.mem_of_getElem? (i := 0) rfl) ?_
    refine hw_get X d6 (hc_cl w2) (fun w hw => hT w (hc_u w2 w hw)) w3 (Or.inl (hT _ w1)) hi ?_
    rw [hf]
    refine hw_get X d9 (hc_cl v2) (fun w hw => hT w (hc_u v2 w hw)) v3 (Or.inr ⟨_, hT _ v1⟩) ht ?_
    rw [hg]
    refine hw_icmpSI_ge (tgt := 25) X d12 rfl rfl (fun q2 => ?_) (fun q2 => ?_)
    · refine hw_iconst (v := 0) X d25 (by decide) ?_
      exact hw_iret X hlk hr (x := 0) rfl (by decide) d26
    · exact absurd (Int32.not_lt.mp q) q2
/-- back, where nothing is on the tape: an n that isn't 0 -/
theorem ho_back {oc ix ci kf : Nat} {y : MethodName} {cc : ByteArray} (hpl : plainFor y = true) (hoc : hc_own oc = y.cls) (hfl : hc_m5 hl_FL oc ix ci kf = true) (d0 : decode cc 0 = .ok (.iload_n 1, 1)) (d1 : decode cc 1 = .ok (.ifCond .lt 11, 3)) (d4 : decode cc 4 = .ok (.iload_n 1, 1)) (d5 : decode cc 5 = .ok (.aload_n 0, 1)) (d6 : decode cc 6 = .ok (.getfield ix, 3)) (d9 : decode cc 9 = .ok (.if_icmp .le 5, 3)) (d12 : decode cc 12 = .ok (.iconst (-1), 1)) (d13 : decode cc 13 = .ok (.ireturn, 1)) {j : UInt32} {i : Nat} {f : Nat → Value} {hp : hv_H} (hi : hp i = some (.inr (ci, f))) (hf : f kf = .int 0) (hv : ¬ (0 ≤ G.2.1 j.toNat ∧ G.2.1 j.toNat ≤ 0)) (n fr lo : Nat) :
    hv_C G hc_gw l y cc 2 (some .int) fr lo n hp [.ref (i + 1), .float j] (some (.int (-1))) n hp 0 0 := by
  refine hv_C.of hpl (Nat.le_refl _) ?_
  intro p e s m args below meth c X hr hlk hnm
  rw [← hoc] at X
  have hT : ∀ w ∈ hc_gw, w ∈ (Cond.code y cc 2 (some .int) :: hc_gw) := fun w h => List.mem_cons_of_mem _ h
  obtain ⟨w1, w2, w3⟩ := ho_fl hfl
  refine hw_iload_nS X d0 rfl (List.mem_of_getElem? (i := 1) rfl) ?_
  refine hw_ifS_lt (tgt := 12) X d1 rfl rfl (fun q => ?_) (fun q => ?_)
  · refine hw_iconst (v := -1) X d12 (by decide) ?_
    exact hw_iret X hlk hr (x := -1) rfl rfl d13
  · refine hw_iload_nS X d4 rfl (List.mem_of_getElem? (i := 1) rfl) ?_
    refine hw_aload_n X d5 rfl (List.mem_of_getElem? (i := 0) rfl) ?_
    refine hw_get X d6 (hc_cl w2) (fun w hw => hT w (hc_u w2 w hw)) w3 (Or.inl (hT _ w1)) hi ?_
    rw [hf]
    refine hw_icmpSI_le (tgt := 14) X d9 rfl rfl (fun q2 => ?_) (fun q2 => ?_)
    · exact absurd ⟨Int32.not_lt.mp q, q2⟩ hv
    · refine hw_iconst (v := -1) X d12 (by decide) ?_
      exact hw_iret X hlk hr (x := -1) rfl rfl d13
end HO
def ho_b (b : Bool) : Value := match b with
  | true => .int 1
  | false => .int 0
noncomputable def ho_rg (rg : Nat → Int32 → Int32 → Option Bool) (j : UInt32) (a b : Int32) : Option Value := match rg j.toNat a b with
  | some v => some (ho_b v)
  | none => none
noncomputable def ho_zero (ci kf : Nat) (h : hc_H) (i : Nat) : Bool := match hc_obj ci (hc_get h i) with
  | none => false
  | some fs => match hc_nth fs kf with
    | some (.int x) => decide (x = 0)
    | _ => false
noncomputable def ho_noH (h : hc_H) (i : Nat) : Bool := match hc_obj 9 (hc_get h i) with
  | none => false
  | some fs => match hc_nth fs 3 with
    | some (.ref (t + 1)) => ho_zero 5 4 h t
    | _ => false
noncomputable def ho_orc (rg : Nat → Int32 → Int32 → Option Bool) (k : Nat) (as : List Value) (h : hc_H) : Option Value := match Nat.beq k 78 || Nat.beq k 164 with
  | true => match as with
    | [.float j, .int a, .int b] => ho_rg rg j a b
    | _ => none
  | false => match Nat.beq k 77 with
    | true => match as with
      | [.float j] => ho_rg rg j 0 255
      | _ => none
    | false => match Nat.beq k 76 with
      | true => match as with
        | [.ref (i + 1), .float _] => match ho_noH h i with
          | true => some (.int 0)
          | false => none
        | _ => none
      | false => match Nat.beq k 72 with
        | true => match as with
          | [.ref (i + 1), .float j] => match rg j.toNat 0 0 with
            | some false => match ho_zero 9 1 h i with
              | true => some (.int (-1))
              | false => none
            | _ => none
          | _ => none
        | false => match Nat.beq k 135 with
          | true => match as with
            | [.ref (i + 1), .float j] => match rg j.toNat 0 0 with
              | some false => match ho_zero 10 2 h i with
                | true => some (.int (-1))
                | false => none
              | _ => none
            | _ => none
          | false => none
theorem ho_zero_ok {ci kf : Nat} {h : hc_H} {i : Nat} (hz : ho_zero ci kf h i = true) : ∃ f : Nat → Value, hc_f h i = some (.inr (ci, f)) ∧ f kf = .int 0 := by
  unfold ho_zero at hz
  split at hz
  · cases hz
  next fs hfs =>
    split at hz
    next x hx =>
      have := of_decide_eq_true hz
      subst this
      refine ⟨fun j => fs.getD j .null, hc_fI (hc_obj_ok hfs), ?_⟩
      rw [hc_nth_eq] at hx
      show fs.getD kf .null = _
      rw [List.getD_eq_getElem?_getD, hx]
      rfl
    · cases hz
theorem ho_noH_ok {h : hc_H} {i : Nat} (hz : ho_noH h i = true) : ∃ (f g : Nat → Value) (t : Nat), hc_f h i = some (.inr (9, f)) ∧ f 3 = .ref (t + 1) ∧ hc_f h t = some (.inr (5, g)) ∧ g 4 = .int 0 := by
  unfold ho_noH at hz
  split at hz
  · cases hz
  next fs hfs =>
    split at hz
    next t ht =>
      obtain ⟨g, g1, g2⟩ := ho_zero_ok hz
      refine ⟨fun j => fs.getD j .null, g, t, hc_fI (hc_obj_ok hfs), ?_, g1, g2⟩
      rw [hc_nth_eq] at ht
      show fs.getD 3 .null = _
      rw [List.getD_eq_getElem?_getD, ht]
      rfl
    · cases hz
theorem ho_rgv {G : hv_G} {rg : Nat → Int32 → Int32 → Option Bool} (hrg : ∀ (j : Nat) (a b : Int32) (v : Bool), rg j a b = some v → (v = true ↔ a ≤ G.2.1 j ∧ G.2.1 j ≤ b)) {j : UInt32} {a b : Int32} {w : Value} (h : ho_rg rg j a b = some w) : ∃ v : Int32, w = .int v ∧ ((v = 1 ∧ a ≤ G.2.1 j.toNat ∧ G.2.1 j.toNat ≤ b) ∨ (v = 0 ∧ ¬ (a ≤ G.2.1 j.toNat ∧ G.2.1 j.toNat ≤ b))) := by
  unfold ho_rg at h
  split at h
  next v hv =>
    cases h
    have := hrg _ _ _ _ hv
    cases v
    · exact ⟨0, rfl, Or.inr ⟨rfl, fun q => by have := this.mpr q; cases this⟩⟩
    · exact ⟨1, rfl, Or.inl ⟨rfl, this.mp rfl⟩⟩
  · cases h
theorem ho_ok {G : hv_G} {l : Launch} {rg : Nat → Int32 → Int32 → Option Bool} (hrg : ∀ (j : Nat) (a b : Int32) (v : Bool), rg j a b = some v → (v = true ↔ a ≤ G.2.1 j ∧ G.2.1 j ≤ b)) : hc_OR G l (ho_orc rg) := by
  intro k e as h v hg ho n fr lo _ _
  unfold ho_orc at ho
  split at ho
  next hk =>
    split at ho
    next j a b =>
      obtain ⟨v', rfl, hv⟩ := ho_rgv hrg ho
      rcases Bool.or_eq_true _ _ ▸ hk with q | q
      · have hk' := Nat.eq_of_beq_eq_true q
        subst hk'
        cases hg.symm.trans (show hc_get hm_pg 78 = some hm_m78 from rfl)
        exact ho_within (by decide +kernel) (by decide +kernel) (by decide +kernel) (by decide +kernel) (by decide +kernel) (by decide +kernel) (by decide +kernel) (by decide +kernel) (by decide +kernel) (by decide +kernel) (by decide +kernel) hv n fr lo _
      · have hk' := Nat.eq_of_beq_eq_true q
        subst hk'
        cases hg.symm.trans (show hc_get hm_pg 164 = some hm_m164 from rfl)
        exact ho_within (by decide +kernel) (by decide +kernel) (by decide +kernel) (by decide +kernel) (by decide +kernel) (by decide +kernel) (by decide +kernel) (by decide +kernel) (by decide +kernel) (by decide +kernel) (by decide +kernel) hv n fr lo _
    · cases ho
  · split at ho
    next hk =>
      have hk' := Nat.eq_of_beq_eq_true hk
      subst hk'
      cases hg.symm.trans (show hc_get hm_pg 77 = some hm_m77 from rfl)
      split at ho
      next j =>
        obtain ⟨v', rfl, hv⟩ := ho_rgv hrg ho
        exact ho_programme (by decide +kernel) (by decide +kernel) (by decide +kernel) (by decide +kernel) (by decide +kernel) (by decide +kernel) (by decide +kernel) (by decide +kernel) (by decide +kernel) (by decide +kernel) hv n fr lo _
      · cases ho
    · split at ho
      next hk =>
        have hk' := Nat.eq_of_beq_eq_true hk
        subst hk'
        cases hg.symm.trans (show hc_get hm_pg 76 = some hm_m76 from rfl)
        split at ho
        next i j =>
          split at ho
          next hz =>
            cases ho
            obtain ⟨f, g, t, h1, h2, h3, h4⟩ := ho_noH_ok hz
            exact ho_house (by decide +kernel) rfl (by decide +kernel) (by decide +kernel) (by decide +kernel) (by decide +kernel) (by decide +kernel) (by decide +kernel) (by decide +kernel) (by decide +kernel) (by decide +kernel) h1 h2 h3 h4 n fr lo
          · cases ho
        · cases ho
      · split at ho
        next hk =>
          have hk' := Nat.eq_of_beq_eq_true hk
          subst hk'
          cases hg.symm.trans (show hc_get hm_pg 72 = some hm_m72 from rfl)
          split at ho
          next i j =>
            split at ho
            next hr =>
              split at ho
              next hz =>
                cases ho
                obtain ⟨f, h1, h2⟩ := ho_zero_ok hz
                exact ho_back (oc := 9) (ix := 100) (by decide +kernel) rfl (by decide +kernel) (by decide +kernel) (by decide +kernel) (by decide +kernel) (by decide +kernel) (by decide +kernel) (by decide +kernel) (by decide +kernel) (by decide +kernel) h1 h2 (fun q => by have := (hrg _ _ _ _ hr).mpr q; cases this) n fr lo
              · cases ho
            · cases ho
          · cases ho
        · split at ho
          next hk =>
            have hk' := Nat.eq_of_beq_eq_true hk
            subst hk'
            cases hg.symm.trans (show hc_get hm_pg 135 = some hm_m135 from rfl)
            split at ho
            next i j =>
              split at ho
              next hr =>
                split at ho
                next hz =>
                  cases ho
                  obtain ⟨f, h1, h2⟩ := ho_zero_ok hz
                  exact ho_back (oc := 10) (ix := 160) (by decide +kernel) rfl (by decide +kernel) (by decide +kernel) (by decide +kernel) (by decide +kernel) (by decide +kernel) (by decide +kernel) (by decide +kernel) (by decide +kernel) (by decide +kernel) h1 h2 (fun q => by have := (hrg _ _ _ _ hr).mpr q; cases this) n fr lo
                · cases ho
              · cases ho
            · cases ho
          · cases ho
