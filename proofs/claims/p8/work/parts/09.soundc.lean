section HCZ
variable {G : hv_G} {p : Program} {l : Launch} {e : Env} {R : Room} {s0 : State} {m : MethodId} {args : Array Value} {below : List Frame} {meth : Method} {cd : Code} {nL : Nat} {Q : State → Prop} {Ts : List Cond} {cc : ByteArray} {oc : Nat} {LS : Nat × (Nat → Option Int32)} {call : Nat → hc_M → List Value → Nat → hc_H → Option hc_R} {fr lo : Nat}
/-- what is asked of the callee's function: each of its answers is a contract -/
def hc_CO (G : hv_G) (l : Launch) (fr lo : Nat) (call : Nat → hc_M → List Value → Nat → hc_H → Option hc_R) : Prop := ∀ (k : Nat) (e : hc_M) (as : List Value) (n : Nat) (h : hc_H) (r : Option Value) (n' : Nat) (h' : hc_H) (mc ms : Nat), hc_get hm_pg k = some e → call k e as n h = some (r, n', h', mc, ms) → hv_C G hc_gw l e.1 e.2.1 e.2.2.1 e.2.2.2.1 fr lo n (hc_f h) as r n' (hc_f h') mc ms
theorem hc_yk {k : Nat} {e : hc_M} (h : hc_get hm_pg k = some e) : hc_y k = e.1 := by unfold hc_y; rw [h]
theorem hc_appE (r : Option Value) (st : List Value) : hc_app r st = r.toList ++ st := by cases r <;> rfl
theorem hc_RnO {ci : Nat} (h : ci < 11) : hc_Rn ci = hc_own ci := by
  match ci, h with
  | 0, _ => rfl
  | 1, _ => rfl
  | 2, _ => rfl
  | 3, _ => rfl
  | 4, _ => rfl
  | 5, _ => rfl
  | 6, _ => rfl
  | 7, _ => rfl
  | 8, _ => rfl
  | 9, _ => rfl
  | 10, _ => rfl
  | n + 11, h => exact absurd h (by omega)
theorem hs_str (X : hv_X G p s0 m args cd Ts (hc_own 6) cc nL) (hT : ∀ w ∈ hc_gw, w ∈ Ts) {pc n c s : Nat} {lc st : List Value} {h : hc_H} {r : hc_S ⊕ Option Value} {r1 z : Nat} (hfr : fr + 1 ≤ R.frames) (hlo : 100 + lo ≤ R.locals ∧ 4 ≤ fr ∧ 200 ≤ lo) (hd : decode cc pc = .ok (.invokevirtual z, 3)) (hk : hc_tl r1 z = true) (hh : hi_str r1 pc lc st n h c s = some r) : hc_res G p l e R s0 m args below meth cd nL pc lc st n h c s r := by
  unfold hi_str at hh
  split at hh
  · have hz := Nat.eq_of_beq_eq_true (show Nat.beq z 52 = true from hk)
    subst hz
    split at hh
    next k st =>
      split at hh
      next hcat =>
        cases hh
        have hcat' : (st.map fun v => v.category).sum ≤ 8 := by rw [← hc_cat_eq]; exact Nat.le_of_ble_eq_true hcat
        refine ⟨Nat.le_refl _, Nat.le_refl _, rfl, fun q1 q2 Q k2 => ?_⟩
        exact hw_callT (as := []) (k := k) (na := 0) (mc := 0) (ms := 0) X (hx_len (fr := 4) (lo := 200) (Nat.le_refl _) (Nat.le_refl _)) hd hT hc_gw_keep hl_t_cln (hT _ hl_t_nstr) (hT _ hl_t_m52) (hT _ hl_t_iln) (hT _ hl_t_sln) (by decide) (by decide +kernel) rfl (by omega) (by omega) hcat' q1 q2 k2
      · cases hh
    · cases hh
  · have hz := Nat.eq_of_beq_eq_true (show Nat.beq z 56 = true from hk)
    subst hz
    split at hh
    next i k st =>
      split at hh
      · cases hh
      next hb =>
        have hb2 := Bool.or_eq_false_iff.mp hb
        have hcat : Nat.ble (hc_cat st) 8 = true := by simpa using hb2.2
        split at hh
        next ch hch =>
          cases hh
          rw [hc_nth_eq] at hch
          have hcat' : (st.map fun v => v.category).sum ≤ 8 := by rw [← hc_cat_eq]; exact Nat.le_of_ble_eq_true hcat
          refine ⟨Nat.le_refl _, Nat.le_refl _, rfl, fun q1 q2 Q k2 => ?_⟩
          exact hw_callT (as := [.int i]) (k := k) (na := 1) (mc := 0) (ms := 0) X (hx_chr (fr := 4) (lo := 200) (of_decide_eq_false hb2.1) hch (Nat.le_refl _) (Nat.le_refl _)) hd hT hc_gw_keep hl_t_cch (hT _ hl_t_nstr) (hT _ hl_t_m56) (hT _ hl_t_ich) (hT _ hl_t_sch) (by decide) (by decide +kernel) rfl (by omega) (by omega) hcat' q1 q2 k2
        · cases hh
    · cases hh
  next h0 h1 =>
    have hz : z = 41 := by
      unfold hc_tl at hk
      split at hk
      · exact absurd rfl h0
      · exact absurd rfl h1
      · exact Nat.eq_of_beq_eq_true hk
    subst hz
    split at hh
    next x k st =>
      split at hh
      next hcat =>
        cases hh
        have hcat' : (st.map fun v => v.category).sum ≤ 8 := by rw [← hc_cat_eq]; exact Nat.le_of_ble_eq_true hcat
        refine ⟨Nat.le_refl _, Nat.le_refl _, rfl, fun q1 q2 Q k2 => ?_⟩
        exact hw_callT (as := [.int x]) (k := k) (na := 1) (mc := 0) (ms := 0) X (hx_idx (fr := 4) (lo := 200) (Nat.le_refl _) (Nat.le_refl _)) hd hT hc_gw_keep hl_t_ci1 (hT _ hl_t_nstr) (hT _ hl_t_m41) (hT _ hl_t_ii1) (hT _ hl_t_si1) (by decide) (by decide +kernel) rfl (by omega) (by omega) hcat' q1 q2 k2
      · cases hh
    · cases hh
theorem hs_invokevirtual (X : hv_X G p s0 m args cd Ts (hc_own oc) cc nL) (hT : ∀ w ∈ hc_gw, w ∈ Ts) {pc n c s : Nat} {lc st : List Value} {h : hc_H} {r : hc_S ⊕ Option Value} {r1 r2 len z : Nat} {ini : Bool} (hpg : ∀ {k : Nat} {e : hc_M}, hc_get hm_pg k = some e → hc_MOK e) (hco : hc_CO G l fr lo call) (hfr : fr + 1 ≤ R.frames) (hlo : 100 + lo ≤ R.locals ∧ 4 ≤ fr ∧ 200 ≤ lo) (hd : decode cc pc = .ok (.invokevirtual z, len)) (hk : hc_ok oc ini pc (.invokevirtual z) len r1 r2 = true) (hh : hi_invokevirtual hm_pg call r1 r2 pc lc st n h c s = some r) : hc_res G p l e R s0 m args below meth cd nL pc lc st n h c s r := by
  simp only [hc_ok, Bool.and_eq_true] at hk
  have hl : len = 3 := Nat.eq_of_beq_eq_true hk.1
  subst hl
  obtain ⟨-, hk⟩ := hk
  unfold hi_invokevirtual at hh
  split at hh
  · have hk' : (Nat.beq oc 6 && hc_tl r1 z) = true := hk
    simp only [Bool.and_eq_true] at hk'
    have e1 := Nat.eq_of_beq_eq_true hk'.1
    subst e1
    exact hs_str X hT hfr hlo hd hk'.2 hh
  next hne =>
    have hk' : (hc_m5 hl_ML oc z r1 0 && (hc_m2 hl_SE r1 && (hc_m2 hl_IM r1 && hc_mq r1 (fun e => Nat.ble (e.2.2.2.2.1 + 1) 11)))) = true := by
      split at hk
      · exact absurd rfl hne
      · exact hk
    simp only [Bool.and_eq_true] at hk'
    obtain ⟨hk1, hk2, hk3, hk4⟩ := hk'
    obtain ⟨p1, hp1⟩ := hc_m5_ok hk1
    obtain ⟨p2, hp2⟩ := hc_m2_ok hk2
    obtain ⟨p3, hp3⟩ := hc_m2_ok hk3
    unfold hc_inv0 at hh
    split at hh
    · cases hh
    next e0 he0 =>
      obtain ⟨o1, o2, o3, o4, o5, o6, o7, o8, o9⟩ := hpg he0
      have hy := hc_yk he0
      split at hh
      · cases hh
      next as rest hpop =>
        obtain ⟨bs, rfl, hbl, hst⟩ := hc_pop_eq _ _ _ _ _ hpop
        rw [List.append_nil] at hh
        split at hh
        next i rest =>
          split at hh
          · cases hh
          next fs hfs =>
            split at hh
            · cases hh
            next hcat =>
              split at hh
              · cases hh
              next r0 n' h' mc ms hcall =>
                cases hh
                subst hst
                refine ⟨Nat.le_add_right _ _, Nat.le_add_right _ _, rfl, fun q1 q2 Q k => ?_⟩
                have hM := hco _ _ _ _ _ _ _ _ _ _ he0 hcall
                have hcat' : (rest.map fun v => v.category).sum ≤ 8 := by rw [← hc_cat_eq]; exact Nat.le_of_ble_eq_true hcat
                have hoc : e0.2.2.2.2.1 < 11 := by
                  unfold hc_mq at hk4
                  rw [he0] at hk4
                  exact Nat.le_of_ble_eq_true hk4
                have hrn : hc_Rn e0.2.2.2.2.1 = e0.1.cls := (hc_RnO hoc).trans o6
                unfold hc_W at k ⊢
                rw [hc_appE] at k
                have w1 := hl_ML_ok _ hp1
                have w2 := hl_SE_ok _ hp2
                have w3 := hl_IM_ok _ hp3
                dsimp only at w1 w2 w3
                rw [hy] at w1 w2 w3
                exact hw_callV (rc := (hc_Rn e0.2.2.2.2.1, hc_T e0.2.2.2.2.1, hc_nf e0.2.2.2.2.1)) X hM hd hT hc_gw_keep o1 (hT _ o4) (hT _ (hc_in w1 rfl)) (hT _ (hc_in w3 rfl)) (by show Cond.selects (hc_Rn e0.2.2.2.2.1) e0.1 e0.1 ∈ Ts; rw [hrn]; exact hT _ (hc_in w2 rfl)) o3 o5 hbl (hc_fI (hc_obj_ok hfs)) (hc_cl hoc) hfr (by omega) hcat' q1 q2 k
        · cases hh
theorem hs_invokespecial (X : hv_X G p s0 m args cd Ts (hc_own oc) cc nL) (hT : ∀ w ∈ hc_gw, w ∈ Ts) {pc n c s : Nat} {lc st : List Value} {h : hc_H} {r : hc_S ⊕ Option Value} {r1 r2 len z : Nat} {ini : Bool} (hpg : ∀ {k : Nat} {e : hc_M}, hc_get hm_pg k = some e → hc_MOK e) (hco : hc_CO G l fr lo call) (hfr : fr + 1 ≤ R.frames) (hlo : 100 + lo ≤ R.locals ∧ 4 ≤ fr ∧ 200 ≤ lo) (hd : decode cc pc = .ok (.invokespecial z, len)) (hk : hc_ok oc ini pc (.invokespecial z) len r1 r2 = true) (hh : hi_invokespecial hm_pg call r1 r2 pc lc st n h c s = some r) : hc_res G p l e R s0 m args below meth cd nL pc lc st n h c s r := by
  simp only [hc_ok, Bool.and_eq_true] at hk
  have hl : len = 3 := Nat.eq_of_beq_eq_true hk.1
  subst hl
  obtain ⟨-, hk⟩ := hk
  unfold hi_invokespecial at hh
  split at hh
  · have hk' : hc_m3 hl_OI oc z = true := hk
    obtain ⟨p1, hp1⟩ := hc_m3_ok hk'
    split at hh
    next a st =>
      split at hh
      · cases hh
      next hcat =>
        cases hh
        have hcat' : (st.map fun v => v.category).sum ≤ 8 := by rw [← hc_cat_eq]; exact Nat.le_of_ble_eq_true hcat
        exact ⟨Nat.le_refl _, Nat.le_refl _, rfl, fun _ _ Q k => hw_objInit X hd (hT _ (hc_in (hl_OI_ok _ hp1) rfl)) (hT _ hl_oi1) (hT _ hl_oi2) (by omega) (by omega) hcat' k⟩
    · cases hh
  next hne =>
    have hk' : (hc_m5 hl_ML oc z r1 1 && (hc_m2 hl_IM r1 && (decide ((hc_y r1).name = "<init>") && hc_mq r1 (fun e => e.2.2.2.1.isNone)))) = true := by
      split at hk
      · exact absurd rfl hne
      · exact hk
    simp only [Bool.and_eq_true, decide_eq_true_eq] at hk'
    obtain ⟨hk1, hk2, hk3, hk4⟩ := hk'
    obtain ⟨p1, hp1⟩ := hc_m5_ok hk1
    obtain ⟨p2, hp2⟩ := hc_m2_ok hk2
    unfold hc_inv1 at hh
    split at hh
    · cases hh
    next e0 he0 =>
      obtain ⟨o1, o2, o3, o4, o5, o6, o7, o8, o9⟩ := hpg he0
      have hy := hc_yk he0
      split at hh
      · cases hh
      next as rest hpop =>
        obtain ⟨bs, rfl, hbl, hst⟩ := hc_pop_eq _ _ _ _ _ hpop
        rw [List.append_nil] at hh
        split at hh
        next a rest =>
          split at hh
          · cases hh
          next hcat =>
            split at hh
            · cases hh
            next r0 n' h' mc ms hcall =>
              cases hh
              subst hst
              refine ⟨Nat.le_add_right _ _, Nat.le_add_right _ _, rfl, fun q1 q2 Q k => ?_⟩
              have hM := hco _ _ _ _ _ _ _ _ _ _ he0 hcall
              have hcat' : (rest.map fun v => v.category).sum ≤ 8 := by rw [← hc_cat_eq]; exact Nat.le_of_ble_eq_true hcat
              unfold hc_W at k ⊢
              rw [hc_appE] at k
              have w1 := hl_ML_ok _ hp1
              have w2 := hl_IM_ok _ hp2
              dsimp only at w1 w2
              rw [hy] at w1 w2 hk3
              have hret : e0.2.2.2.1 = none := by
                unfold hc_mq at hk4
                rw [he0] at hk4
                exact Option.isNone_iff_eq_none.mp hk4
              rw [hret] at hM o1
              exact hw_callI X hM hd hT hc_gw_keep o1 (hT _ o4) (hT _ (hc_in w1 rfl)) (hT _ (hc_in w2 rfl)) hk3 o3 o5 hbl hfr (by omega) hcat' q1 q2 k
        · cases hh
theorem hs_invokestatic (X : hv_X G p s0 m args cd Ts (hc_own oc) cc nL) (hT : ∀ w ∈ hc_gw, w ∈ Ts) {pc n c s : Nat} {lc st : List Value} {h : hc_H} {r : hc_S ⊕ Option Value} {r1 r2 len z : Nat} {ini : Bool} (hpg : ∀ {k : Nat} {e : hc_M}, hc_get hm_pg k = some e → hc_MOK e) (hco : hc_CO G l fr lo call) (hfr : fr + 1 ≤ R.frames) (hlo : 100 + lo ≤ R.locals ∧ 4 ≤ fr ∧ 200 ≤ lo) (hd : decode cc pc = .ok (.invokestatic z, len)) (hk : hc_ok oc ini pc (.invokestatic z) len r1 r2 = true) (hh : hi_invokestatic hm_pg call r1 r2 pc lc st n h c s = some r) : hc_res G p l e R s0 m args below meth cd nL pc lc st n h c s r := by
  simp only [hc_ok, Bool.and_eq_true] at hk
  have hl : len = 3 := Nat.eq_of_beq_eq_true hk.1
  subst hl
  obtain ⟨-, hk⟩ := hk
  unfold hi_invokestatic at hh
  split at hh
  · have hk' : hc_m3 hl_AC oc z = true := hk
    obtain ⟨p1, hp1⟩ := hc_m3_ok hk'
    split at hh
    next zz dp i1 sp i0 st =>
      split at hh
      · cases hh
      next f hf =>
        split at hh
        · cases hh
        next g hg =>
          split at hh
          · cases hh
          next hc =>
            split at hh
            · cases hh
            next h' hp' =>
              cases hh
              simp only [Bool.and_eq_true, decide_eq_true_eq, Bool.not_eq_true', decide_eq_false_iff_not] at hc
              obtain ⟨c1, c2, c3, c4, c5, c6, c7⟩ := hc
              subst c1 c2
              have c4' := Nat.eq_of_beq_eq_true c4
              have c5' := Nat.eq_of_beq_eq_true c5
              have hcat' : (st.map fun v => v.category).sum ≤ 8 := by rw [← hc_cat_eq]; exact Nat.le_of_ble_eq_true c7
              have z0 : (0 : Int32).toNatClampNeg = 0 := by decide
              refine ⟨Nat.le_refl _, Nat.le_refl _, rfl, fun _ _ Q k => ?_⟩
              have hnw : nativeFrameWords "java/lang/System" "arraycopy" 5 = 7 := by decide +kernel
              refine hw_copy (sp := 0) (dp := 0) (z := zz) (f := fun j => f.getD j .null) (g := fun j => g.getD j .null) X hd (hT _ (hc_in (hl_AC_ok _ hp1) rfl)) (hT _ hl_ac1) (hT _ hl_ac2) (hT _ hl_ac3) (hc_fI (hc_arr_ok hf)) (hc_fI (hc_arr_ok hg)) (by decide) (by decide) c3 (by rw [z0]; show 0 + zz.toNatClampNeg ≤ f.length; omega) (by rw [z0]; show 0 + zz.toNatClampNeg ≤ g.length; omega) ?_ (by omega) (by rw [hnw]; omega) hcat' ?_
              · intro i hi
                have hlt : i < f.length := by omega
                have hm : f.getD (0 + i) .null ∈ f := by
                  rw [Nat.zero_add, List.getD_eq_getElem?_getD, List.getElem?_eq_getElem hlt]
                  exact List.getElem_mem hlt
                have hI := List.all_eq_true.mp c6 _ hm
                rw [z0]
                generalize f.getD (0 + i) Value.null = v at hI
                cases v <;> first | exact ⟨_, rfl⟩ | cases hI
              · unfold hc_W at k
                rw [hc_f_put hp', hc_upL c5'] at k
                refine hc_sim (hv_sim_up (fun j hj => ?_)) k
                have hj' : j < g.length := hj
                rw [z0]
                unfold va_cpy
                rw [if_pos (by omega)]
                congr 1
                omega
    · cases hh
  next hne =>
    unfold hc_inv2 at hh
    split at hh
    · cases hh
    next e0 he0 =>
      obtain ⟨o1, o2, o3, o4, o5, o6, o7, o8, o9⟩ := hpg he0
      have hy := hc_yk he0
      split at hh
      · cases hh
      next as rest hpop =>
        obtain ⟨bs, rfl, hbl, hst⟩ := hc_pop_eq _ _ _ _ _ hpop
        rw [List.append_nil] at hh
        split at hh
        · cases hh
        next hcat =>
          split at hh
          · cases hh
          next r0 n' h' mc ms hcall =>
            cases hh
            subst hst
            refine ⟨Nat.le_add_right _ _, Nat.le_add_right _ _, rfl, fun q1 q2 Q k => ?_⟩
            have hM := hco _ _ _ _ _ _ _ _ _ _ he0 hcall
            have hcat' : (rest.map fun v => v.category).sum ≤ 8 := by rw [← hc_cat_eq]; exact Nat.le_of_ble_eq_true hcat
            unfold hc_W at k ⊢
            rw [hc_appE] at k
            split at hk
            · exact absurd rfl hne
            · simp only [Bool.and_eq_true] at hk
              obtain ⟨p1, hp1⟩ := hc_m4_ok hk.1
              obtain ⟨p2, hp2⟩ := hc_m2_ok hk.2
              have w1 := hl_MN_ok _ hp1
              have w2 := hl_ST_ok _ hp2
              dsimp only at w1 w2
              rw [hy] at w1 w2
              exact hw_callSN X hM hd hT hc_gw_keep o1 (hT _ o4) (hT _ (hc_in w1 rfl)) (hT _ (hc_in w2 rfl)) o3 o5 hbl hfr (by omega) hcat' q1 q2 k
            · simp only [Bool.and_eq_true] at hk
              obtain ⟨p1, hp1⟩ := hc_m5_ok hk.1
              obtain ⟨p2, hp2⟩ := hc_m2_ok hk.2
              have w1 := hl_ML_ok _ hp1
              have w2 := hl_ST_ok _ hp2
              dsimp only at w1 w2
              rw [hy] at w1 w2
              exact hw_callS X hM hd hT hc_gw_keep o1 (hT _ o4) (hT _ (hc_in w1 rfl)) (hT _ (hc_in w2 rfl)) o3 o5 hbl hfr (by omega) hcat' q1 q2 k
theorem hs_return_ (X : hv_X G p s0 m args cd Ts (hc_own oc) cc nL) (hT : ∀ w ∈ hc_gw, w ∈ Ts) {pc n c s : Nat} {lc st : List Value} {h : hc_H} {r : hc_S ⊕ Option Value} {r1 r2 len : Nat} {ini : Bool} {ret : Option FieldType} (hlk : meth.locks = false) (hr : meth.sig.returnType = ret) (hd : decode cc pc = .ok (.return_, len)) (hk : hc_ok oc ini pc .return_ len r1 r2 = true) (hh : hi_return_ ret pc lc st n h c s = some r) : hc_res G p l e R s0 m args below meth cd nL pc lc st n h c s r := by
  simp only [hc_ok] at hk
  have hl : len = 1 := Nat.eq_of_beq_eq_true hk
  subst hl
  unfold hi_return_ at hh
  split at hh
  · split at hh
    · cases hh
      exact hw_vret X hlk hr hd
    · cases hh
  · cases hh
theorem hs_ireturn (X : hv_X G p s0 m args cd Ts (hc_own oc) cc nL) (hT : ∀ w ∈ hc_gw, w ∈ Ts) {pc n c s : Nat} {lc st : List Value} {h : hc_H} {r : hc_S ⊕ Option Value} {r1 r2 len : Nat} {ini : Bool} {ret : Option FieldType} (hlk : meth.locks = false) (hr : meth.sig.returnType = ret) (hd : decode cc pc = .ok (.ireturn, len)) (hk : hc_ok oc ini pc .ireturn len r1 r2 = true) (hh : hi_ireturn ret pc lc st n h c s = some r) : hc_res G p l e R s0 m args below meth cd nL pc lc st n h c s r := by
  simp only [hc_ok] at hk
  have hl : len = 1 := Nat.eq_of_beq_eq_true hk
  subst hl
  unfold hi_ireturn at hh
  split at hh
  next v =>
    split at hh
    next hv =>
      cases hh
      unfold hc_rtv at hv
      split at hv
      · cases v with
        | int x => exact hw_iret X hlk hr (x := x) rfl rfl hd
        | float x => exact hw_iret X hlk hr (x := G.2.1 x.toNat) rfl rfl hd
        | long x => cases hv
        | double x => cases hv
        | null => cases hv
        | ref x => cases hv
        | retAddr x => cases hv
      · split at hv
        next x =>
          rcases Bool.or_eq_true _ _ ▸ hv with q | q
          · have := of_decide_eq_true q
            subst this
            exact hw_iret X hlk hr (x := 0) rfl (by decide) hd
          · have := of_decide_eq_true q
            subst this
            exact hw_iret X hlk hr (x := 1) rfl (by decide) hd
        · cases hv
      · cases hv
    · cases hh
  · cases hh
theorem hs_lreturn (X : hv_X G p s0 m args cd Ts (hc_own oc) cc nL) (hT : ∀ w ∈ hc_gw, w ∈ Ts) {pc n c s : Nat} {lc st : List Value} {h : hc_H} {r : hc_S ⊕ Option Value} {r1 r2 len : Nat} {ini : Bool} {ret : Option FieldType} (hlk : meth.locks = false) (hr : meth.sig.returnType = ret) (hd : decode cc pc = .ok (.lreturn, len)) (hk : hc_ok oc ini pc .lreturn len r1 r2 = true) (hh : hi_lreturn ret pc lc st n h c s = some r) : hc_res G p l e R s0 m args below meth cd nL pc lc st n h c s r := by
  simp only [hc_ok] at hk
  have hl : len = 1 := Nat.eq_of_beq_eq_true hk
  subst hl
  unfold hi_lreturn at hh
  split at hh
  · split at hh
    · cases hh
      exact hw_lret X hlk hr hd
    · cases hh
  · cases hh
theorem hs_areturn (X : hv_X G p s0 m args cd Ts (hc_own oc) cc nL) (hT : ∀ w ∈ hc_gw, w ∈ Ts) {pc n c s : Nat} {lc st : List Value} {h : hc_H} {r : hc_S ⊕ Option Value} {r1 r2 len : Nat} {ini : Bool} {ret : Option FieldType} (hlk : meth.locks = false) (hr : meth.sig.returnType = ret) (hd : decode cc pc = .ok (.areturn, len)) (hk : hc_ok oc ini pc .areturn len r1 r2 = true) (hh : hi_areturn ret pc lc st n h c s = some r) : hc_res G p l e R s0 m args below meth cd nL pc lc st n h c s r := by
  simp only [hc_ok] at hk
  have hl : len = 1 := Nat.eq_of_beq_eq_true hk
  subst hl
  unfold hi_areturn at hh
  split at hh
  · split at hh
    · cases hh
      exact hw_aret X hlk hr (Or.inr ⟨_, rfl⟩) hd
    · cases hh
  · cases hh
end HCZ
