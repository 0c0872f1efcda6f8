section HCE
variable {G : hv_G} {p : Program} {l : Launch} {e : Env} {R : Room} {s0 : State} {m : MethodId} {args : Array Value} {below : List Frame} {meth : Method} {cd : Code} {nL : Nat} {Q : State → Prop} {Ts : List Cond} {cc : ByteArray} {oc : Nat} {LS : Nat × (Nat → Option Int32)} {call : Nat → hc_M → List Value → Nat → hc_H → Option hc_R} {fr lo : Nat}
set_option maxHeartbeats 4000000 in
theorem hc_step1_ok (X : hv_X G p s0 m args cd Ts (hc_own oc) cc nL) (hT : ∀ w ∈ hc_gw, w ∈ Ts) (hpg : ∀ {k : Nat} {e : hc_M}, hc_get hm_pg k = some e → hc_MOK e) (hco : hc_CO G l fr lo call) (hfr : fr + 1 ≤ R.frames) (hlo : 100 + lo ≤ R.locals ∧ 4 ≤ fr ∧ 200 ≤ lo) (hL : hc_LL G LS) {ret : Option FieldType} (hlk : meth.locks = false) (hr : meth.sig.returnType = ret) {ini : Bool} (hin : ini = true → meth.name = "<init>") {tb : hc_K} (hD : hc_rws (hc_D cc) 0 tb = true) (hO : hc_rws (hc_O oc ini) 0 tb = true) {pc n c s : Nat} {lc st : List Value} {h : hc_H} (hn : lc.length = nL) {r : hc_S ⊕ Option Value} (hh : hc_step1 LS hm_pg call ret tb (pc, lc, st, n, h, c, s) = some r) : hc_res G p l e R s0 m args below meth cd nL pc lc st n h c s r := by
  unfold hc_step1 at hh
  split at hh
  · cases hh
  next I hI =>
    obtain ⟨ii, len, r1, r2⟩ := I
    have hd : decode cc pc = .ok (ii, len) := of_decide_eq_true (hc_tab hD hI)
    have hk : hc_ok oc ini pc ii len r1 r2 = true := hc_tab hO hI
    split at hh
    · cases hh
    next f hf =>
      dsimp only at hf hh
      unfold hc_comp at hf
      split at hf
      · cases hf
        exact hs_iconst X hT hd hk hh
      · cases hf
        exact hs_bipush X hT hd hk hh
      · cases hf
        exact hs_sipush X hT hd hk hh
      · cases hf
        exact hs_ldc X hT hd hk hh
      · cases hf
        exact hs_ldc_w X hT hd hk hh
      · cases hf
        exact hs_lconst X hT hd hk hh
      · cases hf
        exact hs_ldc2_w X hT hd hk hh
      · cases hf
        exact hs_iload_n X hT hd hk hh
      · cases hf
        exact hs_iload X hT hd hk hh
      · cases hf
        exact hs_lload_n X hT hd hk hh
      · cases hf
        exact hs_lload X hT hd hk hh
      · cases hf
        exact hs_aload_n X hT hd hk hh
      · cases hf
        exact hs_aload X hT hd hk hh
      · cases hf
        exact hs_istore_n X hT hn hd hk hh
      · cases hf
        exact hs_istore X hT hn hd hk hh
      · cases hf
        exact hs_lstore_n X hT hn hd hk hh
      · cases hf
        exact hs_lstore X hT hn hd hk hh
      · cases hf
        exact hs_astore_n X hT hn hd hk hh
      · cases hf
        exact hs_astore X hT hn hd hk hh
      · cases hf
        exact hs_iinc X hT hn hd hk hh
      · cases hf
        exact hs_iadd X hT hd hk hh
      · cases hf
        exact hs_isub X hT hd hk hh
      · cases hf
        exact hs_imul X hT hd hk hh
      · cases hf
        exact hs_iand X hT hd hk hh
      · cases hf
        exact hs_ior X hT hd hk hh
      · cases hf
        exact hs_ixor X hT hd hk hh
      · cases hf
        exact hs_ishl X hT hd hk hh
      · cases hf
        exact hs_ishr X hT hL hd hk hh
      · cases hf
        exact hs_iushr X hT hL hd hk hh
      · cases hf
        exact hs_ladd X hT hd hk hh
      · cases hf
        exact hs_lsub X hT hd hk hh
      · cases hf
        exact hs_lmul X hT hd hk hh
      · cases hf
        exact hs_lor X hT hd hk hh
      · cases hf
        exact hs_idiv X hT hd hk hh
      · cases hf
        exact hs_irem X hT hd hk hh
      · cases hf
        exact hs_lshl X hT hd hk hh
      · cases hf
        exact hs_lcmp X hT hd hk hh
      · cases hf
        exact hs_i2l X hT hd hk hh
      · cases hf
        exact hs_l2i X hT hd hk hh
      · cases hf
        exact hs_i2b X hT hL hd hk hh
      · cases hf
        exact hs_i2c X hT hd hk hh
      · cases hf
        exact hs_dup X hT hd hk hh
      · cases hf
        exact hs_pop X hT hd hk hh
      · cases hf
        exact hs_dup2 X hT hd hk hh
      · cases hf
        exact hs_ifCond X hT hL hd hk hh
      · cases hf
        exact hs_if_icmp X hT hd hk hh
      · cases hf
        exact hs_goto X hT hd hk hh
      · cases hf
        exact hs_tableswitch X hT hL hd hk hh
      · cases hf
        exact hs_getfield X hT hd hk hh
      · cases hf
        exact hs_putfield X hT hin hd hk hh
      · cases hf
        exact hs_iaload X hT hL hd hk hh
      · cases hf
        exact hs_baload X hT hd hk hh
      · cases hf
        exact hs_laload X hT hd hk hh
      · cases hf
        exact hs_aaload X hT hd hk hh
      · cases hf
        exact hs_iastore X hT hd hk hh
      · cases hf
        exact hs_bastore X hT hL hd hk hh
      · cases hf
        exact hs_lastore X hT hd hk hh
      · cases hf
        exact hs_aastore X hT hd hk hh
      · cases hf
        exact hs_arraylength X hT hL.1 hd hk hh
      · cases hf
        exact hs_new X hT hd hk hh
      · cases hf
        exact hs_newarray X hT hd hk hh
      · cases hf
        exact hs_anewarray X hT hd hk hh
      · cases hf
        exact hs_multianewarray X hT hd hk hh
      · cases hf
        exact hs_invokevirtual X hT hpg hco hfr hlo hd hk hh
      · cases hf
        exact hs_invokespecial X hT hpg hco hfr hlo hd hk hh
      · cases hf
        exact hs_invokestatic X hT hpg hco hfr hlo hd hk hh
      · cases hf
        exact hs_return_ X hT hlk hr hd hk hh
      · cases hf
        exact hs_ireturn X hT hlk hr hd hk hh
      · cases hf
        exact hs_lreturn X hT hlk hr hd hk hh
      · cases hf
        exact hs_areturn X hT hlk hr hd hk hh
      · cases hf
theorem hc_run_ok (X : hv_X G p s0 m args cd Ts (hc_own oc) cc nL) (hT : ∀ w ∈ hc_gw, w ∈ Ts) (hpg : ∀ {k : Nat} {e : hc_M}, hc_get hm_pg k = some e → hc_MOK e) (hco : hc_CO G l fr lo call) (hfr : fr + 1 ≤ R.frames) (hlo : 100 + lo ≤ R.locals ∧ 4 ≤ fr ∧ 200 ≤ lo) (hL : hc_LL G LS) {ret : Option FieldType} (hlk : meth.locks = false) (hr : meth.sig.returnType = ret) {ini : Bool} (hin : ini = true → meth.name = "<init>") {tb : hc_K} (hD : hc_rws (hc_D cc) 0 tb = true) (hO : hc_rws (hc_O oc ini) 0 tb = true) :
    ∀ (fuel : Nat) (pc n c s : Nat) (lc st : List Value) (h : hc_H) (r : Option Value) (n' : Nat) (h' : hc_H) (c' s' : Nat), lc.length = nL → hc_run LS hm_pg call ret tb fuel (pc, lc, st, n, h, c, s) = some (r, n', h', c', s') → c ≤ c' ∧ s ≤ s' ∧ (c' ≤ R.cells → s' ≤ R.slots → hc_W G p l e R s0 m args below meth cd nL (MQ below (hv_Qc G n' (hc_f h') r) args s0 c' s' (fun q => G.1.1 ≤ q)) pc lc st n h c s)
  | 0, pc, n, c, s, lc, st, h, r, n', h', c', s', hn, hh => by cases hh
  | fuel + 1, pc, n, c, s, lc, st, h, r, n', h', c', s', hn, hh => by
    have hh' : (match hc_step1 LS hm_pg call ret tb (pc, lc, st, n, h, c, s) with
      | none => none
      | some (.inl S') => hc_run LS hm_pg call ret tb fuel S'
      | some (.inr r) => some (r, n, h, c, s)) = some (r, n', h', c', s') := hh
    split at hh'
    · cases hh'
    next S' hS =>
      obtain ⟨pc1, lc1, st1, n1, h1, c1, s1⟩ := S'
      obtain ⟨g1, g2, g3, g4⟩ := hc_step1_ok X hT hpg hco hfr hlo hL hlk hr hin hD hO hn hS
      obtain ⟨k1, k2, k3⟩ := hc_run_ok X hT hpg hco hfr hlo hL hlk hr hin hD hO fuel pc1 n1 c1 s1 lc1 st1 h1 r n' h' c' s' (g3.trans hn) hh'
      exact ⟨Nat.le_trans g1 k1, Nat.le_trans g2 k2, fun q1 q2 => g4 (Nat.le_trans k1 q1) (Nat.le_trans k2 q2) _ (k3 q1 q2)⟩
    next r1 hS =>
      cases hh'
      have := hc_step1_ok (e := e) (below := below) X hT hpg hco hfr hlo hL hlk hr hin hD hO hn hS
      exact ⟨Nat.le_refl _, Nat.le_refl _, fun _ _ => this⟩
theorem hc_steps_ok (X : hv_X G p s0 m args cd Ts (hc_own oc) cc nL) (hT : ∀ w ∈ hc_gw, w ∈ Ts) (hpg : ∀ {k : Nat} {e : hc_M}, hc_get hm_pg k = some e → hc_MOK e) (hco : hc_CO G l fr lo call) (hfr : fr + 1 ≤ R.frames) (hlo : 100 + lo ≤ R.locals ∧ 4 ≤ fr ∧ 200 ≤ lo) (hL : hc_LL G LS) {ret : Option FieldType} (hlk : meth.locks = false) (hr : meth.sig.returnType = ret) {ini : Bool} (hin : ini = true → meth.name = "<init>") {tb : hc_K} (hD : hc_rws (hc_D cc) 0 tb = true) (hO : hc_rws (hc_O oc ini) 0 tb = true) :
    ∀ (fuel : Nat) (pc n c s : Nat) (lc st : List Value) (h : hc_H) (pc' n' c' s' : Nat) (lc' st' : List Value) (h' : hc_H), lc.length = nL → hc_steps LS hm_pg call ret tb fuel (pc, lc, st, n, h, c, s) = some (pc', lc', st', n', h', c', s') → c ≤ c' ∧ s ≤ s' ∧ lc'.length = nL ∧ (c' ≤ R.cells → s' ≤ R.slots → ∀ Q : State → Prop, hc_W G p l e R s0 m args below meth cd nL Q pc' lc' st' n' h' c' s' → hc_W G p l e R s0 m args below meth cd nL Q pc lc st n h c s)
  | 0, pc, n, c, s, lc, st, h, pc', n', c', s', lc', st', h', hn, hh => by
    cases hh
    exact ⟨Nat.le_refl _, Nat.le_refl _, hn, fun _ _ Q k => k⟩
  | fuel + 1, pc, n, c, s, lc, st, h, pc', n', c', s', lc', st', h', hn, hh => by
    have hh' : (match hc_step1 LS hm_pg call ret tb (pc, lc, st, n, h, c, s) with
      | some (.inl S') => hc_steps LS hm_pg call ret tb fuel S'
      | _ => none) = some (pc', lc', st', n', h', c', s') := hh
    split at hh'
    next S' hS =>
      obtain ⟨pc1, lc1, st1, n1, h1, c1, s1⟩ := S'
      obtain ⟨g1, g2, g3, g4⟩ := hc_step1_ok X hT hpg hco hfr hlo hL hlk hr hin hD hO hn hS
      obtain ⟨k1, k2, k3, k4⟩ := hc_steps_ok X hT hpg hco hfr hlo hL hlk hr hin hD hO fuel pc1 n1 c1 s1 lc1 st1 h1 pc' n' c' s' lc' st' h' (g3.trans hn) hh'
      exact ⟨Nat.le_trans g1 k1, Nat.le_trans g2 k2, k3, fun q1 q2 Q k => g4 (Nat.le_trans k1 q1) (Nat.le_trans k2 q2) _ (k4 q1 q2 Q k)⟩
    · cases hh'
theorem hc_till_ok (X : hv_X G p s0 m args cd Ts (hc_own oc) cc nL) (hT : ∀ w ∈ hc_gw, w ∈ Ts) (hpg : ∀ {k : Nat} {e : hc_M}, hc_get hm_pg k = some e → hc_MOK e) (hco : hc_CO G l fr lo call) (hfr : fr + 1 ≤ R.frames) (hlo : 100 + lo ≤ R.locals ∧ 4 ≤ fr ∧ 200 ≤ lo) (hL : hc_LL G LS) {ret : Option FieldType} (hlk : meth.locks = false) (hr : meth.sig.returnType = ret) {ini : Bool} (hin : ini = true → meth.name = "<init>") {tb : hc_K} (hD : hc_rws (hc_D cc) 0 tb = true) (hO : hc_rws (hc_O oc ini) 0 tb = true) (tgt : Nat) :
    ∀ (fuel : Nat) (pc n c s : Nat) (lc st : List Value) (h : hc_H) (pc' n' c' s' : Nat) (lc' st' : List Value) (h' : hc_H), lc.length = nL → hc_till LS hm_pg call ret tb tgt fuel (pc, lc, st, n, h, c, s) = some (pc', lc', st', n', h', c', s') → c ≤ c' ∧ s ≤ s' ∧ lc'.length = nL ∧ pc' = tgt ∧ (c' ≤ R.cells → s' ≤ R.slots → ∀ Q : State → Prop, hc_W G p l e R s0 m args below meth cd nL Q pc' lc' st' n' h' c' s' → hc_W G p l e R s0 m args below meth cd nL Q pc lc st n h c s)
  | 0, pc, n, c, s, lc, st, h, pc', n', c', s', lc', st', h', hn, hh => by cases hh
  | fuel + 1, pc, n, c, s, lc, st, h, pc', n', c', s', lc', st', h', hn, hh => by
    have hh' : (match Nat.beq pc tgt with
      | true => some (pc, lc, st, n, h, c, s)
      | false => match hc_step1 LS hm_pg call ret tb (pc, lc, st, n, h, c, s) with
        | some (.inl S') => hc_till LS hm_pg call ret tb tgt fuel S'
        | _ => none) = some (pc', lc', st', n', h', c', s') := hh
    split at hh'
    next hb =>
      cases hh'
      exact ⟨Nat.le_refl _, Nat.le_refl _, hn, Nat.eq_of_beq_eq_true hb, fun _ _ Q k => k⟩
    · split at hh'
      next S' hS =>
        obtain ⟨pc1, lc1, st1, n1, h1, c1, s1⟩ := S'
        obtain ⟨g1, g2, g3, g4⟩ := hc_step1_ok X hT hpg hco hfr hlo hL hlk hr hin hD hO hn hS
        obtain ⟨k1, k2, k3, k5, k4⟩ := hc_till_ok X hT hpg hco hfr hlo hL hlk hr hin hD hO tgt fuel pc1 n1 c1 s1 lc1 st1 h1 pc' n' c' s' lc' st' h' (g3.trans hn) hh'
        exact ⟨Nat.le_trans g1 k1, Nat.le_trans g2 k2, k3, k5, fun q1 q2 Q k => g4 (Nat.le_trans k1 q1) (Nat.le_trans k2 q2) _ (k4 q1 q2 Q k)⟩
      · cases hh'
theorem hc_ent_len : ∀ (as : List Value) (n : Nat), hv_words as ≤ n → (hc_ent as n).length = n
  | [], n, _ => List.length_replicate
  | a :: as, n, h => by
    have hwa : hv_words (a :: as) = a.category + hv_words as := by simp [hv_words]
    rw [hwa] at h
    cases a with
    | long x =>
      have h2 : 2 + hv_words as ≤ n := h
      show (hc_ent as (n - 2)).length + 1 + 1 = n
      rw [hc_ent_len as (n - 2) (by omega)]
      omega
    | double x =>
      have h2 : 2 + hv_words as ≤ n := h
      show (hc_ent as (n - 2)).length + 1 + 1 = n
      rw [hc_ent_len as (n - 2) (by omega)]
      omega
    | int x =>
      have h2 : 1 + hv_words as ≤ n := h
      show (hc_ent as (n - 1)).length + 1 = n
      rw [hc_ent_len as (n - 1) (by omega)]
      omega
    | float x =>
      have h2 : 1 + hv_words as ≤ n := h
      show (hc_ent as (n - 1)).length + 1 = n
      rw [hc_ent_len as (n - 1) (by omega)]
      omega
    | null =>
      have h2 : 1 + hv_words as ≤ n := h
      show (hc_ent as (n - 1)).length + 1 = n
      rw [hc_ent_len as (n - 1) (by omega)]
      omega
    | ref x =>
      have h2 : 1 + hv_words as ≤ n := h
      show (hc_ent as (n - 1)).length + 1 = n
      rw [hc_ent_len as (n - 1) (by omega)]
      omega
    | retAddr x =>
      have h2 : 1 + hv_words as ≤ n := h
      show (hc_ent as (n - 1)).length + 1 = n
      rw [hc_ent_len as (n - 1) (by omega)]
      omega
/-- what is asked of the oracle: each of its answers is a contract that leaves the world as it is -/
def hc_OR (G : hv_G) (l : Launch) (orc : Nat → List Value → hc_H → Option Value) : Prop := ∀ (k : Nat) (e : hc_M) (as : List Value) (h : hc_H) (v : Value), hc_get hm_pg k = some e → orc k as h = some v → ∀ (n fr lo : Nat), 1 ≤ fr → 100 ≤ lo → hv_C G hc_gw l e.1 e.2.1 e.2.2.1 e.2.2.2.1 fr lo n (hc_f h) as (some v) n (hc_f h) 0 0
theorem hc_ev_ok (hpg : ∀ {k : Nat} {e : hc_M}, hc_get hm_pg k = some e → hc_MOK e) (hL : hc_LL G LS) {orc : Nat → List Value → hc_H → Option Value} (hor : hc_OR G l orc) (fuel : Nat) : ∀ d : Nat, hc_CO G l (d + 4) (100 * d + 200) (hc_ev LS hm_pg orc fuel d)
  | 0 => fun k e as n h r n' h' mc ms _ hc => by cases hc
  | d + 1 => fun k e0 as n h r n' h' mc ms hg hc => by
    have hc' : (match orc k as h with
      | some v => some (some v, n, h, 0, 0)
      | none => match Nat.ble (hc_cat as) e0.2.2.1 with
        | false => none
        | true => hc_run LS hm_pg (hc_ev LS hm_pg orc fuel d) e0.2.2.2.1 e0.2.2.2.2.2.2 fuel (0, hc_ent as e0.2.2.1, [], n, h, 0, 0)) = some (r, n', h', mc, ms) := hc
    split at hc'
    next v hv =>
      cases hc'
      exact hor k e0 as h v hg hv n (d + 1 + 4) (100 * (d + 1) + 200) (by omega) (by omega)
    · split at hc'
      · cases hc'
      next hw =>
        obtain ⟨o1, o2, o3, o4, o5, o6, o7, o8, o9⟩ := hpg hg
        have hw' : hv_words as ≤ e0.2.2.1 := by
          unfold hv_words
          rw [← hc_cat_eq]
          exact Nat.le_of_ble_eq_true hw
        refine hv_C.of o2 hw' ?_
        intro p e s0 m args below meth cd hX hr hlk hnm
        rw [← o6] at hX
        have hrun := hc_run_ok (R := { frames := d + 1 + 4, cells := mc, slots := ms, locals := 100 * (d + 1) + 200 }) (e := e) (below := below) (meth := meth) (fr := d + 4) (lo := 100 * d + 200) hX (fun w h => List.mem_cons_of_mem _ h) hpg (hc_ev_ok hpg hL hor fuel d) (by show d + 4 + 1 ≤ d + 1 + 4; omega) ⟨by show 100 + (100 * d + 200) ≤ 100 * (d + 1) + 200; omega, by omega, by omega⟩ hL hlk hr (ini := hc_isI0 e0.1) (fun q => hnm.trans (of_decide_eq_true q)) o7 o8 fuel 0 n 0 0 (hc_ent as e0.2.2.1) [] h r n' h' mc ms (hc_ent_len as _ hw') hc'
        have hW := hrun.2.2 (Nat.le_refl _) (Nat.le_refl _)
        unfold hc_W at hW
        refine hc_mono ?_ hW
        rintro ⟨i, v⟩ hq
        obtain ⟨g1, g2⟩ := hc_lv_mem.mp hq
        have := hc_ent_at as e0.2.2.1 i v hw' g1 g2 0
        rwa [Nat.zero_add] at this
end HCE

