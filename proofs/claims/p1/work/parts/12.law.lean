def R_law : String := "HeardNextLaw"
def lw_P (b : Addr) (xs : List Int32) (args : Array Value) (s : State) : Prop := args = #[.ref b] ∧ s.IntsAt b xs ∧ xs.length ≤ 6 ∧ (Jvm.Cond.and given_1 narrow_1).before args s = true
def lw_Q (_ : Array Value) (s : State) (o : Outcome) (t : State) : Prop := o = .returned (some (.int 1)) ∧ Framed s o t [] 600000 7302250
def lw_Z (below : List Frame) (a : Array Value) (s : State) : State → Prop := fun t => ∃ o, t.status = .running ∧ Ended t below o ∧ lw_Q a s o t
/-- the law's own end, with 1 on the stack, nothing written that was there before, its room as the claim has it -/
theorem lw_ret {p : Program} {l : Launch} {e : Env} {s : State} {m : MethodId} {below : List Frame} {meth : Method} {c : Code} {b : Nat} (hx : p.tables.exec = Jvm.exec) (hb : c.code = code) (hr : meth.sig.returnType = ret) (hlocks : meth.locks = false) {pc : Nat} {H : Heap} {ls : Array Slot} (hdg : decode code pc = .ok (.ireturn, 1)) : W p l e room_1 s m #[Value.ref b] below meth c H [] 600000 7302250 (lw_Z below #[Value.ref b] s) (F0 m pc ls [.int 1]) := by
  intro T hT X
  obtain ⟨fs, hret, hrun, hended, hW, hframe⟩ := X.leave (v := some (.int 1)) (hlocks := hlocks) (fun h => by rw [hr] at h; cases h)
  have hmeth' : T.vm.method? m = some meth := X.method'
  refine ⟨T.setFrames fs, ?_, .returned (some (.int 1)), hrun, hended, rfl, ⟨_, rfl⟩, hW, hframe⟩
  jvm_step X.here [X.here.top, hx, hb, hdg, hmeth', hr, ret, narrow_b1]
  (try refine ⟨rfl, ?_⟩); (try refine ⟨rfl, ?_⟩)
  first | (intro acts; rw [hret _ acts rfl rfl rfl]) | rw [hret _ _ rfl rfl rfl]
  exact Steps.refl _
/-- what holds at the law's entry: the machine, the code, the tables' words (any of lw_tbl by 'hts w (by decide +kernel)'), the script of L ints xs at the cell b, what the Statement gives of the start (any of its parts by flat_of_before) -/
def lw_At (p : Program) (s : State) (m : MethodId) (meth : Method) (c : Code) (b L : Nat) (xs : Nat → Int32) : Prop :=
  p.tables.exec = Jvm.exec ∧ c.code = code ∧ meth.sig.returnType = ret ∧ c.maxLocals = 4 ∧ s.vm.findClass R_law = some m.cls ∧ (∀ w ∈ lw_tbl, w.before #[Value.ref b] s = true) ∧ va_X b L xs s s.heap ∧ b < s.heap.size ∧ meth.locks = false ∧ (Jvm.Cond.and given_1 narrow_1).before #[Value.ref b] s = true
/-! THE LAW: its frame, what is known of its script, its ends -/
def hz_v (xs : Nat → Int32) : Nat → Int32 := fun c => if c < 10000 then xs c else if c < 20000 then ((xs ((c - 10000) / 100)).toUInt32 >>> ((nI ((c - 10000) % 100)).toUInt32 &&& Int32.toUInt32 31)).toInt32 else (xs ((c - 20000) / 100)) >>> ((nI ((c - 20000) % 100)) &&& 31)
def hz_xs (xs : Nat → Int32) : Nat → Int32 := fun c => if c < 30000 then hz_v xs c else (hz_v xs (c - 30000)).toInt8.toInt32
theorem hz_xs_lo (xs : Nat → Int32) {j : Nat} (h : j < 10000) : hz_xs xs j = xs j := by
  unfold hz_xs hz_v
  rw [if_pos (by omega), if_pos h]
theorem hz_nIy {y : Int32} (h : ¬ y < 0) : nI y.toNatClampNeg = y := by
  obtain ⟨j, h1, h2⟩ := nI_of h
  rw [h2, nI_clamp h1]
theorem hz_sym (xs : Nat → Int32) : (∀ (j : Nat) (y : Int32), j < 100 → ¬ y < 0 → y < 32 → hz_xs xs (10000 + 100 * j + y.toNatClampNeg) = ((hz_xs xs j).toUInt32 >>> (y.toUInt32 &&& Int32.toUInt32 31)).toInt32 ∧ hz_xs xs (20000 + 100 * j + y.toNatClampNeg) = (hz_xs xs j) >>> (y &&& 31)) ∧ ∀ c : Nat, 10000 ≤ c → c < 30000 → hz_xs xs (30000 + c) = (hz_xs xs c).toInt8.toInt32 := by
  refine ⟨fun j y hj h0 h32 => ?_, fun c h1 h2 => ?_⟩
  · have hy : y.toNatClampNeg < 32 := by
      have g1 := Int32.lt_iff_toInt_lt.mp h32
      have g2 : (32 : Int32).toInt = 32 := by decide
      show y.toInt.toNat < 32
      omega
    rw [hz_xs_lo xs (show j < 10000 by omega)]
    unfold hz_xs hz_v
    rw [if_pos (by omega), if_neg (by omega), if_pos (by omega), if_pos (by omega), if_neg (by omega), if_neg (by omega)]
    rw [show (10000 + 100 * j + y.toNatClampNeg - 10000) / 100 = j by omega, show (10000 + 100 * j + y.toNatClampNeg - 10000) % 100 = y.toNatClampNeg by omega, show (20000 + 100 * j + y.toNatClampNeg - 20000) / 100 = j by omega, show (20000 + 100 * j + y.toNatClampNeg - 20000) % 100 = y.toNatClampNeg by omega, hz_nIy h0]
    exact ⟨rfl, rfl⟩
  · unfold hz_xs
    rw [if_neg (by omega), if_pos h2, show 30000 + c - 30000 = c by omega]
/-- what a case takes as known -/
def hz_K (X : Nat → Int32) (kn : List (Nat × Int32)) (rg : List (Nat × Int32 × Int32 × Bool)) : Prop := (∀ q ∈ kn, (q.1 < 1000 → X q.1 = q.2) ∧ (1000 ≤ q.1 → q.1 < 2000 → ¬ X (q.1 - 1000) = 0) ∧ (2000 ≤ q.1 → X (q.1 - 2000) < 0 ∨ q.2 < X (q.1 - 2000))) ∧ ∀ q ∈ rg, (q.2.2.2 = true ↔ q.2.1 ≤ X q.1 ∧ X q.1 ≤ q.2.2.1)
theorem hz_K0 (X : Nat → Int32) : hz_K X [] [] := ⟨fun q h => absurd h List.not_mem_nil, fun q h => absurd h List.not_mem_nil⟩
theorem hz_Kk {X : Nat → Int32} {kn : List (Nat × Int32)} {rg : List (Nat × Int32 × Int32 × Bool)} {j : Nat} {v : Int32} (hj : j < 1000) (hx : X j = v) (h : hz_K X kn rg) : hz_K X ((j, v) :: kn) rg := ⟨fun q hq => by
  rcases List.mem_cons.mp hq with e | e
  · subst e
    exact ⟨fun _ => hx, fun q => by have : 1000 ≤ j := q; omega, fun q => by have : 2000 ≤ j := q; omega⟩
  · exact h.1 q e, h.2⟩
theorem hz_Kn {X : Nat → Int32} {kn : List (Nat × Int32)} {rg : List (Nat × Int32 × Int32 × Bool)} {j : Nat} {v : Int32} (h1 : 1000 ≤ j) (h2 : j < 2000) (hx : ¬ X (j - 1000) = 0) (h : hz_K X kn rg) : hz_K X ((j, v) :: kn) rg := ⟨fun q hq => by
  rcases List.mem_cons.mp hq with e | e
  · subst e
    exact ⟨fun q => by have : j < 1000 := q; omega, fun _ _ => hx, fun q => by have : 2000 ≤ j := q; omega⟩
  · exact h.1 q e, h.2⟩
theorem hz_Ko {X : Nat → Int32} {kn : List (Nat × Int32)} {rg : List (Nat × Int32 × Int32 × Bool)} {j : Nat} {v : Int32} (h1 : 2000 ≤ j) (hx : X (j - 2000) < 0 ∨ v < X (j - 2000)) (h : hz_K X kn rg) : hz_K X ((j, v) :: kn) rg := ⟨fun q hq => by
  rcases List.mem_cons.mp hq with e | e
  · subst e
    exact ⟨fun q => by have : j < 1000 := q; omega, fun _ q => by have : j < 2000 := q; omega, fun _ => hx⟩
  · exact h.1 q e, h.2⟩
theorem hz_Kt {X : Nat → Int32} {kn : List (Nat × Int32)} {rg : List (Nat × Int32 × Int32 × Bool)} {j : Nat} {a b : Int32} (hx : a ≤ X j ∧ X j ≤ b) (h : hz_K X kn rg) : hz_K X kn ((j, a, b, true) :: rg) := ⟨h.1, fun q hq => by
  rcases List.mem_cons.mp hq with e | e
  · subst e
    exact ⟨fun _ => hx, fun _ => rfl⟩
  · exact h.2 q e⟩
theorem hz_Kf {X : Nat → Int32} {kn : List (Nat × Int32)} {rg : List (Nat × Int32 × Int32 × Bool)} {j : Nat} {a b : Int32} (hx : ¬ (a ≤ X j ∧ X j ≤ b)) (h : hz_K X kn rg) : hz_K X kn ((j, a, b, false) :: rg) := ⟨h.1, fun q hq => by
  rcases List.mem_cons.mp hq with e | e
  · subst e
    exact ⟨fun q => (by cases q), fun q => absurd q hx⟩
  · exact h.2 q e⟩
theorem hz_find {L : List (Nat × Int32)} {j : Nat} {x : Int32} (h : hz_kn L j = some x) : (j, x) ∈ L := by
  unfold hz_kn at h
  split at h
  next q hq =>
    cases h
    have h1 := List.find?_some hq
    have h2 := Nat.eq_of_beq_eq_true h1
    have h3 := List.mem_of_find?_eq_some hq
    subst h2
    exact h3
  · cases h
theorem hz_rgOk {X : Nat → Int32} {kn : List (Nat × Int32)} {L : List (Nat × Int32 × Int32 × Bool)} (hK : hz_K X kn L) (j : Nat) (a b : Int32) (v : Bool) (h : hz_rg L j a b = some v) : v = true ↔ a ≤ X j ∧ X j ≤ b := by
  unfold hz_rg at h
  split at h
  next hc =>
    cases h
    simp only [Bool.and_eq_true, decide_eq_true_eq] at hc
    obtain ⟨rfl, rfl⟩ := hc
    refine ⟨fun q => (by cases q), fun q => ?_⟩
    have h1 := Int32.le_iff_toInt_le.mp q.1
    have h2 := Int32.le_iff_toInt_le.mp q.2
    have e1 : (0 : Int32).toInt = 0 := by decide
    have e2 : (-1 : Int32).toInt = -1 := by decide
    omega
  · split at h
    next q hq =>
      cases h
      have h1 := List.find?_some hq
      simp only [Bool.and_eq_true, decide_eq_true_eq] at h1
      obtain ⟨h1, h2, h3⟩ := h1
      have h1 := Nat.eq_of_beq_eq_true h1
      have h4 := hK.2 q (List.mem_of_find?_eq_some hq)
      rw [h1, h2, h3] at h4
      exact h4
    · cases h
section HZ
variable {G : hv_G} {p : Program} {l : Launch} {e : Env} {s : State} {m : MethodId} {below : List Frame} {meth : Method} {c : Code} {b : Nat}
/-- the law's frame -/
def hz_At (G : hv_G) (p : Program) (s : State) (m : MethodId) (meth : Method) (c : Code) (b : Nat) (xs : Nat → Int32) : Prop := hv_X G p s m #[Value.ref b] c lw_tbl (hc_own 11) code 4 ∧ meth.sig.returnType = some .boolean ∧ meth.locks = false ∧ G.1.1 = s.heap.size ∧ G.2.1 = hz_xs xs
theorem hz_d1478 : decode code 1478 = .ok (.iconst 1, 1) := by decide +kernel
theorem hz_d1479 : decode code 1479 = .ok (.ireturn, 1) := by decide +kernel
theorem hz_end {xs : Nat → Int32} (A : hz_At G p s m meth c b xs) {n cells slots : Nat} {hp : hv_H} {lv : List (Nat × Value)} (h1 : cells ≤ 600000) (h2 : slots ≤ 7302250) : hv_W G p l e room_1 s m #[Value.ref b] below meth c 4 (lw_Z below #[Value.ref b] s) n hp cells slots 1478 lv [] := by
  obtain ⟨X, hr, hlk, hB, hG⟩ := A
  refine hw_iconst (v := 1) X hz_d1478 (by decide) ?_
  intro H locs ls g1 g2 g3 g4
  refine va_forget (fun q hq => by rw [← hB]; exact g3 q hq) ?_
  refine W.widen h1 h2 ?_
  exact lw_ret X.1 X.2.1 hr hlk hz_d1479
theorem hz_go {xs : Nat → Int32} (A : hz_At G p s m meth c b xs) (hL : G.1.2.2 = 6) {kn : List (Nat × Int32)} {rg : List (Nat × Int32 × Int32 × Bool)} (hK : hz_K G.2.1 kn rg) {pc : Nat} (hz : hz_run kn rg pc = true) : hv_W G p l e room_1 s m #[Value.ref b] below meth c 4 (lw_Z below #[Value.ref b] s) 410 (hc_f hz_hp) 410 24060 pc (hc_lv hz_l1) [] := by
  have hLL : hc_LL G (6, hz_kn kn) := by
    refine ⟨Or.inr hL.symm, (by decide : (6 : Nat) < 1000), fun j x hx => hK.1 (j, x) (hz_find hx), ?_⟩
    rw [A.2.2.2.2]
    exact hz_sym xs
  unfold hz_run at hz
  split at hz
  next pc' lc' st' n' h' c' s' hrun =>
    simp only [Bool.and_eq_true] at hz
    have hst : st' = [] := List.isEmpty_iff.mp hz.1
    subst hst
    have h1 := Nat.le_of_ble_eq_true hz.2.1
    have h2 := Nat.le_of_ble_eq_true hz.2.2
    obtain ⟨X, hr, hlk, hB, hG⟩ := id A
    obtain ⟨k1, k2, k3, k4, k5⟩ := hc_till_ok (R := room_1) (e := e) (below := below) (meth := meth) (fr := 8) (lo := 100 * 8) X hc_gw_tbl hm_ok (hc_ev_ok hm_ok hLL (ho_ok (hz_rgOk hK)) 1000000 8) (by decide) (by decide) hLL hlk hr (ini := false) (fun q => by cases q) hm_lawD hm_lawO 1478 1000 pc _ _ _ hz_l1 [] hz_hp pc' n' c' s' lc' [] h' rfl hrun
    subst k4
    exact k5 h1 h2 _ (hz_end A h1 h2)
  · cases hz
end HZ
