def R_law : String := "HeardNextLaw"
def lw_P (b : Addr) (xs : List Int32) (args : Array Value) (s : State) : Prop := args = #[.ref b] ∧ s.IntsAt b xs ∧ xs.length ≤ 3072 ∧ (Jvm.Cond.and given_1 narrow_1).before args s = true
def lw_Q (_ : Array Value) (s : State) (o : Outcome) (t : State) : Prop := o = .returned (some (.int 1)) ∧ Framed s o t [] 600000 7302250
def lw_Z (below : List Frame) (a : Array Value) (s : State) : State → Prop := fun t => ∃ o, t.status = .running ∧ Ended t below o ∧ lw_Q a s o t
/-- the law's own end, with 1 on the stack, nothing written that was there before, its room as the claim has it -/
theorem lw_ret {p : Program} {l : Launch} {e : Env} {s : State} {m : MethodId} {below : List Frame} {meth : Method} {c : Code} {b : Nat} (hx : p.tables.exec = Jvm.exec) (hb : c.code = code) (hr : meth.sig.returnType = ret) (hlocks : meth.locks = false) {pc : Nat} {H : Heap} {ls : Array Slot} (hdg : decode code pc = .ok (.ireturn, 1)) : W p l e room_1 s m #[Value.ref b] below meth c H [] 600000 7302250 (lw_Z below #[Value.ref b] s) (F0 m pc ls [.int 1]) := by
  intro T hT X
  obtain ⟨fs, hret, hrun, hended, hW, hframe⟩ := X.leave (v := some (.int 1)) (hlocks := hlocks) (fun h => by rw [hr] at h; cases h)
  have hmeth' : T.vm.method? m = some meth := X.method'
  refine ⟨T.setFrames fs, ?_, .returned (some (.int 1)), hrun, hended, rfl, ⟨_, rfl⟩, hW, hframe⟩
  jvm_step X.here [X.here.top, hx, hb, hdg, hmeth', hr, ret, narrow_b1]
  (try refine ⟨rfl, ?_⟩); (try refine ⟨rfl, ?_⟩)
  first | (intro acts; rw [hret _ acts rfl rfl rfl]) | rw [hret _ _ rfl rfl rfl]
  exact Steps.refl _
/-- what holds at the law's entry: the machine, the code, the tables' words (any of lw_tbl by 'hts w (by decide +kernel)'), the script of L ints xs at the cell b, what the Statement gives of the start (any of its parts by flat_of_before) -/
def lw_At (p : Program) (s : State) (m : MethodId) (meth : Method) (c : Code) (b L : Nat) (xs : Nat → Int32) : Prop :=
  p.tables.exec = Jvm.exec ∧ c.code = code ∧ meth.sig.returnType = ret ∧ c.maxLocals = 4 ∧ s.vm.findClass R_law = some m.cls ∧ (∀ w ∈ lw_tbl, w.before #[Value.ref b] s = true) ∧ va_X b L xs s s.heap ∧ b < s.heap.size ∧ meth.locks = false ∧ (Jvm.Cond.and given_1 narrow_1).before #[Value.ref b] s = true
/-! THE LAW: its frame, its ends -/
def hz_v (xs : Nat → Int32) : Nat → Int32 := fun c => if c < 10000 then xs c else if c < 20000 then ((xs ((c - 10000) / 100)).toUInt32 >>> ((nI ((c - 10000) % 100)).toUInt32 &&& Int32.toUInt32 31)).toInt32 else (xs ((c - 20000) / 100)) >>> ((nI ((c - 20000) % 100)) &&& 31)
def hz_xs (xs : Nat → Int32) : Nat → Int32 := fun c => if c < 30000 then hz_v xs c else (hz_v xs (c - 30000)).toInt8.toInt32
theorem hz_xs_lo (xs : Nat → Int32) {j : Nat} (h : j < 10000) : hz_xs xs j = xs j := by
  unfold hz_xs hz_v
  rw [if_pos (by omega), if_pos h]
theorem hz_nIy {y : Int32} (h : ¬ y < 0) : nI y.toNatClampNeg = y := by
  obtain ⟨j, h1, h2⟩ := nI_of h
  rw [h2, nI_clamp h1]
theorem hz_sym (xs : Nat → Int32) : (∀ (j : Nat) (y : Int32), j < 100 → ¬ y < 0 → y < 32 → hz_xs xs (10000 + 100 * j + y.toNatClampNeg) = ((hz_xs xs j).toUInt32 >>> (y.toUInt32 &&& Int32.toUInt32 31)).toInt32 ∧ hz_xs xs (20000 + 100 * j + y.toNatClampNeg) = (hz_xs xs j) >>> (y &&& 31)) ∧ ∀ c : Nat, 10000 ≤ c → c < 30000 → hz_xs xs (30000 + c) = (hz_xs xs c).toInt8.toInt32 := by
  refine ⟨fun j y hj h0 h32 => ?_, fun c h1 h2 => ?_⟩
  · have hy : y.toNatClampNeg < 32 := by
      have g1 := Int32.lt_iff_toInt_lt.mp h32
      have g2 : (32 : Int32).toInt = 32 := by decide
      show y.toInt.toNat < 32
      omega
    rw [hz_xs_lo xs (show j < 10000 by omega)]
    unfold hz_xs hz_v
    rw [if_pos (by omega), if_neg (by omega), if_pos (by omega), if_pos (by omega), if_neg (by omega), if_neg (by omega)]
    rw [show (10000 + 100 * j + y.toNatClampNeg - 10000) / 100 = j by omega, show (10000 + 100 * j + y.toNatClampNeg - 10000) % 100 = y.toNatClampNeg by omega, show (20000 + 100 * j + y.toNatClampNeg - 20000) / 100 = j by omega, show (20000 + 100 * j + y.toNatClampNeg - 20000) % 100 = y.toNatClampNeg by omega, hz_nIy h0]
    exact ⟨rfl, rfl⟩
  · unfold hz_xs
    rw [if_neg (by omega), if_pos h2, show 30000 + c - 30000 = c by omega]
/-! THE TEXTS at the law's entry, out of what the Statement gives -/
theorem hx_lenS {args : Array Value} {s : State} {t : Term} {n : Int32} (h : (Term.length t).eval args s none [] s = some (.int n)) : ∃ (d : Addr) (arr : Cell), t.eval args s none [] s = some (.ref d) ∧ s.arrayAt? d = some arr ∧ arr.slots.size < 2 ^ 31 ∧ arr.slots.size.toInt32 = n := by
  cases ht : t.eval args s none [] s with
  | none => simp [Term.eval, ht] at h
  | some v =>
    cases v with
    | ref d =>
      cases ha : s.arrayAt? d with
      | none => simp [Term.eval, ht, ha] at h
      | some arr =>
        simp only [Term.eval, ht, ha, Option.bind_eq_bind, Option.bind_some] at h
        split at h
        next hlt =>
          cases h
          exact ⟨d, arr, rfl, ha, hlt, rfl⟩
        · cases h
    | int x => simp [Term.eval, ht] at h
    | long x => simp [Term.eval, ht] at h
    | float x => simp [Term.eval, ht] at h
    | double x => simp [Term.eval, ht] at h
    | null => simp [Term.eval, ht] at h
    | retAddr x => simp [Term.eval, ht] at h
theorem hx_elemS {args : Array Value} {s : State} {t : Term} {j : Int32} {v : Value} {d : Addr} {arr : Cell} (ht : t.eval args s none [] s = some (.ref d)) (ha : s.arrayAt? d = some arr) (h : (Term.elem t (.int j)).eval args s none [] s = some v) : arr.slots[j.toNatClampNeg]? = some v := by
  simp only [Term.eval, ht, ha, Option.bind_eq_bind, Option.bind_some] at h
  split at h
  · cases h
  · exact h
theorem hx_fldS {args : Array Value} {s : State} {t : Term} {a : Addr} {C n d : String} (ht : t.eval args s none [] s = some (.ref a)) : (Term.field t C n d).eval args s none [] s = s.fieldOf? a C n d := by
  simp only [Term.eval, ht, Option.bind_eq_bind, Option.bind_some]
theorem hx_stat {args : Array Value} {s : State} {C n d : String} {v : Value} (hl : (Cond.laysStatic C n d).before args s = true) (hi : (Cond.initialized C).before args s = true) (h : (Term.static C n d).eval args s none [] s = some v) : Jvm.Lib.Cold.StaticIs s C n d v := by
  obtain ⟨c, k, i, f, a, cell, h1, h2, h3, h4, h5, h6, h7, h8, h9⟩ := Cond.laysStatic_spec hl
  obtain ⟨q1, a', cell', g1, g2, g3, g4⟩ := Term.static_spec h2 h
  have hk : s.vm.classes[c]? = some k := by
    have h2' := h2
    simp only [State.fieldFound?, Option.bind_eq_bind, Option.bind_eq_some_iff, Option.pure_def, Option.some.injEq, Prod.mk.injEq] at h2'
    obtain ⟨_, _, _, _, _, _, k', hk', _, _, e1, e2, _⟩ := h2'
    subst e1 e2
    exact hk'
  exact ⟨c, i, k, f, a', cell', h2, h3, Cond.initialized_spec h1 hk hi, g1, g2, g3, g4⟩
def hx_F (ix : Nat) : Term := .field (.string "HeardNext$Tokens" ix) "java/lang/String" "value" "[B"
theorem hx_mk {args : Array Value} {s : State} {ix a : Nat} {bs : List Nat} (hev : (Term.string "HeardNext$Tokens" ix).eval args s none [] s = some (.ref a)) (h1 : (Cond.exactly (.string "HeardNext$Tokens" ix) "java/lang/String").before args s = true)
    (h2 : (Cond.eq (.field (.string "HeardNext$Tokens" ix) "java/lang/String" "coder" "B") (.int 0)).before args s = true) (h3 : (Cond.arrayOf (hx_F ix) .byte).before args s = true) (h4 : (Cond.eq (.length (hx_F ix)) (.int (Int32.ofNat bs.length))).before args s = true) (hb : bs.length < 200)
    (h5 : ∀ i, i < bs.length → (Cond.eq (.elem (hx_F ix) (.int (Int32.ofNat i))) (.int (Int32.ofNat (bs.getD i 0)))).before args s = true) : hx_T a bs s := by
  obtain ⟨a', c, C, k, e1, e2, e3, e4, e5, e6, e7⟩ := Cond.exactly_spec h1
  have ea : a' = a := by rw [hev] at e1; cases e1; rfl
  subst ea
  have hco := Cond.eq_int h2 rfl
  rw [hx_fldS hev] at hco
  obtain ⟨d, arr, f1, f2, f3, f4⟩ := hx_lenS (Cond.eq_int h4 rfl)
  have f1' := f1
  unfold hx_F at f1'
  rw [hx_fldS hev] at f1'
  obtain ⟨g1, g2, g3, -⟩ := State.arrayAt?_spec f2
  have hsz : arr.slots.size = bs.length := by
    have := congrArg Int32.toInt f4
    have e8 : (arr.slots.size.toInt32).toInt = arr.slots.size := Int32.toInt_ofNat_of_lt f3
    have e9 : (Int32.ofNat bs.length).toInt = bs.length := Int32.toInt_ofNat_of_lt (by omega)
    rw [e8, e9] at this
    omega
  refine ⟨d, C, arr, e3, e5, by rw [e6]; exact e2, ?_, f1', hco, g1, Jvm.Lib.arrayOf_spec h3 f1 f2, g2, hsz, fun i b' hi => ?_⟩
  · have e10 : (Term.arg 0).eval #[.ref a'] s none [] s = some (.ref a') := rfl
    simp only [Cond.before, Cond.holds, Cond.value, hev, e10] at h1 ⊢
    exact h1
  · have hlt : i < bs.length := (List.getElem?_eq_some_iff.mp hi).1
    have h6 := hx_elemS f1 f2 (Cond.eq_int (h5 i hlt) rfl)
    have e11 : (Int32.ofNat i).toNatClampNeg = i := nI_clamp (by omega)
    rw [e11, List.getD_eq_getElem?_getD, hi] at h6
    exact h6
def hx_fl : List Cond := flatC (Jvm.Cond.and given_1 narrow_1)
set_option maxRecDepth 1000000 in
theorem hx_n0 : ∀ i, i < 9 → Cond.eq (.elem (hx_F 39) (.int (Int32.ofNat i))) (.int (Int32.ofNat ((hc_txt 0).getD i 0))) ∈ hx_fl := by decide +kernel
set_option maxRecDepth 1000000 in
theorem hx_n1 : ∀ i, i < 102 → Cond.eq (.elem (hx_F 50) (.int (Int32.ofNat i))) (.int (Int32.ofNat ((hc_txt 1).getD i 0))) ∈ hx_fl := by decide +kernel
set_option maxRecDepth 1000000 in
theorem hx_n2 : Cond.exactly (.string "HeardNext$Tokens" 39) "java/lang/String" ∈ hx_fl ∧ Cond.eq (.field (.string "HeardNext$Tokens" 39) "java/lang/String" "coder" "B") (.int 0) ∈ hx_fl ∧ Cond.arrayOf (hx_F 39) .byte ∈ hx_fl ∧ Cond.eq (.length (hx_F 39)) (.int (Int32.ofNat (hc_txt 0).length)) ∈ hx_fl := by decide +kernel
set_option maxRecDepth 1000000 in
theorem hx_n3 : Cond.exactly (.string "HeardNext$Tokens" 50) "java/lang/String" ∈ hx_fl ∧ Cond.eq (.field (.string "HeardNext$Tokens" 50) "java/lang/String" "coder" "B") (.int 0) ∈ hx_fl ∧ Cond.arrayOf (hx_F 50) .byte ∈ hx_fl ∧ Cond.eq (.length (hx_F 50)) (.int (Int32.ofNat (hc_txt 1).length)) ∈ hx_fl := by decide +kernel
set_option maxRecDepth 1000000 in
theorem hx_n4 : Cond.eq (.static "java/lang/String" "COMPACT_STRINGS" "Z") (.int 1) ∈ hx_fl ∧ Cond.isRef (.static "jdk/internal/util/Preconditions" "SIOOBE_FORMATTER" "Ljava/util/function/BiFunction;") ∈ hx_fl := by decide +kernel
set_option maxRecDepth 1000000 in
theorem hx_w0 : Cond.stringRef "HeardNext$Tokens" 39 (hx_tt 0) ∈ lw_tbl := List.mem_of_getElem? (i := 555) (by decide +kernel)
set_option maxRecDepth 1000000 in
theorem hx_w1 : Cond.stringRef "HeardNext$Tokens" 50 (hx_tt 1) ∈ lw_tbl := List.mem_of_getElem? (i := 500) (by decide +kernel)
set_option maxRecDepth 1000000 in
theorem hx_w2 : Cond.laysStatic "java/lang/String" "COMPACT_STRINGS" "Z" ∈ lw_tbl := List.mem_of_getElem? (i := 510) (by decide +kernel)
set_option maxRecDepth 1000000 in
theorem hx_w3 : Cond.laysStatic "jdk/internal/util/Preconditions" "SIOOBE_FORMATTER" "Ljava/util/function/BiFunction;" ∈ lw_tbl := List.mem_of_getElem? (i := 526) (by decide +kernel)
theorem hx_texts {s : State} {b : Nat} (hts : ∀ w ∈ lw_tbl, w.before #[Value.ref b] s = true) (hgv : (Jvm.Cond.and given_1 narrow_1).before #[Value.ref b] s = true) {ct : ClassId} (hct : s.vm.findClass "HeardNext$Tokens" = some ct) :
    ∃ a0 a1 : Nat, hx_Z s ∧ (hx_T a0 (hc_txt 0) s ∧ (Cond.stringRef "HeardNext$Tokens" 39 (hx_tt 0)).before #[] s = true ∧ (Term.string "HeardNext$Tokens" 39).eval #[] s none [] s = some (.ref a0)) ∧ (hx_T a1 (hc_txt 1) s ∧ (Cond.stringRef "HeardNext$Tokens" 50 (hx_tt 1)).before #[] s = true ∧ (Term.string "HeardNext$Tokens" 50).eval #[] s none [] s = some (.ref a1)) := by
  have hs := flat_of_before _ hgv
  have w0 := hts _ hx_w0
  have w1 := hts _ hx_w1
  obtain ⟨-, -, -, a0, -, -, -, -, -, e0⟩ := Cond.stringRef_spec hct w0
  obtain ⟨-, -, -, a1, -, -, -, -, -, e1⟩ := Cond.stringRef_spec hct w1
  obtain ⟨f, f1, f2⟩ := Cond.isRef_spec (hs _ hx_n4.2)
  refine ⟨a0, a1, ⟨hx_stat (hts _ hx_w2) (hts _ (hc_gw_tbl _ hl_t_nstr)) (Cond.eq_int (hs _ hx_n4.1) rfl), f, hx_stat (hts _ hx_w3) (hts _ (hc_gw_tbl _ hl_t_npre)) f1, f2⟩, ⟨?_, w0, e0⟩, ⟨?_, w1, e1⟩⟩
  · exact hx_mk e0 (hs _ hx_n2.1) (hs _ hx_n2.2.1) (hs _ hx_n2.2.2.1) (hs _ hx_n2.2.2.2) (by decide) (fun i hi => hs _ (hx_n0 i hi))
  · exact hx_mk e1 (hs _ hx_n3.1) (hs _ hx_n3.2.1) (hs _ hx_n3.2.2.1) (hs _ hx_n3.2.2.2) (by decide +kernel) (fun i hi => hs _ (hx_n1 i hi))
section HZ
variable {G : hv_G} {p : Program} {l : Launch} {e : Env} {s : State} {m : MethodId} {below : List Frame} {meth : Method} {c : Code} {b : Nat}
/-- the law's frame -/
def hz_At (G : hv_G) (p : Program) (s : State) (m : MethodId) (meth : Method) (c : Code) (b : Nat) (xs : Nat → Int32) : Prop := hv_X G p s m #[Value.ref b] c lw_tbl (hc_own 11) code 4 ∧ meth.sig.returnType = some .boolean ∧ meth.locks = false ∧ G.1.1 = s.heap.size ∧ G.2.1 = hz_xs xs
theorem hz_d1478 : decode code 1478 = .ok (.iconst 1, 1) := by decide +kernel
theorem hz_d1479 : decode code 1479 = .ok (.ireturn, 1) := by decide +kernel
theorem hz_ret {xs : Nat → Int32} (A : hz_At G p s m meth c b xs) {n cells slots : Nat} {hp : hv_H} {lv : List (Nat × Value)} (h1 : cells ≤ 600000) (h2 : slots ≤ 7302250) : hv_W G p l e room_1 s m #[Value.ref b] below meth c 4 (lw_Z below #[Value.ref b] s) n hp cells slots 1479 lv [.int 1] := by
  obtain ⟨X, hr, hlk, hB, hG⟩ := A
  intro H locs ls g1 g2 g3 g4
  refine va_forget (fun q hq => by rw [← hB]; exact g3 q hq) ?_
  refine W.widen h1 h2 ?_
  exact lw_ret X.1 X.2.1 hr hlk hz_d1479
theorem hz_end {xs : Nat → Int32} (A : hz_At G p s m meth c b xs) {n cells slots : Nat} {hp : hv_H} {lv : List (Nat × Value)} (h1 : cells ≤ 600000) (h2 : slots ≤ 7302250) : hv_W G p l e room_1 s m #[Value.ref b] below meth c 4 (lw_Z below #[Value.ref b] s) n hp cells slots 1478 lv [] := hw_iconst (v := 1) A.1 hz_d1478 (by decide) (hz_ret A h1 h2)
theorem hz_or (G : hv_G) (l : Launch) : hc_OR G l (fun _ _ _ => none) := fun k e as h v _ hv => by cases hv
theorem hz_LL0 {xs : Nat → Int32} (hG : G.2.1 = hz_xs xs) : hc_LL G (0, fun _ => none) := ⟨Or.inl rfl, (by decide : (0 : Nat) < 10000), fun j x h => (by cases h), by rw [hG]; exact hz_sym xs⟩
theorem hz_LLx {xs : Nat → Int32} (hG : G.2.1 = hz_xs xs) (hL : G.1.2.2 ≤ 3072) : hc_LL G (G.1.2.2, hlS xs) := by
  refine ⟨Or.inr rfl, (by show G.1.2.2 < 10000; omega), fun j x h => ?_, by rw [hG]; exact hz_sym xs⟩
  have h' : hlS xs j = some x := h
  unfold hlS at h'
  split at h'
  next hj =>
    cases h'
    exact ⟨fun _ => by rw [hG]; exact hz_xs_lo xs hj, fun q => by omega, fun q => by omega⟩
  · cases h'
theorem hz_d18 : decode code 18 = .ok (.iload_n 3, 1) := by decide +kernel
theorem hz_d19 : decode code 19 = .ok (.aload_n 0, 1) := by decide +kernel
theorem hz_d20 : decode code 20 = .ok (.arraylength, 1) := by decide +kernel
theorem hz_d21 : decode code 21 = .ok (.bipush 6, 2) := by decide +kernel
theorem hz_d23 : decode code 23 = .ok (.isub, 1) := by decide +kernel
theorem hz_d24 : decode code 24 = .ok (.if_icmp .gt 1454, 3) := by decide +kernel
/-- from the head of the law's loop -/
theorem hz_head {xs : Nat → Int32} (A : hz_At G p s m meth c b xs) (hL : G.1.2.2 ≤ 3072) : hv_W G p l e room_1 s m #[Value.ref b] below meth c 4 (lw_Z below #[Value.ref b] s) hs_n (hc_f hy_hp) 410 24060 18 (hc_lv hz_l1) [] := by
  obtain ⟨X, hr, hlk, hB, hG⟩ := id A
  by_cases h0 : G.1.2.2 = 0
  · refine hw_iload_n X hz_d18 rfl (i := 3) (x := 0) (hc_lv_mem.mpr ⟨rfl, rfl⟩) ?_
    refine hw_aload_n X hz_d19 rfl (i := 0) (x := 0) (hc_lv_mem.mpr ⟨rfl, rfl⟩) ?_
    refine hw_slen X hz_d20 rfl ?_
    refine hw_bipush (v := 6) X hz_d21 (by decide) ?_
    refine hw_isub X hz_d23 ?_
    refine hw_icmp_gt (tgt := 1478) X hz_d24 rfl (fun _ => hz_end A (by decide) (by decide)) (fun q => absurd ?_ q)
    rw [h0]
    decide
  · obtain ⟨F, n, l', h', hrun⟩ := hlaw_all (xs := xs) h0 hL hy_hp hy_Rep
    have hrun := hrun F (Nat.le_refl _)
    obtain ⟨k1, k2, k3, k4⟩ := hc_steps_ok (l := l) (R := room_1) (e := e) (below := below) (meth := meth) (fr := 26 + 4) (lo := 100 * 26 + 200) X hc_gw_tbl hm_ok (hc_ev_ok hm_ok (hz_LL0 hG) (hz_or G l) F 26) (by decide) (by decide) (hz_LLx hG hL) hlk hr (ini := false) (fun q => by cases q) hm_lawD hm_lawO n 18 hs_n 410 24060 [.ref 0, .ref 1, .ref 368, .int (Int32.ofNat 0)] [] hy_hp 1479 hs_n 410 24060 l' [.int 1] h' rfl hrun
    exact k4 (by decide) (by decide) _ (hz_ret A (by decide) (by decide))
end HZ
