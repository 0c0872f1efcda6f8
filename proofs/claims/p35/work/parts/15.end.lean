set_option maxHeartbeats 4000000 in
theorem whole_start {p : Program} {e : Env} {s : State} {m : MethodId} {below : List Frame} {meth : Method} {c : Code} (l : Launch) (hflags : l.flags = flags0) {b L : Nat} {xs : Nat → Int32} (hL : L ≤ 3072) (C0 : lw_At p s m meth c b L xs) : W p l e room_1 s m #[Value.ref b] below meth c s.heap [] 0 0 (lw_Z below #[Value.ref b] s) (entryFrame m ([Value.ref b] : List Value).toArray 4) := by
  obtain ⟨hx, hb, hr, hml, hown, hts, hX, hbl, hlocks, hgv⟩ := id C0
  obtain ⟨c0, iS0, hKn0⟩ := u_known (C := RX0) (T := TX0) (N := 6) (n := 6) hts (fun w hw => hc_gw_tbl _ (hl_w0 w hw)) (hts (.instantiable RX0 6) (hc_gw_tbl _ (by obtain ⟨p1, hp1⟩ := hc_m2_ok (hl_IN_all 0 (by decide)).1; exact hc_in (hl_IN_ok _ hp1) rfl)))
  obtain ⟨c1, iS1, hKn1⟩ := u_known (C := RX1) (T := TX1) (N := 6) (n := 6) hts (fun w hw => hc_gw_tbl _ (hl_w1 w hw)) (hts (.instantiable RX1 6) (hc_gw_tbl _ (by obtain ⟨p1, hp1⟩ := hc_m2_ok (hl_IN_all 1 (by decide)).1; exact hc_in (hl_IN_ok _ hp1) rfl)))
  obtain ⟨c2, iS2, hKn2⟩ := u_known (C := RX2) (T := TX2) (N := 11) (n := 11) hts (fun w hw => hc_gw_tbl _ (hl_w2 w hw)) (hts (.instantiable RX2 11) (hc_gw_tbl _ (by obtain ⟨p1, hp1⟩ := hc_m2_ok (hl_IN_all 2 (by decide)).1; exact hc_in (hl_IN_ok _ hp1) rfl)))
  obtain ⟨c3, iS3, hKn3⟩ := u_known (C := RX3) (T := TX3) (N := 3) (n := 3) hts (fun w hw => hc_gw_tbl _ (hl_w3 w hw)) (hts (.instantiable RX3 3) (hc_gw_tbl _ (by obtain ⟨p1, hp1⟩ := hc_m2_ok (hl_IN_all 3 (by decide)).1; exact hc_in (hl_IN_ok _ hp1) rfl)))
  obtain ⟨c4, iS4, hKn4⟩ := u_known (C := RX4) (T := TX4) (N := 9) (n := 9) hts (fun w hw => hc_gw_tbl _ (hl_w4 w hw)) (hts (.instantiable RX4 9) (hc_gw_tbl _ (by obtain ⟨p1, hp1⟩ := hc_m2_ok (hl_IN_all 4 (by decide)).1; exact hc_in (hl_IN_ok _ hp1) rfl)))
  obtain ⟨c5, iS5, hKn5⟩ := u_known (C := RX5) (T := TX5) (N := 8) (n := 8) hts (fun w hw => hc_gw_tbl _ (hl_w5 w hw)) (hts (.instantiable RX5 8) (hc_gw_tbl _ (by obtain ⟨p1, hp1⟩ := hc_m2_ok (hl_IN_all 5 (by decide)).1; exact hc_in (hl_IN_ok _ hp1) rfl)))
  obtain ⟨c6, iS6, hKn6⟩ := u_known (C := RX6) (T := TX6) (N := 4) (n := 4) hts (fun w hw => hc_gw_tbl _ (hl_w6 w hw)) (hts (.instantiable RX6 4) (hc_gw_tbl _ (by obtain ⟨p1, hp1⟩ := hc_m2_ok (hl_IN_all 6 (by decide)).1; exact hc_in (hl_IN_ok _ hp1) rfl)))
  obtain ⟨c7, iS7, hKn7⟩ := u_known (C := RX7) (T := TX7) (N := 3) (n := 3) hts (fun w hw => hc_gw_tbl _ (hl_w7 w hw)) (hts (.instantiable RX7 3) (hc_gw_tbl _ (by obtain ⟨p1, hp1⟩ := hc_m2_ok (hl_IN_all 7 (by decide)).1; exact hc_in (hl_IN_ok _ hp1) rfl)))
  obtain ⟨c8, iS8, hKn8⟩ := u_known (C := RX8) (T := TX8) (N := 2) (n := 2) hts (fun w hw => hc_gw_tbl _ (hl_w8 w hw)) (hts (.instantiable RX8 2) (hc_gw_tbl _ (by obtain ⟨p1, hp1⟩ := hc_m2_ok (hl_IN_all 8 (by decide)).1; exact hc_in (hl_IN_ok _ hp1) rfl)))
  obtain ⟨c9, iS9, hKn9⟩ := u_known (C := RX9) (T := TX9) (N := 17) (n := 17) hts (fun w hw => hc_gw_tbl _ (hl_w9 w hw)) (hts (.instantiable RX9 17) (hc_gw_tbl _ (by obtain ⟨p1, hp1⟩ := hc_m2_ok (hl_IN_all 9 (by decide)).1; exact hc_in (hl_IN_ok _ hp1) rfl)))
  obtain ⟨c10, iS10, hKn10⟩ := u_known (C := RX10) (T := TX10) (N := 64) (n := 64) hts (fun w hw => hc_gw_tbl _ (hl_w10 w hw)) (hts (.instantiable RX10 64) (hc_gw_tbl _ (by obtain ⟨p1, hp1⟩ := hc_m2_ok (hl_IN_all 10 (by decide)).1; exact hc_in (hl_IN_ok _ hp1) rfl)))
  obtain ⟨dC, dI, hKc⟩ : ∃ (dC : Nat → ClassId) (dI : Nat → Nat → Nat), ∀ (k : Nat) (q : vw_C), vwCl[k]? = some q → u_Kn s q.1 q.2.1 q.2.2 (dC k) (dI k) := by
    refine ⟨fun k => match k with | 0 => c0 | 1 => c1 | 2 => c2 | 3 => c3 | 4 => c4 | 5 => c5 | 6 => c6 | 7 => c7 | 8 => c8 | 9 => c9 | _ => c10, fun k => match k with | 0 => iS0 | 1 => iS1 | 2 => iS2 | 3 => iS3 | 4 => iS4 | 5 => iS5 | 6 => iS6 | 7 => iS7 | 8 => iS8 | 9 => iS9 | _ => iS10, ?_⟩
    intro k q hq
    match k, hq with
    | 0, hq => cases hq; exact hKn0
    | 1, hq => cases hq; exact hKn1
    | 2, hq => cases hq; exact hKn2
    | 3, hq => cases hq; exact hKn3
    | 4, hq => cases hq; exact hKn4
    | 5, hq => cases hq; exact hKn5
    | 6, hq => cases hq; exact hKn6
    | 7, hq => cases hq; exact hKn7
    | 8, hq => cases hq; exact hKn8
    | 9, hq => cases hq; exact hKn9
    | 10, hq => cases hq; exact hKn10
    | k + 11, hq => simp [vwCl] at hq
  obtain ⟨cB, kB, oB, fB, gB, iB⟩ := Cond.arrayClass_spec (hts _ (hc_gw_tbl _ hl_arr_byte))
  obtain ⟨cI, kI, oI, fI, gI, iI⟩ := Cond.arrayClass_spec (hts _ (hc_gw_tbl _ hl_arr_int))
  obtain ⟨cJ, kJ, oJ, fJ, gJ, iJ⟩ := Cond.arrayClass_spec (hts _ (hc_gw_tbl _ hl_arr_long))
  obtain ⟨cZ, kZ, oZ, fZ, gZ, iZ⟩ := Cond.arrayClass_spec (hts _ (hc_gw_tbl _ hl_arr_boolean))
  obtain ⟨oL, cL, kL, a1, -, gL, iL, fL⟩ := Cond.arrayOver_spec (hts _ (hc_gw_tbl _ hl_aoL))
  obtain ⟨oA, cA, kA, -, -, gA, iA, fA⟩ := Jvm.Stand.arrayOver_specB (hts _ (hc_gw_tbl _ hl_aoI))
  have mkA : ∀ (cc : ClassId) (kk : Class) (oo : ClassId) (ty : FieldType), s.vm.classes[cc]? = some kk → kk.kind = .array oo ty → ArrOfT s cc ty := fun cc kk oo ty h1 h2 N z => ⟨fun k h => (by cases h), kk, h1, oo, h2⟩
  obtain ⟨tA0, tA1, hZ, ⟨t0, r0, e0⟩, ⟨t1, r1, e1⟩⟩ := hx_texts hts hgv (ct := c6) (hKn6.2.1)
  let G : hv_G := ((s.heap.size, b, L), hz_xs xs, (dC, dI), fun t => match t with | 0 => cB | 1 => cI | 2 => cJ | 3 => cZ | 4 => cL | 5 => cA | 1000 => tA0 | _ => tA1)
  have hK : va_K G.2.2.1 vwCl (hv_tys G) s := by
    refine ⟨hKc, fun k q hq => ?_⟩
    match k, hq with
    | 0, hq => cases hq; exact ⟨mkA cB kB oB _ gB iB, fB⟩
    | 1, hq => cases hq; exact ⟨mkA cI kI oI _ gI iI, fI⟩
    | 2, hq => cases hq; exact ⟨mkA cJ kJ oJ _ gJ iJ, fJ⟩
    | 3, hq => cases hq; exact ⟨mkA cZ kZ oZ _ gZ iZ, fZ⟩
    | 4, hq => cases hq; exact ⟨mkA cL kL oL _ gL iL, kL, oL, gL, iL, a1, fL⟩
    | 5, hq => cases hq; exact ⟨mkA cA kA oA _ gA iA, fA⟩
    | k + 6, hq => simp [hv_tys] at hq
  have hX2 : va_X b L (hz_xs xs) s s.heap := by
    obtain ⟨scr, h1, h2, h3, h4, h5⟩ := hX
    exact ⟨scr, h1, h2, h3, h4, fun j hj => by rw [hz_xs_lo xs (by omega)]; exact h5 j hj⟩
  have hXK : hx_K G s := by
    refine ⟨fun k => ?_, s, Nat.le_refl _, fun y c hy => hy, Vm.Alike.refl s.vm, hZ, fun k => ?_⟩
    · match k with
      | 0 => exact ⟨r0, e0⟩
      | k + 1 => exact ⟨r1, e1⟩
    · match k with
      | 0 => exact t0
      | k + 1 => exact t1
  have A : hz_At G p s m meth c b xs := ⟨⟨hx, hb, hml, hown, hts, hK, Nat.le_refl _, hbl, hXK, hX2⟩, hr, hlocks, rfl, rfl⟩
  have hLL : hc_LL G (0, fun _ => none) := ⟨Or.inl rfl, (by decide : (0 : Nat) < 10000), fun j x h => (by cases h), hz_sym xs⟩
  have hst := hc_steps_ok (l := l) (R := room_1) (e := e) (below := below) (meth := meth) (fr := 26 + 4) (lo := 100 * 26 + 200) A.1 hc_gw_tbl hm_ok (hc_ev_ok hm_ok hLL (hz_or G l) 1000000 26) (by decide) (by decide) hLL hlocks hr (ini := false) (fun q => by cases q) hm_lawD hm_lawO 10 0 0 0 0 hz_l0 [] hz_h0 18 hs_n 410 24060 hz_l1 [] hy_hp rfl hz_init
  have hW := hst.2.2.2 (by decide) (by decide) _ (hz_head A hL)
  have hl := lv_entry ([.ref b]) (n := 4) (Nat.le_of_ble_eq_true rfl)
  rw [lg_entry_eq]
  refine hW s.heap [] _ ⟨rfl, fun i x hi => ?_⟩ (fun q _ => rfl) (fun q hq => absurd hq List.not_mem_nil) ?_
  · exfalso
    unfold hc_f at hi
    have hn : hc_get hz_h0 i = none := by
      unfold hc_get hz_h0
      rw [hc_nth_eq, List.getElem?_replicate]
      by_cases h1 : i / 32 < 13
      · rw [if_pos h1]
        dsimp only
        rw [hc_nth_eq, List.getElem?_replicate]
        by_cases h2 : i % 32 < 32
        · rw [if_pos h2]
        · rw [if_neg h2]
      · rw [if_neg h1]
    rw [hn] at hi
    cases hi
  · refine ⟨hl.1, hl.2.1, fun q hq => ?_⟩
    obtain ⟨⟨i, v⟩, h1, rfl⟩ := List.mem_map.mp hq
    obtain ⟨g1, g2⟩ := hc_lv_mem.mp h1
    match i, g1 with
    | 0, g1 => cases g1; exact hl.2.2 (0, .ref b) (List.mem_of_getElem? (i := 0) rfl)
    | 1, g1 => cases g1; cases g2
    | 2, g1 => cases g1; cases g2
    | 3, g1 => cases g1; cases g2
    | i + 4, g1 => simp [hz_l0] at g1

-- ===== YOUR PART ENDS =====
set_option maxHeartbeats 4000000 in
theorem lw_walk (l : Launch) (hflags : l.flags = flags0) (b : Addr) (xs : List Int32) : MetFree l x (headSpec (Jvm.Cond.code x code maxLocals ret :: tables_1) room_1) (lw_P b xs) (fun _ _ _ _ _ => True) lw_Q := by
  refine MetFree.of_bodyS (code := code) (maxLocals := maxLocals) (ret := ret) (by decide) ?_ ?_
  · intro args s m h hn
    obtain ⟨meth, c, h1, h2, h3, h4, h5, h6, -, -⟩ := Cond.code_spec hn (atoms_spec (ws := Jvm.Cond.code x code maxLocals ret :: tables_1) h _ List.mem_cons_self)
    exact ⟨meth, c, h1, h2, h3, h4, h5, h6⟩
  · intro p e s m args below meth c s₁ B hml0 hP _
    obtain ⟨rfl, hx, hbd, hgv⟩ := hP
    obtain ⟨scr, harrAt, hlist, hof, hsmall⟩ := hx
    obtain ⟨hcb, hkn, -, -⟩ := State.arrayAt?_spec harrAt
    have hown : s.vm.findClass R_law = some m.cls := findClass_of_methodNamed B.named
    have hts0 : ∀ c ∈ (Jvm.Cond.code x code maxLocals ret :: tables_1), c.before #[Value.ref b] s = true := atoms_spec (ws := Jvm.Cond.code x code maxLocals ret :: tables_1) B.pre
    have hts : ∀ w ∈ lw_tbl, w.before #[Value.ref b] s = true := k2_hts_sels lw_privs (fun w hw => hts0 w (List.mem_cons_of_mem _ hw)) lw_privs_ok
    have hml : c.maxLocals = 4 := B.maxLocals_eq (hts0 _ List.mem_cons_self)
    have X₀ : Stand p l e room_1 s m #[Value.ref b] below meth c s₁ [] 0 0 := Stand.of_body B
    have hh0 : s₁.heap = s.heap := by rw [B.state]; rfl
    have hsz : scr.slots.size = xs.length := by rw [← Array.length_toList, hlist, List.length_map]
    have hval : ∀ j : Nat, j < xs.length → scr.slots[j]? = some (.int (xs.getD j 0)) := fun j hj => by
      rw [← Array.getElem?_toList, hlist]
      simp [hj]
    have hbl : b < s.heap.size := (Array.getElem?_eq_some_iff.mp hcb).1
    have hX : va_X b xs.length (fun j => xs.getD j 0) s s.heap := ⟨scr, hcb, hof, hkn, hsz, hval⟩
    have K : W p l e room_1 s m #[Value.ref b] below meth c s₁.heap [] 0 0 (lw_Z below #[Value.ref b] s) (entryFrame m ([Value.ref b] : List Value).toArray 4) := by
      rw [hh0]
      exact whole_start l hflags hbd ⟨B.exec, B.bytes, B.returns, hml, hown, hts, hX, hbl, B.notSynchronized, hgv⟩
    obtain ⟨t, a1, o, b1, b2, b3⟩ := K s₁ rfl X₀
    exact ⟨t, o, a1, b1, b2, b3⟩
theorem lw_pre_spec {args : Array Value} {s : State} (h : (Jvm.Cond.and given_1 narrow_1).before args s = true) (hr : rest_1_c.before args s = true) : ∃ (b : Addr) (xs : List Int32), lw_P b xs args s := by
  have hs := flat_of_before _ h
  have hq := flat_of_before _ hr
  have hc : (Cond.count 1).before args s = true := hs _ (by decide +kernel)
  have harr : (Cond.arrayOf (.arg 0) .int).before args s = true := hs _ (by decide +kernel)
  have hle : (Cond.le (.length (.arg 0)) (.int 3072)).before args s = true := hs _ (by decide +kernel)
  have hlen : (Cond.isInt (.length (.arg 0))).before args s = true := hq _ (by decide +kernel)
  have hall : (Cond.all (.arg 0) (.isInt (.elem (.arg 0) (.index 0)))).before args s = true := hq _ (by decide +kernel)
  obtain ⟨b, xs, hb, hx⟩ := State.ints_of_pre rfl harr hlen hall
  have hsm : xs.length < 2 ^ 31 := hx.choose_spec.2.2.2
  have hev : (Term.length (.arg 0)).eval args s none [] s = some (.int xs.length.toInt32) := hx.length_eval hb
  have hv := Cond.le_ints hev (show (Term.int 3072).eval args s none [] s = some (.int 3072) from rfl)
  have hd : xs.length.toInt32 ≤ 3072 := by
    simpa [Cond.before, Cond.holds, hv] using hle
  have hN : xs.length ≤ 3072 := (Int32.ofNat_le_ofNat hsm (by decide)).mp (show Int32.ofNat xs.length ≤ Int32.ofNat 3072 from hd)
  exact ⟨b, xs, Cond.one_arg hc (show args[0]? = some (.ref b) from hb), hx, hN, h⟩
theorem lw_comes (l : Launch) (hflags : l.flags = flags0) : Comes l x (Jvm.Cond.code x code maxLocals ret :: tables_1) room_1 (fun tb e args s => Calls_1 tb e args s ∧ rest_1 tb e args s ∧ Pre_1 tb e args s)
    (fun _ _ args s o t => lw_Q args s o t) := by
  intro p e ha hc hk s m args below hf hfit hheap happ hpre
  obtain ⟨b, xs, hP⟩ := lw_pre_spec hpre.2.2 hpre.2.1
  obtain ⟨k, o, h1, h2, h3, hQ⟩ := lw_walk l hflags b xs p e ha hc hk s m args below hf ((Spec.applies_iff_loose hf).mp happ).1 hP trivial
  exact ⟨k, o, h1, h2, h3, hQ⟩
theorem lw_frame {s t : State} {o : Outcome} {args : Array Value} (h : Framed s o t [] 600000 7302250) :
    Framed s o t (fieldLocs frame_1_writes args s ++ arrayLocs frame_1_arrays args s ++ staticLocs frame_1_statics s) 600000 7302250 := h
theorem lw_limb (L : Cond) (hL : ∀ (args : Array Value) (s t : State), L.after args s (.returned (some (.int 1))) t = true) :
    ArmFor flags0 classFile x code maxLocals ret World_1 tables_1 room_1 Calls_1 rest_1 Pre_1
      (fun tb e a s o t => postC L tb e a s o t ∧ Framed s o t (fieldLocs frame_1_writes a s ++ arrayLocs frame_1_arrays a s ++ staticLocs frame_1_statics s) 600000 7302250) := by
  intro l hflags _ _ p e ha hc hk s m args below hf hfit hheap happ hpre
  obtain ⟨k, o, h1, h2, h3, rfl, hF⟩ := lw_comes l hflags p e ha hc hk s m args below hf hfit hheap happ hpre
  exact ⟨k, _, h1, h2, h3, hL args s _, lw_frame hF⟩
theorem i_vc : Claimed_1_1 ∧ Claimed_1_2 := ⟨lw_limb limb_1_1 (fun args s t => by simp [limb_1_1, Cond.after, Cond.holds, Cond.value]), lw_limb limb_1_2 (fun args s t => Cond.after_iff.mpr (by
  first | (rw [show limb_1_2 = Cond.eq .result (.int 1) from rfl, Cond.eq_ints (x := 1) (y := 1) rfl rfl]; simp; done) | (simp [limb_1_2, Cond.value, Term.eval]; done)))⟩
