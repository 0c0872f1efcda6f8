def hz_offs : Array Int := #[191, 254, 277, 290, 303, 336, 369, 418, 441, 474, 507, 530, 543, 576, 599, 622, 645, 688, 711, 754, 787, 820, 843, 876, 909, 932, 965, 988, 1011, 1034, 1077, 1110, 1133, 1156, 1179, 1202, 1225, 1268, 1301, 1314, 1347, 1370, 1393, 1416]
def hz_tg (k : Nat) : Nat := match k with
  | 0 => 224
  | 1 => 287
  | 2 => 310
  | 3 => 323
  | 4 => 336
  | 5 => 369
  | 6 => 402
  | 7 => 451
  | 8 => 474
  | 9 => 507
  | 10 => 540
  | 11 => 563
  | 12 => 576
  | 13 => 609
  | 14 => 632
  | 15 => 655
  | 16 => 678
  | 17 => 721
  | 18 => 744
  | 19 => 787
  | 20 => 820
  | 21 => 853
  | 22 => 876
  | 23 => 909
  | 24 => 942
  | 25 => 965
  | 26 => 998
  | 27 => 1021
  | 28 => 1044
  | 29 => 1067
  | 30 => 1110
  | 31 => 1143
  | 32 => 1166
  | 33 => 1189
  | 34 => 1212
  | 35 => 1235
  | 36 => 1258
  | 37 => 1301
  | 38 => 1334
  | 39 => 1347
  | 40 => 1380
  | 41 => 1403
  | 42 => 1426
  | 43 => 1449
  | _ => 1472
theorem hz_d18 : decode code 18 = .ok (.iload_n 3, 1) := by decide +kernel
theorem hz_d19 : decode code 19 = .ok (.aload_n 0, 1) := by decide +kernel
theorem hz_d20 : decode code 20 = .ok (.arraylength, 1) := by decide +kernel
theorem hz_d21 : decode code 21 = .ok (.bipush 6, 2) := by decide +kernel
theorem hz_d23 : decode code 23 = .ok (.isub, 1) := by decide +kernel
theorem hz_d24 : decode code 24 = .ok (.if_icmp .gt 1454, 3) := by decide +kernel
theorem hz_d27 : decode code 27 = .ok (.aload_n 0, 1) := by decide +kernel
theorem hz_d28 : decode code 28 = .ok (.iload_n 3, 1) := by decide +kernel
theorem hz_d29 : decode code 29 = .ok (.iaload, 1) := by decide +kernel
theorem hz_d30 : decode code 30 = .ok (.bipush 63, 2) := by decide +kernel
theorem hz_d32 : decode code 32 = .ok (.iand, 1) := by decide +kernel
theorem hz_d33 : decode code 33 = .ok (.tableswitch 1439 0 43 hz_offs, 191) := by decide +kernel
theorem hz_off {k : Nat} (h : k < 44) : ∃ off : Int, hz_offs[k]? = some off ∧ (33 : Int) + off = (hz_tg k : Int) := by
  match k, h with
  | 0, _ => exact ⟨191, rfl, rfl⟩
  | 1, _ => exact ⟨254, rfl, rfl⟩
  | 2, _ => exact ⟨277, rfl, rfl⟩
  | 3, _ => exact ⟨290, rfl, rfl⟩
  | 4, _ => exact ⟨303, rfl, rfl⟩
  | 5, _ => exact ⟨336, rfl, rfl⟩
  | 6, _ => exact ⟨369, rfl, rfl⟩
  | 7, _ => exact ⟨418, rfl, rfl⟩
  | 8, _ => exact ⟨441, rfl, rfl⟩
  | 9, _ => exact ⟨474, rfl, rfl⟩
  | 10, _ => exact ⟨507, rfl, rfl⟩
  | 11, _ => exact ⟨530, rfl, rfl⟩
  | 12, _ => exact ⟨543, rfl, rfl⟩
  | 13, _ => exact ⟨576, rfl, rfl⟩
  | 14, _ => exact ⟨599, rfl, rfl⟩
  | 15, _ => exact ⟨622, rfl, rfl⟩
  | 16, _ => exact ⟨645, rfl, rfl⟩
  | 17, _ => exact ⟨688, rfl, rfl⟩
  | 18, _ => exact ⟨711, rfl, rfl⟩
  | 19, _ => exact ⟨754, rfl, rfl⟩
  | 20, _ => exact ⟨787, rfl, rfl⟩
  | 21, _ => exact ⟨820, rfl, rfl⟩
  | 22, _ => exact ⟨843, rfl, rfl⟩
  | 23, _ => exact ⟨876, rfl, rfl⟩
  | 24, _ => exact ⟨909, rfl, rfl⟩
  | 25, _ => exact ⟨932, rfl, rfl⟩
  | 26, _ => exact ⟨965, rfl, rfl⟩
  | 27, _ => exact ⟨988, rfl, rfl⟩
  | 28, _ => exact ⟨1011, rfl, rfl⟩
  | 29, _ => exact ⟨1034, rfl, rfl⟩
  | 30, _ => exact ⟨1077, rfl, rfl⟩
  | 31, _ => exact ⟨1110, rfl, rfl⟩
  | 32, _ => exact ⟨1133, rfl, rfl⟩
  | 33, _ => exact ⟨1156, rfl, rfl⟩
  | 34, _ => exact ⟨1179, rfl, rfl⟩
  | 35, _ => exact ⟨1202, rfl, rfl⟩
  | 36, _ => exact ⟨1225, rfl, rfl⟩
  | 37, _ => exact ⟨1268, rfl, rfl⟩
  | 38, _ => exact ⟨1301, rfl, rfl⟩
  | 39, _ => exact ⟨1314, rfl, rfl⟩
  | 40, _ => exact ⟨1347, rfl, rfl⟩
  | 41, _ => exact ⟨1370, rfl, rfl⟩
  | 42, _ => exact ⟨1393, rfl, rfl⟩
  | 43, _ => exact ⟨1416, rfl, rfl⟩
  | k + 44, h => exact absurd h (by omega)
theorem hz_and (x : Int32) : ∃ k : Nat, k < 64 ∧ x &&& 63 = nI k := by
  refine ⟨(x &&& 63).toBitVec.toNat, ?_, ?_⟩
  · rw [Int32.toBitVec_and, BitVec.toNat_and]
    exact Nat.lt_of_le_of_lt Nat.and_le_right (by decide)
  · apply Int32.toBitVec_inj.mp
    show _ = (Int32.ofNat _).toBitVec
    rw [Int32.toBitVec_ofNat']
    exact (BitVec.ofNat_toNat _ _ ▸ by simp)
section HZE
variable {G : hv_G} {p : Program} {l : Launch} {e : Env} {s : State} {m : MethodId} {below : List Frame} {meth : Method} {c : Code} {b : Nat}
theorem hz_all {xs : Nat → Int32} (A : hz_At G p s m meth c b xs) (hL : G.1.2.2 = 6) {k : Nat} (h : k < 44) : hv_W G p l e room_1 s m #[Value.ref b] below meth c 4 (lw_Z below #[Value.ref b] s) 410 (hc_f hz_hp) 410 24060 (hz_tg k) (hc_lv hz_l1) [] := by
  match k, h with
  | 0, _ => exact hz_k0 A hL
  | 1, _ => exact hz_k1 A hL
  | 2, _ => exact hz_k2 A hL
  | 3, _ => exact hz_k3 A hL
  | 4, _ => exact hz_k4 A hL
  | 5, _ => exact hz_k5 A hL
  | 6, _ => exact hz_k6 A hL
  | 7, _ => exact hz_k7 A hL
  | 8, _ => exact hz_k8 A hL
  | 9, _ => exact hz_k9 A hL
  | 10, _ => exact hz_k10 A hL
  | 11, _ => exact hz_k11 A hL
  | 12, _ => exact hz_k12 A hL
  | 13, _ => exact hz_k13 A hL
  | 14, _ => exact hz_k14 A hL
  | 15, _ => exact hz_k15 A hL
  | 16, _ => exact hz_k16 A hL
  | 17, _ => exact hz_k17 A hL
  | 18, _ => exact hz_k18 A hL
  | 19, _ => exact hz_k19 A hL
  | 20, _ => exact hz_k20 A hL
  | 21, _ => exact hz_k21 A hL
  | 22, _ => exact hz_k22 A hL
  | 23, _ => exact hz_k23 A hL
  | 24, _ => exact hz_k24 A hL
  | 25, _ => exact hz_k25 A hL
  | 26, _ => exact hz_k26 A hL
  | 27, _ => exact hz_k27 A hL
  | 28, _ => exact hz_k28 A hL
  | 29, _ => exact hz_k29 A hL
  | 30, _ => exact hz_k30 A hL
  | 31, _ => exact hz_k31 A hL
  | 32, _ => exact hz_k32 A hL
  | 33, _ => exact hz_k33 A hL
  | 34, _ => exact hz_k34 A hL
  | 35, _ => exact hz_k35 A hL
  | 36, _ => exact hz_k36 A hL
  | 37, _ => exact hz_k37 A hL
  | 38, _ => exact hz_k38 A hL
  | 39, _ => exact hz_k39 A hL
  | 40, _ => exact hz_k40 A hL
  | 41, _ => exact hz_k41 A hL
  | 42, _ => exact hz_k42 A hL
  | 43, _ => exact hz_k43 A hL
  | k + 44, h => exact absurd h (by omega)
set_option maxRecDepth 1000000 in
theorem hy_def : hz_run [] [] 1472 = true := by decide +kernel
/-- from the head of the law's loop -/
theorem hz_head {xs : Nat → Int32} (A : hz_At G p s m meth c b xs) (hL : G.1.2.2 ≤ 6) : hv_W G p l e room_1 s m #[Value.ref b] below meth c 4 (lw_Z below #[Value.ref b] s) 410 (hc_f hz_hp) 410 24060 18 (hc_lv hz_l1) [] := by
  obtain ⟨X, hr, hlk, hB, hG⟩ := id A
  refine hw_iload_n X hz_d18 rfl (i := 3) (x := 0) (hc_lv_mem.mpr ⟨rfl, rfl⟩) ?_
  refine hw_aload_n X hz_d19 rfl (i := 0) (x := 0) (hc_lv_mem.mpr ⟨rfl, rfl⟩) ?_
  refine hw_slen X hz_d20 rfl ?_
  refine hw_bipush (v := 6) X hz_d21 (by decide) ?_
  refine hw_isub X hz_d23 ?_
  refine hw_icmp_gt (tgt := 1478) X hz_d24 rfl (fun _ => hz_end A (by decide) (by decide)) (fun q => ?_)
  have hL6 : G.1.2.2 = 6 := by
    by_cases h6 : G.1.2.2 = 6
    · exact h6
    · exact absurd (by
        match hh : G.1.2.2, hL, h6 with
        | 0, _, _ => decide
        | 1, _, _ => decide
        | 2, _, _ => decide
        | 3, _, _ => decide
        | 4, _, _ => decide
        | 5, _, _ => decide
        | 6, _, h6 => exact absurd rfl h6
        | n + 7, h7, _ => exact absurd h7 (by omega)) q
  refine hw_aload_n X hz_d27 rfl (i := 0) (x := 0) (hc_lv_mem.mpr ⟨rfl, rfl⟩) ?_
  refine hw_iload_n X hz_d28 rfl (i := 3) (x := 0) (hc_lv_mem.mpr ⟨rfl, rfl⟩) ?_
  refine hw_sldK X hz_d29 (by rw [hL6]; rintro (q | q) <;> revert q <;> decide) rfl ?_
  refine hw_bipush (v := 63) X hz_d30 (by decide) ?_
  refine hw_iand X hz_d32 ?_
  obtain ⟨k, hk, hx⟩ := hz_and (G.2.1 (0 : Int32).toNatClampNeg)
  rw [hx]
  by_cases h44 : k < 44
  · obtain ⟨off, ho, ht⟩ := hz_off h44
    have hti : (nI k).toInt = k := nI_toInt (by omega)
    refine hw_tableIn (tgt := hz_tg k) (off := off) X hz_d33 (by rw [hti]; omega) (by rw [hti]; omega) ?_ ht (hz_all A hL6 h44)
    rw [hti, show ((k : Int) - 0).toNat = k by omega]
    exact ho
  · have hti : (nI k).toInt = k := nI_toInt (by omega)
    refine hw_tableOut (tgt := 1472) X hz_d33 (by rw [hti]; omega) rfl ?_
    exact hz_go A hL6 (hz_K0 _) hy_def
end HZE
set_option maxHeartbeats 4000000 in
theorem whole_start {p : Program} {e : Env} {s : State} {m : MethodId} {below : List Frame} {meth : Method} {c : Code} (l : Launch) (hflags : l.flags = flags0) {b L : Nat} {xs : Nat → Int32} (hL : L ≤ 6) (C0 : lw_At p s m meth c b L xs) : W p l e room_1 s m #[Value.ref b] below meth c s.heap [] 0 0 (lw_Z below #[Value.ref b] s) (entryFrame m ([Value.ref b] : List Value).toArray 4) := by
  obtain ⟨hx, hb, hr, hml, hown, hts, hX, hbl, hlocks, hgv⟩ := id C0
  obtain ⟨c0, iS0, hKn0⟩ := u_known (C := RX0) (T := TX0) (N := 6) (n := 6) hts (fun w hw => hc_gw_tbl _ (hl_w0 w hw)) (hts (.instantiable RX0 6) (hc_gw_tbl _ (by obtain ⟨p1, hp1⟩ := hc_m2_ok (hl_IN_all 0 (by decide)).1; exact hc_in (hl_IN_ok _ hp1) rfl)))
  obtain ⟨c1, iS1, hKn1⟩ := u_known (C := RX1) (T := TX1) (N := 6) (n := 6) hts (fun w hw => hc_gw_tbl _ (hl_w1 w hw)) (hts (.instantiable RX1 6) (hc_gw_tbl _ (by obtain ⟨p1, hp1⟩ := hc_m2_ok (hl_IN_all 1 (by decide)).1; exact hc_in (hl_IN_ok _ hp1) rfl)))
  obtain ⟨c2, iS2, hKn2⟩ := u_known (C := RX2) (T := TX2) (N := 11) (n := 11) hts (fun w hw => hc_gw_tbl _ (hl_w2 w hw)) (hts (.instantiable RX2 11) (hc_gw_tbl _ (by obtain ⟨p1, hp1⟩ := hc_m2_ok (hl_IN_all 2 (by decide)).1; exact hc_in (hl_IN_ok _ hp1) rfl)))
  obtain ⟨c3, iS3, hKn3⟩ := u_known (C := RX3) (T := TX3) (N := 3) (n := 3) hts (fun w hw => hc_gw_tbl _ (hl_w3 w hw)) (hts (.instantiable RX3 3) (hc_gw_tbl _ (by obtain ⟨p1, hp1⟩ := hc_m2_ok (hl_IN_all 3 (by decide)).1; exact hc_in (hl_IN_ok _ hp1) rfl)))
  obtain ⟨c4, iS4, hKn4⟩ := u_known (C := RX4) (T := TX4) (N := 9) (n := 9) hts (fun w hw => hc_gw_tbl _ (hl_w4 w hw)) (hts (.instantiable RX4 9) (hc_gw_tbl _ (by obtain ⟨p1, hp1⟩ := hc_m2_ok (hl_IN_all 4 (by decide)).1; exact hc_in (hl_IN_ok _ hp1) rfl)))
  obtain ⟨c5, iS5, hKn5⟩ := u_known (C := RX5) (T := TX5) (N := 8) (n := 8) hts (fun w hw => hc_gw_tbl _ (hl_w5 w hw)) (hts (.instantiable RX5 8) (hc_gw_tbl _ (by obtain ⟨p1, hp1⟩ := hc_m2_ok (hl_IN_all 5 (by decide)).1; exact hc_in (hl_IN_ok _ hp1) rfl)))
  obtain ⟨c6, iS6, hKn6⟩ := u_known (C := RX6) (T := TX6) (N := 4) (n := 4) hts (fun w hw => hc_gw_tbl _ (hl_w6 w hw)) (hts (.instantiable RX6 4) (hc_gw_tbl _ (by obtain ⟨p1, hp1⟩ := hc_m2_ok (hl_IN_all 6 (by decide)).1; exact hc_in (hl_IN_ok _ hp1) rfl)))
  obtain ⟨c7, iS7, hKn7⟩ := u_known (C := RX7) (T := TX7) (N := 3) (n := 3) hts (fun w hw => hc_gw_tbl _ (hl_w7 w hw)) (hts (.instantiable RX7 3) (hc_gw_tbl _ (by obtain ⟨p1, hp1⟩ := hc_m2_ok (hl_IN_all 7 (by decide)).1; exact hc_in (hl_IN_ok _ hp1) rfl)))
  obtain ⟨c8, iS8, hKn8⟩ := u_known (C := RX8) (T := TX8) (N := 2) (n := 2) hts (fun w hw => hc_gw_tbl _ (hl_w8 w hw)) (hts (.instantiable RX8 2) (hc_gw_tbl _ (by obtain ⟨p1, hp1⟩ := hc_m2_ok (hl_IN_all 8 (by decide)).1; exact hc_in (hl_IN_ok _ hp1) rfl)))
  obtain ⟨c9, iS9, hKn9⟩ := u_known (C := RX9) (T := TX9) (N := 17) (n := 17) hts (fun w hw => hc_gw_tbl _ (hl_w9 w hw)) (hts (.instantiable RX9 17) (hc_gw_tbl _ (by obtain ⟨p1, hp1⟩ := hc_m2_ok (hl_IN_all 9 (by decide)).1; exact hc_in (hl_IN_ok _ hp1) rfl)))
  obtain ⟨c10, iS10, hKn10⟩ := u_known (C := RX10) (T := TX10) (N := 64) (n := 64) hts (fun w hw => hc_gw_tbl _ (hl_w10 w hw)) (hts (.instantiable RX10 64) (hc_gw_tbl _ (by obtain ⟨p1, hp1⟩ := hc_m2_ok (hl_IN_all 10 (by decide)).1; exact hc_in (hl_IN_ok _ hp1) rfl)))
  obtain ⟨dC, dI, hKc⟩ : ∃ (dC : Nat → ClassId) (dI : Nat → Nat → Nat), ∀ (k : Nat) (q : vw_C), vwCl[k]? = some q → u_Kn s q.1 q.2.1 q.2.2 (dC k) (dI k) := by
    refine ⟨fun k => match k with | 0 => c0 | 1 => c1 | 2 => c2 | 3 => c3 | 4 => c4 | 5 => c5 | 6 => c6 | 7 => c7 | 8 => c8 | 9 => c9 | _ => c10, fun k => match k with | 0 => iS0 | 1 => iS1 | 2 => iS2 | 3 => iS3 | 4 => iS4 | 5 => iS5 | 6 => iS6 | 7 => iS7 | 8 => iS8 | 9 => iS9 | _ => iS10, ?_⟩
    intro k q hq
    match k, hq with
    | 0, hq => cases hq; exact hKn0
    | 1, hq => cases hq; exact hKn1
    | 2, hq => cases hq; exact hKn2
    | 3, hq => cases hq; exact hKn3
    | 4, hq => cases hq; exact hKn4
    | 5, hq => cases hq; exact hKn5
    | 6, hq => cases hq; exact hKn6
    | 7, hq => cases hq; exact hKn7
    | 8, hq => cases hq; exact hKn8
    | 9, hq => cases hq; exact hKn9
    | 10, hq => cases hq; exact hKn10
    | k + 11, hq => simp [vwCl] at hq
  obtain ⟨cB, kB, oB, fB, gB, iB⟩ := Cond.arrayClass_spec (hts _ (hc_gw_tbl _ hl_arr_byte))
  obtain ⟨cI, kI, oI, fI, gI, iI⟩ := Cond.arrayClass_spec (hts _ (hc_gw_tbl _ hl_arr_int))
  obtain ⟨cJ, kJ, oJ, fJ, gJ, iJ⟩ := Cond.arrayClass_spec (hts _ (hc_gw_tbl _ hl_arr_long))
  obtain ⟨cZ, kZ, oZ, fZ, gZ, iZ⟩ := Cond.arrayClass_spec (hts _ (hc_gw_tbl _ hl_arr_boolean))
  obtain ⟨oL, cL, kL, a1, -, gL, iL, fL⟩ := Cond.arrayOver_spec (hts _ (hc_gw_tbl _ hl_aoL))
  obtain ⟨oA, cA, kA, -, -, gA, iA, fA⟩ := Jvm.Stand.arrayOver_specB (hts _ (hc_gw_tbl _ hl_aoI))
  have mkA : ∀ (cc : ClassId) (kk : Class) (oo : ClassId) (ty : FieldType), s.vm.classes[cc]? = some kk → kk.kind = .array oo ty → ArrOfT s cc ty := fun cc kk oo ty h1 h2 N z => ⟨fun k h => (by cases h), kk, h1, oo, h2⟩
  let G : hv_G := ((s.heap.size, b, L), hz_xs xs, (dC, dI), fun t => match t with | 0 => cB | 1 => cI | 2 => cJ | 3 => cZ | 4 => cL | _ => cA)
  have hK : va_K G.2.2.1 vwCl (hv_tys G) s := by
    refine ⟨hKc, fun k q hq => ?_⟩
    match k, hq with
    | 0, hq => cases hq; exact ⟨mkA cB kB oB _ gB iB, fB⟩
    | 1, hq => cases hq; exact ⟨mkA cI kI oI _ gI iI, fI⟩
    | 2, hq => cases hq; exact ⟨mkA cJ kJ oJ _ gJ iJ, fJ⟩
    | 3, hq => cases hq; exact ⟨mkA cZ kZ oZ _ gZ iZ, fZ⟩
    | 4, hq => cases hq; exact ⟨mkA cL kL oL _ gL iL, kL, oL, gL, iL, a1, fL⟩
    | 5, hq => cases hq; exact ⟨mkA cA kA oA _ gA iA, fA⟩
    | k + 6, hq => simp [hv_tys] at hq
  have hX2 : va_X b L (hz_xs xs) s s.heap := by
    obtain ⟨scr, h1, h2, h3, h4, h5⟩ := hX
    exact ⟨scr, h1, h2, h3, h4, fun j hj => by rw [hz_xs_lo xs (by omega)]; exact h5 j hj⟩
  have A : hz_At G p s m meth c b xs := ⟨⟨hx, hb, hml, hown, hts, hK, Nat.le_refl _, hbl, hX2⟩, hr, hlocks, rfl, rfl⟩
  have hLL : hc_LL G (0, fun _ => none) := ⟨Or.inl rfl, (by decide : (0 : Nat) < 1000), fun j x h => (by cases h), hz_sym xs⟩
  have hst := hc_steps_ok (l := l) (R := room_1) (e := e) (below := below) (meth := meth) (fr := 8) (lo := 100 * 8) A.1 hc_gw_tbl hm_ok (hc_ev_ok hm_ok hLL (ho_ok (fun j a b v h => (by cases h))) 1000000 8) (by decide) (by decide) hLL hlocks hr (ini := false) (fun q => by cases q) hm_lawD hm_lawO 10 0 0 0 0 hz_l0 [] hz_h0 18 410 410 24060 hz_l1 [] hz_hp rfl hz_init
  have hW := hst.2.2.2 (by decide) (by decide) _ (hz_head A hL)
  have hl := lv_entry ([.ref b]) (n := 4) (Nat.le_of_ble_eq_true rfl)
  rw [lg_entry_eq]
  refine hW s.heap [] _ ⟨rfl, fun i x hi => ?_⟩ (fun q _ => rfl) (fun q hq => absurd hq List.not_mem_nil) ?_
  · exfalso
    unfold hc_f at hi
    have hn : hc_get hz_h0 i = none := by
      unfold hc_get hz_h0
      rw [hc_nth_eq, List.getElem?_replicate]
      by_cases h1 : i / 32 < 13
      · rw [if_pos h1]
        dsimp only
        rw [hc_nth_eq, List.getElem?_replicate]
        by_cases h2 : i % 32 < 32
        · rw [if_pos h2]
        · rw [if_neg h2]
      · rw [if_neg h1]
    rw [hn] at hi
    cases hi
  · refine ⟨hl.1, hl.2.1, fun q hq => ?_⟩
    obtain ⟨⟨i, v⟩, h1, rfl⟩ := List.mem_map.mp hq
    obtain ⟨g1, g2⟩ := hc_lv_mem.mp h1
    match i, g1 with
    | 0, g1 => cases g1; exact hl.2.2 (0, .ref b) (List.mem_of_getElem? (i := 0) rfl)
    | 1, g1 => cases g1; cases g2
    | 2, g1 => cases g1; cases g2
    | 3, g1 => cases g1; cases g2
    | i + 4, g1 => simp [hz_l0] at g1

-- ===== YOUR PART ENDS =====
set_option maxHeartbeats 4000000 in
theorem lw_walk (l : Launch) (hflags : l.flags = flags0) (b : Addr) (xs : List Int32) : MetFree l x (headSpec (Jvm.Cond.code x code maxLocals ret :: tables_1) room_1) (lw_P b xs) (fun _ _ _ _ _ => True) lw_Q := by
  refine MetFree.of_bodyS (code := code) (maxLocals := maxLocals) (ret := ret) (by decide) ?_ ?_
  · intro args s m h hn
    obtain ⟨meth, c, h1, h2, h3, h4, h5, h6, -, -⟩ := Cond.code_spec hn (atoms_spec (ws := Jvm.Cond.code x code maxLocals ret :: tables_1) h _ List.mem_cons_self)
    exact ⟨meth, c, h1, h2, h3, h4, h5, h6⟩
  · intro p e s m args below meth c s₁ B hml0 hP _
    obtain ⟨rfl, hx, hbd, hgv⟩ := hP
    obtain ⟨scr, harrAt, hlist, hof, hsmall⟩ := hx
    obtain ⟨hcb, hkn, -, -⟩ := State.arrayAt?_spec harrAt
    have hown : s.vm.findClass R_law = some m.cls := findClass_of_methodNamed B.named
    have hts0 : ∀ c ∈ (Jvm.Cond.code x code maxLocals ret :: tables_1), c.before #[Value.ref b] s = true := atoms_spec (ws := Jvm.Cond.code x code maxLocals ret :: tables_1) B.pre
    have hts : ∀ w ∈ lw_tbl, w.before #[Value.ref b] s = true := k2_hts_sels lw_privs (fun w hw => hts0 w (List.mem_cons_of_mem _ hw)) lw_privs_ok
    have hml : c.maxLocals = 4 := B.maxLocals_eq (hts0 _ List.mem_cons_self)
    have X₀ : Stand p l e room_1 s m #[Value.ref b] below meth c s₁ [] 0 0 := Stand.of_body B
    have hh0 : s₁.heap = s.heap := by rw [B.state]; rfl
    have hsz : scr.slots.size = xs.length := by rw [← Array.length_toList, hlist, List.length_map]
    have hval : ∀ j : Nat, j < xs.length → scr.slots[j]? = some (.int (xs.getD j 0)) := fun j hj => by
      rw [← Array.getElem?_toList, hlist]
      simp [hj]
    have hbl : b < s.heap.size := (Array.getElem?_eq_some_iff.mp hcb).1
    have hX : va_X b xs.length (fun j => xs.getD j 0) s s.heap := ⟨scr, hcb, hof, hkn, hsz, hval⟩
    have K : W p l e room_1 s m #[Value.ref b] below meth c s₁.heap [] 0 0 (lw_Z below #[Value.ref b] s) (entryFrame m ([Value.ref b] : List Value).toArray 4) := by
      rw [hh0]
      exact whole_start l hflags hbd ⟨B.exec, B.bytes, B.returns, hml, hown, hts, hX, hbl, B.notSynchronized, hgv⟩
    obtain ⟨t, a1, o, b1, b2, b3⟩ := K s₁ rfl X₀
    exact ⟨t, o, a1, b1, b2, b3⟩
theorem lw_pre_spec {args : Array Value} {s : State} (h : (Jvm.Cond.and given_1 narrow_1).before args s = true) (hr : rest_1_c.before args s = true) : ∃ (b : Addr) (xs : List Int32), lw_P b xs args s := by
  have hs := flat_of_before _ h
  have hq := flat_of_before _ hr
  have hc : (Cond.count 1).before args s = true := hs _ (by decide +kernel)
  have harr : (Cond.arrayOf (.arg 0) .int).before args s = true := hs _ (by decide +kernel)
  have hle : (Cond.le (.length (.arg 0)) (.int 6)).before args s = true := hs _ (by decide +kernel)
  have hlen : (Cond.isInt (.length (.arg 0))).before args s = true := hq _ (by decide +kernel)
  have hall : (Cond.all (.arg 0) (.isInt (.elem (.arg 0) (.index 0)))).before args s = true := hq _ (by decide +kernel)
  obtain ⟨b, xs, hb, hx⟩ := State.ints_of_pre rfl harr hlen hall
  have hsm : xs.length < 2 ^ 31 := hx.choose_spec.2.2.2
  have hev : (Term.length (.arg 0)).eval args s none [] s = some (.int xs.length.toInt32) := hx.length_eval hb
  have hv := Cond.le_ints hev (show (Term.int 6).eval args s none [] s = some (.int 6) from rfl)
  have hd : xs.length.toInt32 ≤ 6 := by
    simpa [Cond.before, Cond.holds, hv] using hle
  have hN : xs.length ≤ 6 := (Int32.ofNat_le_ofNat hsm (by decide)).mp (show Int32.ofNat xs.length ≤ Int32.ofNat 6 from hd)
  exact ⟨b, xs, Cond.one_arg hc (show args[0]? = some (.ref b) from hb), hx, hN, h⟩
theorem lw_comes (l : Launch) (hflags : l.flags = flags0) : Comes l x (Jvm.Cond.code x code maxLocals ret :: tables_1) room_1 (fun tb e args s => Calls_1 tb e args s ∧ rest_1 tb e args s ∧ Pre_1 tb e args s)
    (fun _ _ args s o t => lw_Q args s o t) := by
  intro p e ha hc hk s m args below hf hfit hheap happ hpre
  obtain ⟨b, xs, hP⟩ := lw_pre_spec hpre.2.2 hpre.2.1
  obtain ⟨k, o, h1, h2, h3, hQ⟩ := lw_walk l hflags b xs p e ha hc hk s m args below hf ((Spec.applies_iff_loose hf).mp happ).1 hP trivial
  exact ⟨k, o, h1, h2, h3, hQ⟩
theorem lw_frame {s t : State} {o : Outcome} {args : Array Value} (h : Framed s o t [] 600000 7302250) :
    Framed s o t (fieldLocs frame_1_writes args s ++ arrayLocs frame_1_arrays args s ++ staticLocs frame_1_statics s) 600000 7302250 := h
theorem lw_limb (L : Cond) (hL : ∀ (args : Array Value) (s t : State), L.after args s (.returned (some (.int 1))) t = true) :
    ArmFor flags0 classFile x code maxLocals ret World_1 tables_1 room_1 Calls_1 rest_1 Pre_1
      (fun tb e a s o t => postC L tb e a s o t ∧ Framed s o t (fieldLocs frame_1_writes a s ++ arrayLocs frame_1_arrays a s ++ staticLocs frame_1_statics s) 600000 7302250) := by
  intro l hflags _ _ p e ha hc hk s m args below hf hfit hheap happ hpre
  obtain ⟨k, o, h1, h2, h3, rfl, hF⟩ := lw_comes l hflags p e ha hc hk s m args below hf hfit hheap happ hpre
  exact ⟨k, _, h1, h2, h3, hL args s _, lw_frame hF⟩
theorem i_vc : Claimed_1_1 ∧ Claimed_1_2 := ⟨lw_limb limb_1_1 (fun args s t => by simp [limb_1_1, Cond.after, Cond.holds, Cond.value]), lw_limb limb_1_2 (fun args s t => Cond.after_iff.mpr (by
  first | (rw [show limb_1_2 = Cond.eq .result (.int 1) from rfl, Cond.eq_ints (x := 1) (y := 1) rfl rfl]; simp; done) | (simp [limb_1_2, Cond.value, Term.eval]; done)))⟩
