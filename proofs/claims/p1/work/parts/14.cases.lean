theorem hz_nat {x M : Int32} {n : Nat} (hM : M.toInt = n) (h : 0 ≤ x ∧ x ≤ M) : ∃ j : Nat, j < n + 1 ∧ x = nI j := by
  obtain ⟨j, h1, h2⟩ := nI_of2 hM (Int32.not_lt.mpr h.1) h.2
  exact ⟨j, by omega, h2⟩
theorem hz_z {x : Int32} (h : ¬ x = 0) : ¬ (0 ≤ x ∧ x ≤ 0) := fun q => h (Int32.le_antisymm q.2 q.1)
theorem hz_out {x M : Int32} (h : ¬ (0 ≤ x ∧ x ≤ M)) : x < 0 ∨ M < x := by
  by_cases h0 : 0 ≤ x
  · exact Or.inr (Int32.not_le.mp (fun q => h ⟨h0, q⟩))
  · exact Or.inl (Int32.not_le.mp h0)
section HZC
variable {G : hv_G} {p : Program} {l : Launch} {e : Env} {s : State} {m : MethodId} {below : List Frame} {meth : Method} {c : Code} {b : Nat}
theorem hz_k0 {xs : Nat → Int32} (A : hz_At G p s m meth c b xs) (hL : G.1.2.2 = 6) : hv_W G p l e room_1 s m #[Value.ref b] below meth c 4 (lw_Z below #[Value.ref b] s) 410 (hc_f hz_hp) 410 24060 224 (hc_lv hz_l1) [] := by
  exact hz_go A hL (hz_K0 _) hy_0_0
theorem hz_k1 {xs : Nat → Int32} (A : hz_At G p s m meth c b xs) (hL : G.1.2.2 = 6) : hv_W G p l e room_1 s m #[Value.ref b] below meth c 4 (lw_Z below #[Value.ref b] s) 410 (hc_f hz_hp) 410 24060 287 (hc_lv hz_l1) [] := by
  by_cases h : G.2.1 1 = 0
  · exact hz_go A hL (hz_Kk (by decide) h (hz_K0 _)) hy_1_0
  · exact hz_go A hL (hz_Kf (hz_z h) (hz_K0 _)) hy_1_1
theorem hz_k2 {xs : Nat → Int32} (A : hz_At G p s m meth c b xs) (hL : G.1.2.2 = 6) : hv_W G p l e room_1 s m #[Value.ref b] below meth c 4 (lw_Z below #[Value.ref b] s) 410 (hc_f hz_hp) 410 24060 310 (hc_lv hz_l1) [] := by
  exact hz_go A hL (hz_K0 _) hy_2_0
theorem hz_k3 {xs : Nat → Int32} (A : hz_At G p s m meth c b xs) (hL : G.1.2.2 = 6) : hv_W G p l e room_1 s m #[Value.ref b] below meth c 4 (lw_Z below #[Value.ref b] s) 410 (hc_f hz_hp) 410 24060 323 (hc_lv hz_l1) [] := by
  exact hz_go A hL (hz_K0 _) hy_3_0
theorem hz_k4 {xs : Nat → Int32} (A : hz_At G p s m meth c b xs) (hL : G.1.2.2 = 6) : hv_W G p l e room_1 s m #[Value.ref b] below meth c 4 (lw_Z below #[Value.ref b] s) 410 (hc_f hz_hp) 410 24060 336 (hc_lv hz_l1) [] := by
  exact hz_go A hL (hz_K0 _) hy_4_0
theorem hz_k5 {xs : Nat → Int32} (A : hz_At G p s m meth c b xs) (hL : G.1.2.2 = 6) : hv_W G p l e room_1 s m #[Value.ref b] below meth c 4 (lw_Z below #[Value.ref b] s) 410 (hc_f hz_hp) 410 24060 369 (hc_lv hz_l1) [] := by
  exact hz_go A hL (hz_K0 _) hy_5_0
theorem hz_k6 {xs : Nat → Int32} (A : hz_At G p s m meth c b xs) (hL : G.1.2.2 = 6) : hv_W G p l e room_1 s m #[Value.ref b] below meth c 4 (lw_Z below #[Value.ref b] s) 410 (hc_f hz_hp) 410 24060 402 (hc_lv hz_l1) [] := by
  by_cases h : G.2.1 2 = 0
  · exact hz_go A hL (hz_Kk (by decide) h (hz_K0 _)) hy_6_0
  · exact hz_go A hL (hz_Kn (j := 1002) (v := nI 1) (Nat.le_of_ble_eq_true rfl) (Nat.le_of_ble_eq_true rfl) h (hz_K0 _)) hy_6_1
theorem hz_k7 {xs : Nat → Int32} (A : hz_At G p s m meth c b xs) (hL : G.1.2.2 = 6) : hv_W G p l e room_1 s m #[Value.ref b] below meth c 4 (lw_Z below #[Value.ref b] s) 410 (hc_f hz_hp) 410 24060 451 (hc_lv hz_l1) [] := by
  by_cases h : 0 ≤ G.2.1 1 ∧ G.2.1 1 ≤ 255
  · exact hz_go A hL (hz_Kt h (hz_K0 _)) hy_7_0
  · exact hz_go A hL (hz_Kf h (hz_K0 _)) hy_7_1
theorem hz_k8 {xs : Nat → Int32} (A : hz_At G p s m meth c b xs) (hL : G.1.2.2 = 6) : hv_W G p l e room_1 s m #[Value.ref b] below meth c 4 (lw_Z below #[Value.ref b] s) 410 (hc_f hz_hp) 410 24060 474 (hc_lv hz_l1) [] := by
  exact hz_go A hL (hz_K0 _) hy_8_0
theorem hz_k9 {xs : Nat → Int32} (A : hz_At G p s m meth c b xs) (hL : G.1.2.2 = 6) : hv_W G p l e room_1 s m #[Value.ref b] below meth c 4 (lw_Z below #[Value.ref b] s) 410 (hc_f hz_hp) 410 24060 507 (hc_lv hz_l1) [] := by
  exact hz_go A hL (hz_K0 _) hy_9_0
theorem hz_r10 : ∀ n : Nat, n < 73 → hz_run [(1, nI n)] [] 540 = true
  | 0, _ => hy_10_0
  | 1, _ => hy_10_1
  | 2, _ => hy_10_2
  | 3, _ => hy_10_3
  | 4, _ => hy_10_4
  | 5, _ => hy_10_5
  | 6, _ => hy_10_6
  | 7, _ => hy_10_7
  | 8, _ => hy_10_8
  | 9, _ => hy_10_9
  | 10, _ => hy_10_10
  | 11, _ => hy_10_11
  | 12, _ => hy_10_12
  | 13, _ => hy_10_13
  | 14, _ => hy_10_14
  | 15, _ => hy_10_15
  | 16, _ => hy_10_16
  | 17, _ => hy_10_17
  | 18, _ => hy_10_18
  | 19, _ => hy_10_19
  | 20, _ => hy_10_20
  | 21, _ => hy_10_21
  | 22, _ => hy_10_22
  | 23, _ => hy_10_23
  | 24, _ => hy_10_24
  | 25, _ => hy_10_25
  | 26, _ => hy_10_26
  | 27, _ => hy_10_27
  | 28, _ => hy_10_28
  | 29, _ => hy_10_29
  | 30, _ => hy_10_30
  | 31, _ => hy_10_31
  | 32, _ => hy_10_32
  | 33, _ => hy_10_33
  | 34, _ => hy_10_34
  | 35, _ => hy_10_35
  | 36, _ => hy_10_36
  | 37, _ => hy_10_37
  | 38, _ => hy_10_38
  | 39, _ => hy_10_39
  | 40, _ => hy_10_40
  | 41, _ => hy_10_41
  | 42, _ => hy_10_42
  | 43, _ => hy_10_43
  | 44, _ => hy_10_44
  | 45, _ => hy_10_45
  | 46, _ => hy_10_46
  | 47, _ => hy_10_47
  | 48, _ => hy_10_48
  | 49, _ => hy_10_49
  | 50, _ => hy_10_50
  | 51, _ => hy_10_51
  | 52, _ => hy_10_52
  | 53, _ => hy_10_53
  | 54, _ => hy_10_54
  | 55, _ => hy_10_55
  | 56, _ => hy_10_56
  | 57, _ => hy_10_57
  | 58, _ => hy_10_58
  | 59, _ => hy_10_59
  | 60, _ => hy_10_60
  | 61, _ => hy_10_61
  | 62, _ => hy_10_62
  | 63, _ => hy_10_63
  | 64, _ => hy_10_64
  | 65, _ => hy_10_65
  | 66, _ => hy_10_66
  | 67, _ => hy_10_67
  | 68, _ => hy_10_68
  | 69, _ => hy_10_69
  | 70, _ => hy_10_70
  | 71, _ => hy_10_71
  | 72, _ => hy_10_72
  | n + 73, h => absurd h (by omega)
theorem hz_k10 {xs : Nat → Int32} (A : hz_At G p s m meth c b xs) (hL : G.1.2.2 = 6) : hv_W G p l e room_1 s m #[Value.ref b] below meth c 4 (lw_Z below #[Value.ref b] s) 410 (hc_f hz_hp) 410 24060 540 (hc_lv hz_l1) [] := by
  by_cases h : 0 ≤ G.2.1 1 ∧ G.2.1 1 ≤ 72
  · obtain ⟨n, hn, hx⟩ := hz_nat (n := 72) (by decide) h
    exact hz_go A hL (hz_Kk (by decide) hx (hz_K0 _)) (hz_r10 n hn)
  · exact hz_go A hL (hz_Kf h (hz_K0 _)) hy_10_73
theorem hz_k11 {xs : Nat → Int32} (A : hz_At G p s m meth c b xs) (hL : G.1.2.2 = 6) : hv_W G p l e room_1 s m #[Value.ref b] below meth c 4 (lw_Z below #[Value.ref b] s) 410 (hc_f hz_hp) 410 24060 563 (hc_lv hz_l1) [] := by
  exact hz_go A hL (hz_K0 _) hy_11_0
theorem hz_k12 {xs : Nat → Int32} (A : hz_At G p s m meth c b xs) (hL : G.1.2.2 = 6) : hv_W G p l e room_1 s m #[Value.ref b] below meth c 4 (lw_Z below #[Value.ref b] s) 410 (hc_f hz_hp) 410 24060 576 (hc_lv hz_l1) [] := by
  exact hz_go A hL (hz_K0 _) hy_12_0
theorem hz_k13 {xs : Nat → Int32} (A : hz_At G p s m meth c b xs) (hL : G.1.2.2 = 6) : hv_W G p l e room_1 s m #[Value.ref b] below meth c 4 (lw_Z below #[Value.ref b] s) 410 (hc_f hz_hp) 410 24060 609 (hc_lv hz_l1) [] := by
  by_cases h : 0 ≤ G.2.1 1 ∧ G.2.1 1 ≤ 255
  · exact hz_go A hL (hz_Kt h (hz_K0 _)) hy_13_0
  · exact hz_go A hL (hz_Kf h (hz_K0 _)) hy_13_1
theorem hz_k14 {xs : Nat → Int32} (A : hz_At G p s m meth c b xs) (hL : G.1.2.2 = 6) : hv_W G p l e room_1 s m #[Value.ref b] below meth c 4 (lw_Z below #[Value.ref b] s) 410 (hc_f hz_hp) 410 24060 632 (hc_lv hz_l1) [] := by
  exact hz_go A hL (hz_K0 _) hy_14_0
theorem hz_k15 {xs : Nat → Int32} (A : hz_At G p s m meth c b xs) (hL : G.1.2.2 = 6) : hv_W G p l e room_1 s m #[Value.ref b] below meth c 4 (lw_Z below #[Value.ref b] s) 410 (hc_f hz_hp) 410 24060 655 (hc_lv hz_l1) [] := by
  exact hz_go A hL (hz_K0 _) hy_15_0
theorem hz_k16 {xs : Nat → Int32} (A : hz_At G p s m meth c b xs) (hL : G.1.2.2 = 6) : hv_W G p l e room_1 s m #[Value.ref b] below meth c 4 (lw_Z below #[Value.ref b] s) 410 (hc_f hz_hp) 410 24060 678 (hc_lv hz_l1) [] := by
  exact hz_go A hL (hz_K0 _) hy_16_0
theorem hz_k17 {xs : Nat → Int32} (A : hz_At G p s m meth c b xs) (hL : G.1.2.2 = 6) : hv_W G p l e room_1 s m #[Value.ref b] below meth c 4 (lw_Z below #[Value.ref b] s) 410 (hc_f hz_hp) 410 24060 721 (hc_lv hz_l1) [] := by
  exact hz_go A hL (hz_K0 _) hy_17_0
theorem hz_k18 {xs : Nat → Int32} (A : hz_At G p s m meth c b xs) (hL : G.1.2.2 = 6) : hv_W G p l e room_1 s m #[Value.ref b] below meth c 4 (lw_Z below #[Value.ref b] s) 410 (hc_f hz_hp) 410 24060 744 (hc_lv hz_l1) [] := by
  exact hz_go A hL (hz_K0 _) hy_18_0
theorem hz_k19 {xs : Nat → Int32} (A : hz_At G p s m meth c b xs) (hL : G.1.2.2 = 6) : hv_W G p l e room_1 s m #[Value.ref b] below meth c 4 (lw_Z below #[Value.ref b] s) 410 (hc_f hz_hp) 410 24060 787 (hc_lv hz_l1) [] := by
  exact hz_go A hL (hz_K0 _) hy_19_0
theorem hz_k20 {xs : Nat → Int32} (A : hz_At G p s m meth c b xs) (hL : G.1.2.2 = 6) : hv_W G p l e room_1 s m #[Value.ref b] below meth c 4 (lw_Z below #[Value.ref b] s) 410 (hc_f hz_hp) 410 24060 820 (hc_lv hz_l1) [] := by
  exact hz_go A hL (hz_K0 _) hy_20_0
theorem hz_k21 {xs : Nat → Int32} (A : hz_At G p s m meth c b xs) (hL : G.1.2.2 = 6) : hv_W G p l e room_1 s m #[Value.ref b] below meth c 4 (lw_Z below #[Value.ref b] s) 410 (hc_f hz_hp) 410 24060 853 (hc_lv hz_l1) [] := by
  exact hz_go A hL (hz_K0 _) hy_21_0
theorem hz_k22 {xs : Nat → Int32} (A : hz_At G p s m meth c b xs) (hL : G.1.2.2 = 6) : hv_W G p l e room_1 s m #[Value.ref b] below meth c 4 (lw_Z below #[Value.ref b] s) 410 (hc_f hz_hp) 410 24060 876 (hc_lv hz_l1) [] := by
  exact hz_go A hL (hz_K0 _) hy_22_0
theorem hz_k23 {xs : Nat → Int32} (A : hz_At G p s m meth c b xs) (hL : G.1.2.2 = 6) : hv_W G p l e room_1 s m #[Value.ref b] below meth c 4 (lw_Z below #[Value.ref b] s) 410 (hc_f hz_hp) 410 24060 909 (hc_lv hz_l1) [] := by
  exact hz_go A hL (hz_K0 _) hy_23_0
theorem hz_k24 {xs : Nat → Int32} (A : hz_At G p s m meth c b xs) (hL : G.1.2.2 = 6) : hv_W G p l e room_1 s m #[Value.ref b] below meth c 4 (lw_Z below #[Value.ref b] s) 410 (hc_f hz_hp) 410 24060 942 (hc_lv hz_l1) [] := by
  exact hz_go A hL (hz_K0 _) hy_24_0
theorem hz_k25 {xs : Nat → Int32} (A : hz_At G p s m meth c b xs) (hL : G.1.2.2 = 6) : hv_W G p l e room_1 s m #[Value.ref b] below meth c 4 (lw_Z below #[Value.ref b] s) 410 (hc_f hz_hp) 410 24060 965 (hc_lv hz_l1) [] := by
  by_cases h : 1 ≤ G.2.1 1 ∧ G.2.1 1 ≤ 72
  · by_cases h2 : 0 ≤ G.2.1 2 ∧ G.2.1 2 ≤ 1
    · exact hz_go A hL (hz_Kt h (hz_Kt h2 (hz_K0 _))) hy_25_2
    · exact hz_go A hL (hz_Kt h (hz_Kf h2 (hz_K0 _))) hy_25_1
  · exact hz_go A hL (hz_Kf h (hz_K0 _)) hy_25_0
theorem hz_r26 : ∀ n : Nat, n < 73 → hz_run [(1, nI n)] [] 998 = true
  | 0, _ => hy_26_0
  | 1, _ => hy_26_1
  | 2, _ => hy_26_2
  | 3, _ => hy_26_3
  | 4, _ => hy_26_4
  | 5, _ => hy_26_5
  | 6, _ => hy_26_6
  | 7, _ => hy_26_7
  | 8, _ => hy_26_8
  | 9, _ => hy_26_9
  | 10, _ => hy_26_10
  | 11, _ => hy_26_11
  | 12, _ => hy_26_12
  | 13, _ => hy_26_13
  | 14, _ => hy_26_14
  | 15, _ => hy_26_15
  | 16, _ => hy_26_16
  | 17, _ => hy_26_17
  | 18, _ => hy_26_18
  | 19, _ => hy_26_19
  | 20, _ => hy_26_20
  | 21, _ => hy_26_21
  | 22, _ => hy_26_22
  | 23, _ => hy_26_23
  | 24, _ => hy_26_24
  | 25, _ => hy_26_25
  | 26, _ => hy_26_26
  | 27, _ => hy_26_27
  | 28, _ => hy_26_28
  | 29, _ => hy_26_29
  | 30, _ => hy_26_30
  | 31, _ => hy_26_31
  | 32, _ => hy_26_32
  | 33, _ => hy_26_33
  | 34, _ => hy_26_34
  | 35, _ => hy_26_35
  | 36, _ => hy_26_36
  | 37, _ => hy_26_37
  | 38, _ => hy_26_38
  | 39, _ => hy_26_39
  | 40, _ => hy_26_40
  | 41, _ => hy_26_41
  | 42, _ => hy_26_42
  | 43, _ => hy_26_43
  | 44, _ => hy_26_44
  | 45, _ => hy_26_45
  | 46, _ => hy_26_46
  | 47, _ => hy_26_47
  | 48, _ => hy_26_48
  | 49, _ => hy_26_49
  | 50, _ => hy_26_50
  | 51, _ => hy_26_51
  | 52, _ => hy_26_52
  | 53, _ => hy_26_53
  | 54, _ => hy_26_54
  | 55, _ => hy_26_55
  | 56, _ => hy_26_56
  | 57, _ => hy_26_57
  | 58, _ => hy_26_58
  | 59, _ => hy_26_59
  | 60, _ => hy_26_60
  | 61, _ => hy_26_61
  | 62, _ => hy_26_62
  | 63, _ => hy_26_63
  | 64, _ => hy_26_64
  | 65, _ => hy_26_65
  | 66, _ => hy_26_66
  | 67, _ => hy_26_67
  | 68, _ => hy_26_68
  | 69, _ => hy_26_69
  | 70, _ => hy_26_70
  | 71, _ => hy_26_71
  | 72, _ => hy_26_72
  | n + 73, h => absurd h (by omega)
theorem hz_k26 {xs : Nat → Int32} (A : hz_At G p s m meth c b xs) (hL : G.1.2.2 = 6) : hv_W G p l e room_1 s m #[Value.ref b] below meth c 4 (lw_Z below #[Value.ref b] s) 410 (hc_f hz_hp) 410 24060 998 (hc_lv hz_l1) [] := by
  by_cases h : 0 ≤ G.2.1 1 ∧ G.2.1 1 ≤ 72
  · obtain ⟨n, hn, hx⟩ := hz_nat (n := 72) (by decide) h
    exact hz_go A hL (hz_Kk (by decide) hx (hz_K0 _)) (hz_r26 n hn)
  · exact hz_go A hL (hz_Kf h (hz_K0 _)) hy_26_73
theorem hz_k27 {xs : Nat → Int32} (A : hz_At G p s m meth c b xs) (hL : G.1.2.2 = 6) : hv_W G p l e room_1 s m #[Value.ref b] below meth c 4 (lw_Z below #[Value.ref b] s) 410 (hc_f hz_hp) 410 24060 1021 (hc_lv hz_l1) [] := by
  exact hz_go A hL (hz_K0 _) hy_27_0
theorem hz_k28 {xs : Nat → Int32} (A : hz_At G p s m meth c b xs) (hL : G.1.2.2 = 6) : hv_W G p l e room_1 s m #[Value.ref b] below meth c 4 (lw_Z below #[Value.ref b] s) 410 (hc_f hz_hp) 410 24060 1044 (hc_lv hz_l1) [] := by
  exact hz_go A hL (hz_K0 _) hy_28_0
theorem hz_r29 : ∀ n : Nat, n < 73 → hz_run [(2, nI n), (3, nI 2)] [] 1067 = true
  | 0, _ => hy_29_4
  | 1, _ => hy_29_5
  | 2, _ => hy_29_6
  | 3, _ => hy_29_7
  | 4, _ => hy_29_8
  | 5, _ => hy_29_9
  | 6, _ => hy_29_10
  | 7, _ => hy_29_11
  | 8, _ => hy_29_12
  | 9, _ => hy_29_13
  | 10, _ => hy_29_14
  | 11, _ => hy_29_15
  | 12, _ => hy_29_16
  | 13, _ => hy_29_17
  | 14, _ => hy_29_18
  | 15, _ => hy_29_19
  | 16, _ => hy_29_20
  | 17, _ => hy_29_21
  | 18, _ => hy_29_22
  | 19, _ => hy_29_23
  | 20, _ => hy_29_24
  | 21, _ => hy_29_25
  | 22, _ => hy_29_26
  | 23, _ => hy_29_27
  | 24, _ => hy_29_28
  | 25, _ => hy_29_29
  | 26, _ => hy_29_30
  | 27, _ => hy_29_31
  | 28, _ => hy_29_32
  | 29, _ => hy_29_33
  | 30, _ => hy_29_34
  | 31, _ => hy_29_35
  | 32, _ => hy_29_36
  | 33, _ => hy_29_37
  | 34, _ => hy_29_38
  | 35, _ => hy_29_39
  | 36, _ => hy_29_40
  | 37, _ => hy_29_41
  | 38, _ => hy_29_42
  | 39, _ => hy_29_43
  | 40, _ => hy_29_44
  | 41, _ => hy_29_45
  | 42, _ => hy_29_46
  | 43, _ => hy_29_47
  | 44, _ => hy_29_48
  | 45, _ => hy_29_49
  | 46, _ => hy_29_50
  | 47, _ => hy_29_51
  | 48, _ => hy_29_52
  | 49, _ => hy_29_53
  | 50, _ => hy_29_54
  | 51, _ => hy_29_55
  | 52, _ => hy_29_56
  | 53, _ => hy_29_57
  | 54, _ => hy_29_58
  | 55, _ => hy_29_59
  | 56, _ => hy_29_60
  | 57, _ => hy_29_61
  | 58, _ => hy_29_62
  | 59, _ => hy_29_63
  | 60, _ => hy_29_64
  | 61, _ => hy_29_65
  | 62, _ => hy_29_66
  | 63, _ => hy_29_67
  | 64, _ => hy_29_68
  | 65, _ => hy_29_69
  | 66, _ => hy_29_70
  | 67, _ => hy_29_71
  | 68, _ => hy_29_72
  | 69, _ => hy_29_73
  | 70, _ => hy_29_74
  | 71, _ => hy_29_75
  | 72, _ => hy_29_76
  | n + 73, h => absurd h (by omega)
theorem hz_k29 {xs : Nat → Int32} (A : hz_At G p s m meth c b xs) (hL : G.1.2.2 = 6) : hv_W G p l e room_1 s m #[Value.ref b] below meth c 4 (lw_Z below #[Value.ref b] s) 410 (hc_f hz_hp) 410 24060 1067 (hc_lv hz_l1) [] := by
  by_cases h : 0 ≤ G.2.1 2 ∧ G.2.1 2 ≤ 72
  · by_cases h3 : 0 ≤ G.2.1 3 ∧ G.2.1 3 ≤ 2
    · obtain ⟨k, hk, hx⟩ := hz_nat (n := 2) (by decide) h3
      match k, hk, hx with
      | 0, _, hx => exact hz_go A hL (hz_Kk (by decide) hx (hz_Kt h (hz_K0 _))) hy_29_2
      | 1, _, hx => exact hz_go A hL (hz_Kk (by decide) hx (hz_Kt h (hz_K0 _))) hy_29_3
      | 2, _, hx =>
        obtain ⟨n, hn, hx2⟩ := hz_nat (n := 72) (by decide) h
        exact hz_go A hL (hz_Kk (by decide) hx2 (hz_Kk (by decide) hx (hz_K0 _))) (hz_r29 n hn)
      | k + 3, hk, _ => exact absurd hk (by omega)
    · exact hz_go A hL (hz_Kt h (hz_Kf h3 (hz_K0 _))) hy_29_1
  · exact hz_go A hL (hz_Kf h (hz_K0 _)) hy_29_0
theorem hz_k30 {xs : Nat → Int32} (A : hz_At G p s m meth c b xs) (hL : G.1.2.2 = 6) : hv_W G p l e room_1 s m #[Value.ref b] below meth c 4 (lw_Z below #[Value.ref b] s) 410 (hc_f hz_hp) 410 24060 1110 (hc_lv hz_l1) [] := by
  exact hz_go A hL (hz_K0 _) hy_30_0
theorem hz_r31 : ∀ n : Nat, n < 73 → hz_run [(1, nI n)] [] 1143 = true
  | 0, _ => hy_31_0
  | 1, _ => hy_31_1
  | 2, _ => hy_31_2
  | 3, _ => hy_31_3
  | 4, _ => hy_31_4
  | 5, _ => hy_31_5
  | 6, _ => hy_31_6
  | 7, _ => hy_31_7
  | 8, _ => hy_31_8
  | 9, _ => hy_31_9
  | 10, _ => hy_31_10
  | 11, _ => hy_31_11
  | 12, _ => hy_31_12
  | 13, _ => hy_31_13
  | 14, _ => hy_31_14
  | 15, _ => hy_31_15
  | 16, _ => hy_31_16
  | 17, _ => hy_31_17
  | 18, _ => hy_31_18
  | 19, _ => hy_31_19
  | 20, _ => hy_31_20
  | 21, _ => hy_31_21
  | 22, _ => hy_31_22
  | 23, _ => hy_31_23
  | 24, _ => hy_31_24
  | 25, _ => hy_31_25
  | 26, _ => hy_31_26
  | 27, _ => hy_31_27
  | 28, _ => hy_31_28
  | 29, _ => hy_31_29
  | 30, _ => hy_31_30
  | 31, _ => hy_31_31
  | 32, _ => hy_31_32
  | 33, _ => hy_31_33
  | 34, _ => hy_31_34
  | 35, _ => hy_31_35
  | 36, _ => hy_31_36
  | 37, _ => hy_31_37
  | 38, _ => hy_31_38
  | 39, _ => hy_31_39
  | 40, _ => hy_31_40
  | 41, _ => hy_31_41
  | 42, _ => hy_31_42
  | 43, _ => hy_31_43
  | 44, _ => hy_31_44
  | 45, _ => hy_31_45
  | 46, _ => hy_31_46
  | 47, _ => hy_31_47
  | 48, _ => hy_31_48
  | 49, _ => hy_31_49
  | 50, _ => hy_31_50
  | 51, _ => hy_31_51
  | 52, _ => hy_31_52
  | 53, _ => hy_31_53
  | 54, _ => hy_31_54
  | 55, _ => hy_31_55
  | 56, _ => hy_31_56
  | 57, _ => hy_31_57
  | 58, _ => hy_31_58
  | 59, _ => hy_31_59
  | 60, _ => hy_31_60
  | 61, _ => hy_31_61
  | 62, _ => hy_31_62
  | 63, _ => hy_31_63
  | 64, _ => hy_31_64
  | 65, _ => hy_31_65
  | 66, _ => hy_31_66
  | 67, _ => hy_31_67
  | 68, _ => hy_31_68
  | 69, _ => hy_31_69
  | 70, _ => hy_31_70
  | 71, _ => hy_31_71
  | 72, _ => hy_31_72
  | n + 73, h => absurd h (by omega)
theorem hz_k31 {xs : Nat → Int32} (A : hz_At G p s m meth c b xs) (hL : G.1.2.2 = 6) : hv_W G p l e room_1 s m #[Value.ref b] below meth c 4 (lw_Z below #[Value.ref b] s) 410 (hc_f hz_hp) 410 24060 1143 (hc_lv hz_l1) [] := by
  by_cases h : 0 ≤ G.2.1 1 ∧ G.2.1 1 ≤ 72
  · obtain ⟨n, hn, hx⟩ := hz_nat (n := 72) (by decide) h
    exact hz_go A hL (hz_Kk (by decide) hx (hz_K0 _)) (hz_r31 n hn)
  · exact hz_go A hL (hz_Kf h (hz_K0 _)) hy_31_73
theorem hz_r32 : ∀ n : Nat, n < 2 → hz_run [(1, nI n)] [] 1166 = true
  | 0, _ => hy_32_0
  | 1, _ => hy_32_1
  | n + 2, h => absurd h (by omega)
theorem hz_k32 {xs : Nat → Int32} (A : hz_At G p s m meth c b xs) (hL : G.1.2.2 = 6) : hv_W G p l e room_1 s m #[Value.ref b] below meth c 4 (lw_Z below #[Value.ref b] s) 410 (hc_f hz_hp) 410 24060 1166 (hc_lv hz_l1) [] := by
  by_cases h : 0 ≤ G.2.1 1 ∧ G.2.1 1 ≤ 1
  · obtain ⟨n, hn, hx⟩ := hz_nat (n := 1) (by decide) h
    exact hz_go A hL (hz_Kk (by decide) hx (hz_K0 _)) (hz_r32 n hn)
  · exact hz_go A hL (hz_Kf h (hz_K0 _)) hy_32_2
theorem hz_k33 {xs : Nat → Int32} (A : hz_At G p s m meth c b xs) (hL : G.1.2.2 = 6) : hv_W G p l e room_1 s m #[Value.ref b] below meth c 4 (lw_Z below #[Value.ref b] s) 410 (hc_f hz_hp) 410 24060 1189 (hc_lv hz_l1) [] := by
  exact hz_go A hL (hz_K0 _) hy_33_0
theorem hz_r34 : ∀ n : Nat, n < 2 → hz_run [(1, nI n)] [] 1212 = true
  | 0, _ => hy_34_0
  | 1, _ => hy_34_1
  | n + 2, h => absurd h (by omega)
theorem hz_k34 {xs : Nat → Int32} (A : hz_At G p s m meth c b xs) (hL : G.1.2.2 = 6) : hv_W G p l e room_1 s m #[Value.ref b] below meth c 4 (lw_Z below #[Value.ref b] s) 410 (hc_f hz_hp) 410 24060 1212 (hc_lv hz_l1) [] := by
  by_cases h : 0 ≤ G.2.1 1 ∧ G.2.1 1 ≤ 1
  · obtain ⟨n, hn, hx⟩ := hz_nat (n := 1) (by decide) h
    exact hz_go A hL (hz_Kk (by decide) hx (hz_K0 _)) (hz_r34 n hn)
  · exact hz_go A hL (hz_Kf h (hz_K0 _)) hy_34_2
theorem hz_k35 {xs : Nat → Int32} (A : hz_At G p s m meth c b xs) (hL : G.1.2.2 = 6) : hv_W G p l e room_1 s m #[Value.ref b] below meth c 4 (lw_Z below #[Value.ref b] s) 410 (hc_f hz_hp) 410 24060 1235 (hc_lv hz_l1) [] := by
  exact hz_go A hL (hz_K0 _) hy_35_0
theorem hz_k36 {xs : Nat → Int32} (A : hz_At G p s m meth c b xs) (hL : G.1.2.2 = 6) : hv_W G p l e room_1 s m #[Value.ref b] below meth c 4 (lw_Z below #[Value.ref b] s) 410 (hc_f hz_hp) 410 24060 1258 (hc_lv hz_l1) [] := by
  exact hz_go A hL (hz_K0 _) hy_36_0
theorem hz_k37 {xs : Nat → Int32} (A : hz_At G p s m meth c b xs) (hL : G.1.2.2 = 6) : hv_W G p l e room_1 s m #[Value.ref b] below meth c 4 (lw_Z below #[Value.ref b] s) 410 (hc_f hz_hp) 410 24060 1301 (hc_lv hz_l1) [] := by
  exact hz_go A hL (hz_K0 _) hy_37_0
theorem hz_k38 {xs : Nat → Int32} (A : hz_At G p s m meth c b xs) (hL : G.1.2.2 = 6) : hv_W G p l e room_1 s m #[Value.ref b] below meth c 4 (lw_Z below #[Value.ref b] s) 410 (hc_f hz_hp) 410 24060 1334 (hc_lv hz_l1) [] := by
  exact hz_go A hL (hz_K0 _) hy_38_0
theorem hz_r39 : ∀ n : Nat, n < 4 → hz_run [(1, nI 0), (2, nI n)] [] 1347 = true
  | 0, _ => hy_39_2
  | 1, _ => hy_39_3
  | 2, _ => hy_39_4
  | 3, _ => hy_39_5
  | n + 4, h => absurd h (by omega)
theorem hz_k39 {xs : Nat → Int32} (A : hz_At G p s m meth c b xs) (hL : G.1.2.2 = 6) : hv_W G p l e room_1 s m #[Value.ref b] below meth c 4 (lw_Z below #[Value.ref b] s) 410 (hc_f hz_hp) 410 24060 1347 (hc_lv hz_l1) [] := by
  by_cases h : G.2.1 1 = 0
  · by_cases h2 : 0 ≤ G.2.1 2 ∧ G.2.1 2 ≤ 3
    · obtain ⟨n, hn, hx⟩ := hz_nat (n := 3) (by decide) h2
      exact hz_go A hL (hz_Kk (by decide) h (hz_Kk (by decide) hx (hz_K0 _))) (hz_r39 n hn)
    · exact hz_go A hL (hz_Kk (by decide) h (hz_Kf h2 (hz_K0 _))) hy_39_1
  · exact hz_go A hL (hz_Kf (hz_z h) (hz_K0 _)) hy_39_0
theorem hz_k40 {xs : Nat → Int32} (A : hz_At G p s m meth c b xs) (hL : G.1.2.2 = 6) : hv_W G p l e room_1 s m #[Value.ref b] below meth c 4 (lw_Z below #[Value.ref b] s) 410 (hc_f hz_hp) 410 24060 1380 (hc_lv hz_l1) [] := by
  by_cases h : G.2.1 1 = 0
  · exact hz_go A hL (hz_Kk (by decide) h (hz_K0 _)) hy_40_0
  · exact hz_go A hL (hz_Kf (hz_z h) (hz_K0 _)) hy_40_1
theorem hz_r41 : ∀ n : Nat, n < 3 → hz_run [(1, nI n)] [] 1403 = true
  | 0, _ => hy_41_0
  | 1, _ => hy_41_1
  | 2, _ => hy_41_2
  | n + 3, h => absurd h (by omega)
theorem hz_k41 {xs : Nat → Int32} (A : hz_At G p s m meth c b xs) (hL : G.1.2.2 = 6) : hv_W G p l e room_1 s m #[Value.ref b] below meth c 4 (lw_Z below #[Value.ref b] s) 410 (hc_f hz_hp) 410 24060 1403 (hc_lv hz_l1) [] := by
  by_cases h : 0 ≤ G.2.1 1 ∧ G.2.1 1 ≤ 2
  · obtain ⟨n, hn, hx⟩ := hz_nat (n := 2) (by decide) h
    exact hz_go A hL (hz_Kk (by decide) hx (hz_K0 _)) (hz_r41 n hn)
  · exact hz_go A hL (hz_Kf h (hz_K0 _)) hy_41_3
theorem hz_r42 : ∀ n : Nat, n < 3 → hz_run [(1, nI n)] [] 1426 = true
  | 0, _ => hy_42_0
  | 1, _ => hy_42_1
  | 2, _ => hy_42_2
  | n + 3, h => absurd h (by omega)
theorem hz_k42 {xs : Nat → Int32} (A : hz_At G p s m meth c b xs) (hL : G.1.2.2 = 6) : hv_W G p l e room_1 s m #[Value.ref b] below meth c 4 (lw_Z below #[Value.ref b] s) 410 (hc_f hz_hp) 410 24060 1426 (hc_lv hz_l1) [] := by
  by_cases h : 0 ≤ G.2.1 1 ∧ G.2.1 1 ≤ 2
  · obtain ⟨n, hn, hx⟩ := hz_nat (n := 2) (by decide) h
    exact hz_go A hL (hz_Kk (by decide) hx (hz_K0 _)) (hz_r42 n hn)
  · exact hz_go A hL (hz_Kf h (hz_K0 _)) hy_42_3
theorem hz_r43 : ∀ n : Nat, n < 18 → hz_run [(1, nI n)] [] 1449 = true
  | 0, _ => hy_43_0
  | 1, _ => hy_43_1
  | 2, _ => hy_43_2
  | 3, _ => hy_43_3
  | 4, _ => hy_43_4
  | 5, _ => hy_43_5
  | 6, _ => hy_43_6
  | 7, _ => hy_43_7
  | 8, _ => hy_43_8
  | 9, _ => hy_43_9
  | 10, _ => hy_43_10
  | 11, _ => hy_43_11
  | 12, _ => hy_43_12
  | 13, _ => hy_43_13
  | 14, _ => hy_43_14
  | 15, _ => hy_43_15
  | 16, _ => hy_43_16
  | 17, _ => hy_43_17
  | n + 18, h => absurd h (by omega)
theorem hz_k43 {xs : Nat → Int32} (A : hz_At G p s m meth c b xs) (hL : G.1.2.2 = 6) : hv_W G p l e room_1 s m #[Value.ref b] below meth c 4 (lw_Z below #[Value.ref b] s) 410 (hc_f hz_hp) 410 24060 1449 (hc_lv hz_l1) [] := by
  by_cases h : 0 ≤ G.2.1 1 ∧ G.2.1 1 ≤ 17
  · obtain ⟨n, hn, hx⟩ := hz_nat (n := 17) (by decide) h
    exact hz_go A hL (hz_Kk (by decide) hx (hz_K0 _)) (hz_r43 n hn)
  · exact hz_go A hL (hz_Ko (j := 2001) (v := nI 17) (Nat.le_of_ble_eq_true rfl) (hz_out h) (hz_K0 _)) hy_43_18
end HZC
