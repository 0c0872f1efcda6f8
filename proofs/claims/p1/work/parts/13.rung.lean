set_option maxRecDepth 1000000 in
theorem hy_26_66 : hz_run [(1, nI 66)] [] 998 = true := by decide +kernel
set_option maxRecDepth 1000000 in
theorem hy_26_67 : hz_run [(1, nI 67)] [] 998 = true := by decide +kernel
set_option maxRecDepth 1000000 in
theorem hy_26_68 : hz_run [(1, nI 68)] [] 998 = true := by decide +kernel
set_option maxRecDepth 1000000 in
theorem hy_26_69 : hz_run [(1, nI 69)] [] 998 = true := by decide +kernel
set_option maxRecDepth 1000000 in
theorem hy_26_70 : hz_run [(1, nI 70)] [] 998 = true := by decide +kernel
set_option maxRecDepth 1000000 in
theorem hy_26_71 : hz_run [(1, nI 71)] [] 998 = true := by decide +kernel
set_option maxRecDepth 1000000 in
theorem hy_26_72 : hz_run [(1, nI 72)] [] 998 = true := by decide +kernel
set_option maxRecDepth 1000000 in
theorem hy_26_73 : hz_run [] [(1, 0, 72, false)] 998 = true := by decide +kernel
set_option maxRecDepth 1000000 in
theorem hy_27_0 : hz_run [] [] 1021 = true := by decide +kernel
set_option maxRecDepth 1000000 in
theorem hy_28_0 : hz_run [] [] 1044 = true := by decide +kernel
set_option maxRecDepth 1000000 in
theorem hy_29_0 : hz_run [] [(2, 0, 72, false)] 1067 = true := by decide +kernel
set_option maxRecDepth 1000000 in
theorem hy_29_1 : hz_run [] [(2, 0, 72, true), (3, 0, 2, false)] 1067 = true := by decide +kernel
set_option maxRecDepth 1000000 in
theorem hy_29_2 : hz_run [(3, nI 0)] [(2, 0, 72, true)] 1067 = true := by decide +kernel
set_option maxRecDepth 1000000 in
theorem hy_29_3 : hz_run [(3, nI 1)] [(2, 0, 72, true)] 1067 = true := by decide +kernel
set_option maxRecDepth 1000000 in
theorem hy_29_4 : hz_run [(2, nI 0), (3, nI 2)] [] 1067 = true := by decide +kernel
set_option maxRecDepth 1000000 in
theorem hy_29_5 : hz_run [(2, nI 1), (3, nI 2)] [] 1067 = true := by decide +kernel
set_option maxRecDepth 1000000 in
theorem hy_29_6 : hz_run [(2, nI 2), (3, nI 2)] [] 1067 = true := by decide +kernel
set_option maxRecDepth 1000000 in
theorem hy_29_7 : hz_run [(2, nI 3), (3, nI 2)] [] 1067 = true := by decide +kernel
set_option maxRecDepth 1000000 in
theorem hy_29_8 : hz_run [(2, nI 4), (3, nI 2)] [] 1067 = true := by decide +kernel
set_option maxRecDepth 1000000 in
theorem hy_29_9 : hz_run [(2, nI 5), (3, nI 2)] [] 1067 = true := by decide +kernel
set_option maxRecDepth 1000000 in
theorem hy_29_10 : hz_run [(2, nI 6), (3, nI 2)] [] 1067 = true := by decide +kernel
set_option maxRecDepth 1000000 in
theorem hy_29_11 : hz_run [(2, nI 7), (3, nI 2)] [] 1067 = true := by decide +kernel
set_option maxRecDepth 1000000 in
theorem hy_29_12 : hz_run [(2, nI 8), (3, nI 2)] [] 1067 = true := by decide +kernel
set_option maxRecDepth 1000000 in
theorem hy_29_13 : hz_run [(2, nI 9), (3, nI 2)] [] 1067 = true := by decide +kernel
set_option maxRecDepth 1000000 in
theorem hy_29_14 : hz_run [(2, nI 10), (3, nI 2)] [] 1067 = true := by decide +kernel
set_option maxRecDepth 1000000 in
theorem hy_29_15 : hz_run [(2, nI 11), (3, nI 2)] [] 1067 = true := by decide +kernel
set_option maxRecDepth 1000000 in
theorem hy_29_16 : hz_run [(2, nI 12), (3, nI 2)] [] 1067 = true := by decide +kernel
set_option maxRecDepth 1000000 in
theorem hy_29_17 : hz_run [(2, nI 13), (3, nI 2)] [] 1067 = true := by decide +kernel
set_option maxRecDepth 1000000 in
theorem hy_29_18 : hz_run [(2, nI 14), (3, nI 2)] [] 1067 = true := by decide +kernel
set_option maxRecDepth 1000000 in
theorem hy_29_19 : hz_run [(2, nI 15), (3, nI 2)] [] 1067 = true := by decide +kernel
set_option maxRecDepth 1000000 in
theorem hy_29_20 : hz_run [(2, nI 16), (3, nI 2)] [] 1067 = true := by decide +kernel
set_option maxRecDepth 1000000 in
theorem hy_29_21 : hz_run [(2, nI 17), (3, nI 2)] [] 1067 = true := by decide +kernel
set_option maxRecDepth 1000000 in
theorem hy_29_22 : hz_run [(2, nI 18), (3, nI 2)] [] 1067 = true := by decide +kernel
set_option maxRecDepth 1000000 in
theorem hy_29_23 : hz_run [(2, nI 19), (3, nI 2)] [] 1067 = true := by decide +kernel
set_option maxRecDepth 1000000 in
theorem hy_29_24 : hz_run [(2, nI 20), (3, nI 2)] [] 1067 = true := by decide +kernel
set_option maxRecDepth 1000000 in
theorem hy_29_25 : hz_run [(2, nI 21), (3, nI 2)] [] 1067 = true := by decide +kernel
set_option maxRecDepth 1000000 in
theorem hy_29_26 : hz_run [(2, nI 22), (3, nI 2)] [] 1067 = true := by decide +kernel
set_option maxRecDepth 1000000 in
theorem hy_29_27 : hz_run [(2, nI 23), (3, nI 2)] [] 1067 = true := by decide +kernel
set_option maxRecDepth 1000000 in
theorem hy_29_28 : hz_run [(2, nI 24), (3, nI 2)] [] 1067 = true := by decide +kernel
set_option maxRecDepth 1000000 in
theorem hy_29_29 : hz_run [(2, nI 25), (3, nI 2)] [] 1067 = true := by decide +kernel
set_option maxRecDepth 1000000 in
theorem hy_29_30 : hz_run [(2, nI 26), (3, nI 2)] [] 1067 = true := by decide +kernel
set_option maxRecDepth 1000000 in
theorem hy_29_31 : hz_run [(2, nI 27), (3, nI 2)] [] 1067 = true := by decide +kernel
set_option maxRecDepth 1000000 in
theorem hy_29_32 : hz_run [(2, nI 28), (3, nI 2)] [] 1067 = true := by decide +kernel
