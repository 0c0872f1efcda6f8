set_option maxRecDepth 1000000 in
theorem hy_0_0 : hz_run [] [] 224 = true := by decide +kernel
set_option maxRecDepth 1000000 in
theorem hy_1_0 : hz_run [(1, nI 0)] [] 287 = true := by decide +kernel
set_option maxRecDepth 1000000 in
theorem hy_1_1 : hz_run [] [(1, 0, 0, false)] 287 = true := by decide +kernel
set_option maxRecDepth 1000000 in
theorem hy_2_0 : hz_run [] [] 310 = true := by decide +kernel
set_option maxRecDepth 1000000 in
theorem hy_3_0 : hz_run [] [] 323 = true := by decide +kernel
set_option maxRecDepth 1000000 in
theorem hy_4_0 : hz_run [] [] 336 = true := by decide +kernel
set_option maxRecDepth 1000000 in
theorem hy_5_0 : hz_run [] [] 369 = true := by decide +kernel
set_option maxRecDepth 1000000 in
theorem hy_6_0 : hz_run [(2, nI 0)] [] 402 = true := by decide +kernel
set_option maxRecDepth 1000000 in
theorem hy_6_1 : hz_run [(1002, nI 1)] [] 402 = true := by decide +kernel
set_option maxRecDepth 1000000 in
theorem hy_7_0 : hz_run [] [(1, 0, 255, true)] 451 = true := by decide +kernel
set_option maxRecDepth 1000000 in
theorem hy_7_1 : hz_run [] [(1, 0, 255, false)] 451 = true := by decide +kernel
set_option maxRecDepth 1000000 in
theorem hy_8_0 : hz_run [] [] 474 = true := by decide +kernel
set_option maxRecDepth 1000000 in
theorem hy_9_0 : hz_run [] [] 507 = true := by decide +kernel
set_option maxRecDepth 1000000 in
theorem hy_10_0 : hz_run [(1, nI 0)] [] 540 = true := by decide +kernel
set_option maxRecDepth 1000000 in
theorem hy_10_1 : hz_run [(1, nI 1)] [] 540 = true := by decide +kernel
set_option maxRecDepth 1000000 in
theorem hy_10_2 : hz_run [(1, nI 2)] [] 540 = true := by decide +kernel
set_option maxRecDepth 1000000 in
theorem hy_10_3 : hz_run [(1, nI 3)] [] 540 = true := by decide +kernel
set_option maxRecDepth 1000000 in
theorem hy_10_4 : hz_run [(1, nI 4)] [] 540 = true := by decide +kernel
set_option maxRecDepth 1000000 in
theorem hy_10_5 : hz_run [(1, nI 5)] [] 540 = true := by decide +kernel
set_option maxRecDepth 1000000 in
theorem hy_10_6 : hz_run [(1, nI 6)] [] 540 = true := by decide +kernel
set_option maxRecDepth 1000000 in
theorem hy_10_7 : hz_run [(1, nI 7)] [] 540 = true := by decide +kernel
set_option maxRecDepth 1000000 in
theorem hy_10_8 : hz_run [(1, nI 8)] [] 540 = true := by decide +kernel
set_option maxRecDepth 1000000 in
theorem hy_10_9 : hz_run [(1, nI 9)] [] 540 = true := by decide +kernel
set_option maxRecDepth 1000000 in
theorem hy_10_10 : hz_run [(1, nI 10)] [] 540 = true := by decide +kernel
set_option maxRecDepth 1000000 in
theorem hy_10_11 : hz_run [(1, nI 11)] [] 540 = true := by decide +kernel
set_option maxRecDepth 1000000 in
theorem hy_10_12 : hz_run [(1, nI 12)] [] 540 = true := by decide +kernel
set_option maxRecDepth 1000000 in
theorem hy_10_13 : hz_run [(1, nI 13)] [] 540 = true := by decide +kernel
set_option maxRecDepth 1000000 in
theorem hy_10_14 : hz_run [(1, nI 14)] [] 540 = true := by decide +kernel
set_option maxRecDepth 1000000 in
theorem hy_10_15 : hz_run [(1, nI 15)] [] 540 = true := by decide +kernel
set_option maxRecDepth 1000000 in
theorem hy_10_16 : hz_run [(1, nI 16)] [] 540 = true := by decide +kernel
set_option maxRecDepth 1000000 in
theorem hy_10_17 : hz_run [(1, nI 17)] [] 540 = true := by decide +kernel
set_option maxRecDepth 1000000 in
theorem hy_10_18 : hz_run [(1, nI 18)] [] 540 = true := by decide +kernel
set_option maxRecDepth 1000000 in
theorem hy_10_19 : hz_run [(1, nI 19)] [] 540 = true := by decide +kernel
set_option maxRecDepth 1000000 in
theorem hy_10_20 : hz_run [(1, nI 20)] [] 540 = true := by decide +kernel
set_option maxRecDepth 1000000 in
theorem hy_10_21 : hz_run [(1, nI 21)] [] 540 = true := by decide +kernel
set_option maxRecDepth 1000000 in
theorem hy_10_22 : hz_run [(1, nI 22)] [] 540 = true := by decide +kernel
set_option maxRecDepth 1000000 in
theorem hy_10_23 : hz_run [(1, nI 23)] [] 540 = true := by decide +kernel
set_option maxRecDepth 1000000 in
theorem hy_10_24 : hz_run [(1, nI 24)] [] 540 = true := by decide +kernel
set_option maxRecDepth 1000000 in
theorem hy_10_25 : hz_run [(1, nI 25)] [] 540 = true := by decide +kernel
set_option maxRecDepth 1000000 in
theorem hy_10_26 : hz_run [(1, nI 26)] [] 540 = true := by decide +kernel
set_option maxRecDepth 1000000 in
theorem hy_10_27 : hz_run [(1, nI 27)] [] 540 = true := by decide +kernel
