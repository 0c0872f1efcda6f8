set_option maxRecDepth 1000000 in
theorem hy_29_76 : hz_run [(2, nI 72), (3, nI 2)] [] 1067 = true := by decide +kernel
set_option maxRecDepth 1000000 in
theorem hy_30_0 : hz_run [] [] 1110 = true := by decide +kernel
set_option maxRecDepth 1000000 in
theorem hy_31_0 : hz_run [(1, nI 0)] [] 1143 = true := by decide +kernel
set_option maxRecDepth 1000000 in
theorem hy_31_1 : hz_run [(1, nI 1)] [] 1143 = true := by decide +kernel
set_option maxRecDepth 1000000 in
theorem hy_31_2 : hz_run [(1, nI 2)] [] 1143 = true := by decide +kernel
set_option maxRecDepth 1000000 in
theorem hy_31_3 : hz_run [(1, nI 3)] [] 1143 = true := by decide +kernel
set_option maxRecDepth 1000000 in
theorem hy_31_4 : hz_run [(1, nI 4)] [] 1143 = true := by decide +kernel
set_option maxRecDepth 1000000 in
theorem hy_31_5 : hz_run [(1, nI 5)] [] 1143 = true := by decide +kernel
set_option maxRecDepth 1000000 in
theorem hy_31_6 : hz_run [(1, nI 6)] [] 1143 = true := by decide +kernel
set_option maxRecDepth 1000000 in
theorem hy_31_7 : hz_run [(1, nI 7)] [] 1143 = true := by decide +kernel
set_option maxRecDepth 1000000 in
theorem hy_31_8 : hz_run [(1, nI 8)] [] 1143 = true := by decide +kernel
set_option maxRecDepth 1000000 in
theorem hy_31_9 : hz_run [(1, nI 9)] [] 1143 = true := by decide +kernel
set_option maxRecDepth 1000000 in
theorem hy_31_10 : hz_run [(1, nI 10)] [] 1143 = true := by decide +kernel
set_option maxRecDepth 1000000 in
theorem hy_31_11 : hz_run [(1, nI 11)] [] 1143 = true := by decide +kernel
set_option maxRecDepth 1000000 in
theorem hy_31_12 : hz_run [(1, nI 12)] [] 1143 = true := by decide +kernel
set_option maxRecDepth 1000000 in
theorem hy_31_13 : hz_run [(1, nI 13)] [] 1143 = true := by decide +kernel
set_option maxRecDepth 1000000 in
theorem hy_31_14 : hz_run [(1, nI 14)] [] 1143 = true := by decide +kernel
set_option maxRecDepth 1000000 in
theorem hy_31_15 : hz_run [(1, nI 15)] [] 1143 = true := by decide +kernel
set_option maxRecDepth 1000000 in
theorem hy_31_16 : hz_run [(1, nI 16)] [] 1143 = true := by decide +kernel
set_option maxRecDepth 1000000 in
theorem hy_31_17 : hz_run [(1, nI 17)] [] 1143 = true := by decide +kernel
set_option maxRecDepth 1000000 in
theorem hy_31_18 : hz_run [(1, nI 18)] [] 1143 = true := by decide +kernel
set_option maxRecDepth 1000000 in
theorem hy_31_19 : hz_run [(1, nI 19)] [] 1143 = true := by decide +kernel
set_option maxRecDepth 1000000 in
theorem hy_31_20 : hz_run [(1, nI 20)] [] 1143 = true := by decide +kernel
set_option maxRecDepth 1000000 in
theorem hy_31_21 : hz_run [(1, nI 21)] [] 1143 = true := by decide +kernel
set_option maxRecDepth 1000000 in
theorem hy_31_22 : hz_run [(1, nI 22)] [] 1143 = true := by decide +kernel
set_option maxRecDepth 1000000 in
theorem hy_31_23 : hz_run [(1, nI 23)] [] 1143 = true := by decide +kernel
set_option maxRecDepth 1000000 in
theorem hy_31_24 : hz_run [(1, nI 24)] [] 1143 = true := by decide +kernel
set_option maxRecDepth 1000000 in
theorem hy_31_25 : hz_run [(1, nI 25)] [] 1143 = true := by decide +kernel
set_option maxRecDepth 1000000 in
theorem hy_31_26 : hz_run [(1, nI 26)] [] 1143 = true := by decide +kernel
set_option maxRecDepth 1000000 in
theorem hy_31_27 : hz_run [(1, nI 27)] [] 1143 = true := by decide +kernel
set_option maxRecDepth 1000000 in
theorem hy_31_28 : hz_run [(1, nI 28)] [] 1143 = true := by decide +kernel
set_option maxRecDepth 1000000 in
theorem hy_31_29 : hz_run [(1, nI 29)] [] 1143 = true := by decide +kernel
set_option maxRecDepth 1000000 in
theorem hy_31_30 : hz_run [(1, nI 30)] [] 1143 = true := by decide +kernel
set_option maxRecDepth 1000000 in
theorem hy_31_31 : hz_run [(1, nI 31)] [] 1143 = true := by decide +kernel
set_option maxRecDepth 1000000 in
theorem hy_31_32 : hz_run [(1, nI 32)] [] 1143 = true := by decide +kernel
set_option maxRecDepth 1000000 in
theorem hy_31_33 : hz_run [(1, nI 33)] [] 1143 = true := by decide +kernel
set_option maxRecDepth 1000000 in
theorem hy_31_34 : hz_run [(1, nI 34)] [] 1143 = true := by decide +kernel
set_option maxRecDepth 1000000 in
theorem hy_31_35 : hz_run [(1, nI 35)] [] 1143 = true := by decide +kernel
set_option maxRecDepth 1000000 in
theorem hy_31_36 : hz_run [(1, nI 36)] [] 1143 = true := by decide +kernel
set_option maxRecDepth 1000000 in
theorem hy_31_37 : hz_run [(1, nI 37)] [] 1143 = true := by decide +kernel
set_option maxRecDepth 1000000 in
theorem hy_31_38 : hz_run [(1, nI 38)] [] 1143 = true := by decide +kernel
