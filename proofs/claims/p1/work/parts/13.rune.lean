set_option maxRecDepth 1000000 in
theorem hy_26_11 : hz_run [(1, nI 11)] [] 998 = true := by decide +kernel
set_option maxRecDepth 1000000 in
theorem hy_26_12 : hz_run [(1, nI 12)] [] 998 = true := by decide +kernel
set_option maxRecDepth 1000000 in
theorem hy_26_13 : hz_run [(1, nI 13)] [] 998 = true := by decide +kernel
set_option maxRecDepth 1000000 in
theorem hy_26_14 : hz_run [(1, nI 14)] [] 998 = true := by decide +kernel
set_option maxRecDepth 1000000 in
theorem hy_26_15 : hz_run [(1, nI 15)] [] 998 = true := by decide +kernel
set_option maxRecDepth 1000000 in
theorem hy_26_16 : hz_run [(1, nI 16)] [] 998 = true := by decide +kernel
set_option maxRecDepth 1000000 in
theorem hy_26_17 : hz_run [(1, nI 17)] [] 998 = true := by decide +kernel
set_option maxRecDepth 1000000 in
theorem hy_26_18 : hz_run [(1, nI 18)] [] 998 = true := by decide +kernel
set_option maxRecDepth 1000000 in
theorem hy_26_19 : hz_run [(1, nI 19)] [] 998 = true := by decide +kernel
set_option maxRecDepth 1000000 in
theorem hy_26_20 : hz_run [(1, nI 20)] [] 998 = true := by decide +kernel
set_option maxRecDepth 1000000 in
theorem hy_26_21 : hz_run [(1, nI 21)] [] 998 = true := by decide +kernel
set_option maxRecDepth 1000000 in
theorem hy_26_22 : hz_run [(1, nI 22)] [] 998 = true := by decide +kernel
set_option maxRecDepth 1000000 in
theorem hy_26_23 : hz_run [(1, nI 23)] [] 998 = true := by decide +kernel
set_option maxRecDepth 1000000 in
theorem hy_26_24 : hz_run [(1, nI 24)] [] 998 = true := by decide +kernel
set_option maxRecDepth 1000000 in
theorem hy_26_25 : hz_run [(1, nI 25)] [] 998 = true := by decide +kernel
set_option maxRecDepth 1000000 in
theorem hy_26_26 : hz_run [(1, nI 26)] [] 998 = true := by decide +kernel
set_option maxRecDepth 1000000 in
theorem hy_26_27 : hz_run [(1, nI 27)] [] 998 = true := by decide +kernel
set_option maxRecDepth 1000000 in
theorem hy_26_28 : hz_run [(1, nI 28)] [] 998 = true := by decide +kernel
set_option maxRecDepth 1000000 in
theorem hy_26_29 : hz_run [(1, nI 29)] [] 998 = true := by decide +kernel
set_option maxRecDepth 1000000 in
theorem hy_26_30 : hz_run [(1, nI 30)] [] 998 = true := by decide +kernel
set_option maxRecDepth 1000000 in
theorem hy_26_31 : hz_run [(1, nI 31)] [] 998 = true := by decide +kernel
set_option maxRecDepth 1000000 in
theorem hy_26_32 : hz_run [(1, nI 32)] [] 998 = true := by decide +kernel
set_option maxRecDepth 1000000 in
theorem hy_26_33 : hz_run [(1, nI 33)] [] 998 = true := by decide +kernel
set_option maxRecDepth 1000000 in
theorem hy_26_34 : hz_run [(1, nI 34)] [] 998 = true := by decide +kernel
set_option maxRecDepth 1000000 in
theorem hy_26_35 : hz_run [(1, nI 35)] [] 998 = true := by decide +kernel
set_option maxRecDepth 1000000 in
theorem hy_26_36 : hz_run [(1, nI 36)] [] 998 = true := by decide +kernel
set_option maxRecDepth 1000000 in
theorem hy_26_37 : hz_run [(1, nI 37)] [] 998 = true := by decide +kernel
set_option maxRecDepth 1000000 in
theorem hy_26_38 : hz_run [(1, nI 38)] [] 998 = true := by decide +kernel
set_option maxRecDepth 1000000 in
theorem hy_26_39 : hz_run [(1, nI 39)] [] 998 = true := by decide +kernel
set_option maxRecDepth 1000000 in
theorem hy_26_40 : hz_run [(1, nI 40)] [] 998 = true := by decide +kernel
set_option maxRecDepth 1000000 in
theorem hy_26_41 : hz_run [(1, nI 41)] [] 998 = true := by decide +kernel
set_option maxRecDepth 1000000 in
theorem hy_26_42 : hz_run [(1, nI 42)] [] 998 = true := by decide +kernel
set_option maxRecDepth 1000000 in
theorem hy_26_43 : hz_run [(1, nI 43)] [] 998 = true := by decide +kernel
set_option maxRecDepth 1000000 in
theorem hy_26_44 : hz_run [(1, nI 44)] [] 998 = true := by decide +kernel
