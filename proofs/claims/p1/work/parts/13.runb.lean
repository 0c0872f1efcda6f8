set_option maxRecDepth 1000000 in
theorem hy_10_28 : hz_run [(1, nI 28)] [] 540 = true := by decide +kernel
set_option maxRecDepth 1000000 in
theorem hy_10_29 : hz_run [(1, nI 29)] [] 540 = true := by decide +kernel
set_option maxRecDepth 1000000 in
theorem hy_10_30 : hz_run [(1, nI 30)] [] 540 = true := by decide +kernel
set_option maxRecDepth 1000000 in
theorem hy_10_31 : hz_run [(1, nI 31)] [] 540 = true := by decide +kernel
set_option maxRecDepth 1000000 in
theorem hy_10_32 : hz_run [(1, nI 32)] [] 540 = true := by decide +kernel
set_option maxRecDepth 1000000 in
theorem hy_10_33 : hz_run [(1, nI 33)] [] 540 = true := by decide +kernel
set_option maxRecDepth 1000000 in
theorem hy_10_34 : hz_run [(1, nI 34)] [] 540 = true := by decide +kernel
set_option maxRecDepth 1000000 in
theorem hy_10_35 : hz_run [(1, nI 35)] [] 540 = true := by decide +kernel
set_option maxRecDepth 1000000 in
theorem hy_10_36 : hz_run [(1, nI 36)] [] 540 = true := by decide +kernel
set_option maxRecDepth 1000000 in
theorem hy_10_37 : hz_run [(1, nI 37)] [] 540 = true := by decide +kernel
set_option maxRecDepth 1000000 in
theorem hy_10_38 : hz_run [(1, nI 38)] [] 540 = true := by decide +kernel
set_option maxRecDepth 1000000 in
theorem hy_10_39 : hz_run [(1, nI 39)] [] 540 = true := by decide +kernel
set_option maxRecDepth 1000000 in
theorem hy_10_40 : hz_run [(1, nI 40)] [] 540 = true := by decide +kernel
set_option maxRecDepth 1000000 in
theorem hy_10_41 : hz_run [(1, nI 41)] [] 540 = true := by decide +kernel
set_option maxRecDepth 1000000 in
theorem hy_10_42 : hz_run [(1, nI 42)] [] 540 = true := by decide +kernel
set_option maxRecDepth 1000000 in
theorem hy_10_43 : hz_run [(1, nI 43)] [] 540 = true := by decide +kernel
set_option maxRecDepth 1000000 in
theorem hy_10_44 : hz_run [(1, nI 44)] [] 540 = true := by decide +kernel
set_option maxRecDepth 1000000 in
theorem hy_10_45 : hz_run [(1, nI 45)] [] 540 = true := by decide +kernel
set_option maxRecDepth 1000000 in
theorem hy_10_46 : hz_run [(1, nI 46)] [] 540 = true := by decide +kernel
