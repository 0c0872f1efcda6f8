set_option maxRecDepth 1000000 in
theorem hy_10_47 : hz_run [(1, nI 47)] [] 540 = true := by decide +kernel
set_option maxRecDepth 1000000 in
theorem hy_10_48 : hz_run [(1, nI 48)] [] 540 = true := by decide +kernel
set_option maxRecDepth 1000000 in
theorem hy_10_49 : hz_run [(1, nI 49)] [] 540 = true := by decide +kernel
set_option maxRecDepth 1000000 in
theorem hy_10_50 : hz_run [(1, nI 50)] [] 540 = true := by decide +kernel
set_option maxRecDepth 1000000 in
theorem hy_10_51 : hz_run [(1, nI 51)] [] 540 = true := by decide +kernel
set_option maxRecDepth 1000000 in
theorem hy_10_52 : hz_run [(1, nI 52)] [] 540 = true := by decide +kernel
set_option maxRecDepth 1000000 in
theorem hy_10_53 : hz_run [(1, nI 53)] [] 540 = true := by decide +kernel
set_option maxRecDepth 1000000 in
theorem hy_10_54 : hz_run [(1, nI 54)] [] 540 = true := by decide +kernel
set_option maxRecDepth 1000000 in
theorem hy_10_55 : hz_run [(1, nI 55)] [] 540 = true := by decide +kernel
set_option maxRecDepth 1000000 in
theorem hy_10_56 : hz_run [(1, nI 56)] [] 540 = true := by decide +kernel
set_option maxRecDepth 1000000 in
theorem hy_10_57 : hz_run [(1, nI 57)] [] 540 = true := by decide +kernel
set_option maxRecDepth 1000000 in
theorem hy_10_58 : hz_run [(1, nI 58)] [] 540 = true := by decide +kernel
set_option maxRecDepth 1000000 in
theorem hy_10_59 : hz_run [(1, nI 59)] [] 540 = true := by decide +kernel
set_option maxRecDepth 1000000 in
theorem hy_10_60 : hz_run [(1, nI 60)] [] 540 = true := by decide +kernel
set_option maxRecDepth 1000000 in
theorem hy_10_61 : hz_run [(1, nI 61)] [] 540 = true := by decide +kernel
