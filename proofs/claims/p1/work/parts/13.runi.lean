set_option maxRecDepth 1000000 in
theorem hy_29_58 : hz_run [(2, nI 54), (3, nI 2)] [] 1067 = true := by decide +kernel
set_option maxRecDepth 1000000 in
theorem hy_29_59 : hz_run [(2, nI 55), (3, nI 2)] [] 1067 = true := by decide +kernel
set_option maxRecDepth 1000000 in
theorem hy_29_60 : hz_run [(2, nI 56), (3, nI 2)] [] 1067 = true := by decide +kernel
set_option maxRecDepth 1000000 in
theorem hy_29_61 : hz_run [(2, nI 57), (3, nI 2)] [] 1067 = true := by decide +kernel
set_option maxRecDepth 1000000 in
theorem hy_29_62 : hz_run [(2, nI 58), (3, nI 2)] [] 1067 = true := by decide +kernel
set_option maxRecDepth 1000000 in
theorem hy_29_63 : hz_run [(2, nI 59), (3, nI 2)] [] 1067 = true := by decide +kernel
set_option maxRecDepth 1000000 in
theorem hy_29_64 : hz_run [(2, nI 60), (3, nI 2)] [] 1067 = true := by decide +kernel
set_option maxRecDepth 1000000 in
theorem hy_29_65 : hz_run [(2, nI 61), (3, nI 2)] [] 1067 = true := by decide +kernel
set_option maxRecDepth 1000000 in
theorem hy_29_66 : hz_run [(2, nI 62), (3, nI 2)] [] 1067 = true := by decide +kernel
set_option maxRecDepth 1000000 in
theorem hy_29_67 : hz_run [(2, nI 63), (3, nI 2)] [] 1067 = true := by decide +kernel
set_option maxRecDepth 1000000 in
theorem hy_29_68 : hz_run [(2, nI 64), (3, nI 2)] [] 1067 = true := by decide +kernel
set_option maxRecDepth 1000000 in
theorem hy_29_69 : hz_run [(2, nI 65), (3, nI 2)] [] 1067 = true := by decide +kernel
set_option maxRecDepth 1000000 in
theorem hy_29_70 : hz_run [(2, nI 66), (3, nI 2)] [] 1067 = true := by decide +kernel
set_option maxRecDepth 1000000 in
theorem hy_29_71 : hz_run [(2, nI 67), (3, nI 2)] [] 1067 = true := by decide +kernel
set_option maxRecDepth 1000000 in
theorem hy_29_72 : hz_run [(2, nI 68), (3, nI 2)] [] 1067 = true := by decide +kernel
set_option maxRecDepth 1000000 in
theorem hy_29_73 : hz_run [(2, nI 69), (3, nI 2)] [] 1067 = true := by decide +kernel
set_option maxRecDepth 1000000 in
theorem hy_29_74 : hz_run [(2, nI 70), (3, nI 2)] [] 1067 = true := by decide +kernel
set_option maxRecDepth 1000000 in
theorem hy_29_75 : hz_run [(2, nI 71), (3, nI 2)] [] 1067 = true := by decide +kernel
