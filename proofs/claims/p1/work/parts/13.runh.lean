set_option maxRecDepth 1000000 in
theorem hy_29_33 : hz_run [(2, nI 29), (3, nI 2)] [] 1067 = true := by decide +kernel
set_option maxRecDepth 1000000 in
theorem hy_29_34 : hz_run [(2, nI 30), (3, nI 2)] [] 1067 = true := by decide +kernel
set_option maxRecDepth 1000000 in
theorem hy_29_35 : hz_run [(2, nI 31), (3, nI 2)] [] 1067 = true := by decide +kernel
set_option maxRecDepth 1000000 in
theorem hy_29_36 : hz_run [(2, nI 32), (3, nI 2)] [] 1067 = true := by decide +kernel
set_option maxRecDepth 1000000 in
theorem hy_29_37 : hz_run [(2, nI 33), (3, nI 2)] [] 1067 = true := by decide +kernel
set_option maxRecDepth 1000000 in
theorem hy_29_38 : hz_run [(2, nI 34), (3, nI 2)] [] 1067 = true := by decide +kernel
set_option maxRecDepth 1000000 in
theorem hy_29_39 : hz_run [(2, nI 35), (3, nI 2)] [] 1067 = true := by decide +kernel
set_option maxRecDepth 1000000 in
theorem hy_29_40 : hz_run [(2, nI 36), (3, nI 2)] [] 1067 = true := by decide +kernel
set_option maxRecDepth 1000000 in
theorem hy_29_41 : hz_run [(2, nI 37), (3, nI 2)] [] 1067 = true := by decide +kernel
set_option maxRecDepth 1000000 in
theorem hy_29_42 : hz_run [(2, nI 38), (3, nI 2)] [] 1067 = true := by decide +kernel
set_option maxRecDepth 1000000 in
theorem hy_29_43 : hz_run [(2, nI 39), (3, nI 2)] [] 1067 = true := by decide +kernel
set_option maxRecDepth 1000000 in
theorem hy_29_44 : hz_run [(2, nI 40), (3, nI 2)] [] 1067 = true := by decide +kernel
set_option maxRecDepth 1000000 in
theorem hy_29_45 : hz_run [(2, nI 41), (3, nI 2)] [] 1067 = true := by decide +kernel
set_option maxRecDepth 1000000 in
theorem hy_29_46 : hz_run [(2, nI 42), (3, nI 2)] [] 1067 = true := by decide +kernel
set_option maxRecDepth 1000000 in
theorem hy_29_47 : hz_run [(2, nI 43), (3, nI 2)] [] 1067 = true := by decide +kernel
set_option maxRecDepth 1000000 in
theorem hy_29_48 : hz_run [(2, nI 44), (3, nI 2)] [] 1067 = true := by decide +kernel
set_option maxRecDepth 1000000 in
theorem hy_29_49 : hz_run [(2, nI 45), (3, nI 2)] [] 1067 = true := by decide +kernel
set_option maxRecDepth 1000000 in
theorem hy_29_50 : hz_run [(2, nI 46), (3, nI 2)] [] 1067 = true := by decide +kernel
set_option maxRecDepth 1000000 in
theorem hy_29_51 : hz_run [(2, nI 47), (3, nI 2)] [] 1067 = true := by decide +kernel
set_option maxRecDepth 1000000 in
theorem hy_29_52 : hz_run [(2, nI 48), (3, nI 2)] [] 1067 = true := by decide +kernel
set_option maxRecDepth 1000000 in
theorem hy_29_53 : hz_run [(2, nI 49), (3, nI 2)] [] 1067 = true := by decide +kernel
set_option maxRecDepth 1000000 in
theorem hy_29_54 : hz_run [(2, nI 50), (3, nI 2)] [] 1067 = true := by decide +kernel
set_option maxRecDepth 1000000 in
theorem hy_29_55 : hz_run [(2, nI 51), (3, nI 2)] [] 1067 = true := by decide +kernel
set_option maxRecDepth 1000000 in
theorem hy_29_56 : hz_run [(2, nI 52), (3, nI 2)] [] 1067 = true := by decide +kernel
set_option maxRecDepth 1000000 in
theorem hy_29_57 : hz_run [(2, nI 53), (3, nI 2)] [] 1067 = true := by decide +kernel
