set_option maxRecDepth 1000000 in
theorem hy_26_45 : hz_run [(1, nI 45)] [] 998 = true := by decide +kernel
set_option maxRecDepth 1000000 in
theorem hy_26_46 : hz_run [(1, nI 46)] [] 998 = true := by decide +kernel
set_option maxRecDepth 1000000 in
theorem hy_26_47 : hz_run [(1, nI 47)] [] 998 = true := by decide +kernel
set_option maxRecDepth 1000000 in
theorem hy_26_48 : hz_run [(1, nI 48)] [] 998 = true := by decide +kernel
set_option maxRecDepth 1000000 in
theorem hy_26_49 : hz_run [(1, nI 49)] [] 998 = true := by decide +kernel
set_option maxRecDepth 1000000 in
theorem hy_26_50 : hz_run [(1, nI 50)] [] 998 = true := by decide +kernel
set_option maxRecDepth 1000000 in
theorem hy_26_51 : hz_run [(1, nI 51)] [] 998 = true := by decide +kernel
set_option maxRecDepth 1000000 in
theorem hy_26_52 : hz_run [(1, nI 52)] [] 998 = true := by decide +kernel
set_option maxRecDepth 1000000 in
theorem hy_26_53 : hz_run [(1, nI 53)] [] 998 = true := by decide +kernel
set_option maxRecDepth 1000000 in
theorem hy_26_54 : hz_run [(1, nI 54)] [] 998 = true := by decide +kernel
set_option maxRecDepth 1000000 in
theorem hy_26_55 : hz_run [(1, nI 55)] [] 998 = true := by decide +kernel
set_option maxRecDepth 1000000 in
theorem hy_26_56 : hz_run [(1, nI 56)] [] 998 = true := by decide +kernel
set_option maxRecDepth 1000000 in
theorem hy_26_57 : hz_run [(1, nI 57)] [] 998 = true := by decide +kernel
set_option maxRecDepth 1000000 in
theorem hy_26_58 : hz_run [(1, nI 58)] [] 998 = true := by decide +kernel
set_option maxRecDepth 1000000 in
theorem hy_26_59 : hz_run [(1, nI 59)] [] 998 = true := by decide +kernel
set_option maxRecDepth 1000000 in
theorem hy_26_60 : hz_run [(1, nI 60)] [] 998 = true := by decide +kernel
set_option maxRecDepth 1000000 in
theorem hy_26_61 : hz_run [(1, nI 61)] [] 998 = true := by decide +kernel
set_option maxRecDepth 1000000 in
theorem hy_26_62 : hz_run [(1, nI 62)] [] 998 = true := by decide +kernel
set_option maxRecDepth 1000000 in
theorem hy_26_63 : hz_run [(1, nI 63)] [] 998 = true := by decide +kernel
set_option maxRecDepth 1000000 in
theorem hy_26_64 : hz_run [(1, nI 64)] [] 998 = true := by decide +kernel
set_option maxRecDepth 1000000 in
theorem hy_26_65 : hz_run [(1, nI 65)] [] 998 = true := by decide +kernel
