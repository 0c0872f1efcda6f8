set_option maxRecDepth 1000000 in
theorem hy_39_4 : hz_run [(1, nI 0), (2, nI 2)] [] 1347 = true := by decide +kernel
set_option maxRecDepth 1000000 in
theorem hy_39_5 : hz_run [(1, nI 0), (2, nI 3)] [] 1347 = true := by decide +kernel
set_option maxRecDepth 1000000 in
theorem hy_40_0 : hz_run [(1, nI 0)] [] 1380 = true := by decide +kernel
set_option maxRecDepth 1000000 in
theorem hy_40_1 : hz_run [] [(1, 0, 0, false)] 1380 = true := by decide +kernel
set_option maxRecDepth 1000000 in
theorem hy_41_0 : hz_run [(1, nI 0)] [] 1403 = true := by decide +kernel
set_option maxRecDepth 1000000 in
theorem hy_41_1 : hz_run [(1, nI 1)] [] 1403 = true := by decide +kernel
set_option maxRecDepth 1000000 in
theorem hy_41_2 : hz_run [(1, nI 2)] [] 1403 = true := by decide +kernel
set_option maxRecDepth 1000000 in
theorem hy_41_3 : hz_run [] [(1, 0, 2, false)] 1403 = true := by decide +kernel
set_option maxRecDepth 1000000 in
theorem hy_42_0 : hz_run [(1, nI 0)] [] 1426 = true := by decide +kernel
set_option maxRecDepth 1000000 in
theorem hy_42_1 : hz_run [(1, nI 1)] [] 1426 = true := by decide +kernel
set_option maxRecDepth 1000000 in
theorem hy_42_2 : hz_run [(1, nI 2)] [] 1426 = true := by decide +kernel
set_option maxRecDepth 1000000 in
theorem hy_42_3 : hz_run [] [(1, 0, 2, false)] 1426 = true := by decide +kernel
set_option maxRecDepth 1000000 in
theorem hy_43_0 : hz_run [(1, nI 0)] [] 1449 = true := by decide +kernel
set_option maxRecDepth 1000000 in
theorem hy_43_1 : hz_run [(1, nI 1)] [] 1449 = true := by decide +kernel
set_option maxRecDepth 1000000 in
theorem hy_43_2 : hz_run [(1, nI 2)] [] 1449 = true := by decide +kernel
set_option maxRecDepth 1000000 in
theorem hy_43_3 : hz_run [(1, nI 3)] [] 1449 = true := by decide +kernel
set_option maxRecDepth 1000000 in
theorem hy_43_4 : hz_run [(1, nI 4)] [] 1449 = true := by decide +kernel
set_option maxRecDepth 1000000 in
theorem hy_43_5 : hz_run [(1, nI 5)] [] 1449 = true := by decide +kernel
set_option maxRecDepth 1000000 in
theorem hy_43_6 : hz_run [(1, nI 6)] [] 1449 = true := by decide +kernel
set_option maxRecDepth 1000000 in
theorem hy_43_7 : hz_run [(1, nI 7)] [] 1449 = true := by decide +kernel
set_option maxRecDepth 1000000 in
theorem hy_43_8 : hz_run [(1, nI 8)] [] 1449 = true := by decide +kernel
set_option maxRecDepth 1000000 in
theorem hy_43_9 : hz_run [(1, nI 9)] [] 1449 = true := by decide +kernel
set_option maxRecDepth 1000000 in
theorem hy_43_10 : hz_run [(1, nI 10)] [] 1449 = true := by decide +kernel
set_option maxRecDepth 1000000 in
theorem hy_43_11 : hz_run [(1, nI 11)] [] 1449 = true := by decide +kernel
set_option maxRecDepth 1000000 in
theorem hy_43_12 : hz_run [(1, nI 12)] [] 1449 = true := by decide +kernel
set_option maxRecDepth 1000000 in
theorem hy_43_13 : hz_run [(1, nI 13)] [] 1449 = true := by decide +kernel
set_option maxRecDepth 1000000 in
theorem hy_43_14 : hz_run [(1, nI 14)] [] 1449 = true := by decide +kernel
set_option maxRecDepth 1000000 in
theorem hy_43_15 : hz_run [(1, nI 15)] [] 1449 = true := by decide +kernel
set_option maxRecDepth 1000000 in
theorem hy_43_16 : hz_run [(1, nI 16)] [] 1449 = true := by decide +kernel
set_option maxRecDepth 1000000 in
theorem hy_43_17 : hz_run [(1, nI 17)] [] 1449 = true := by decide +kernel
set_option maxRecDepth 1000000 in
theorem hy_43_18 : hz_run [(2001, nI 17)] [] 1449 = true := by decide +kernel
