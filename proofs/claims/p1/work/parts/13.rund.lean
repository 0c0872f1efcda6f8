set_option maxRecDepth 1000000 in
theorem hy_10_62 : hz_run [(1, nI 62)] [] 540 = true := by decide +kernel
set_option maxRecDepth 1000000 in
theorem hy_10_63 : hz_run [(1, nI 63)] [] 540 = true := by decide +kernel
set_option maxRecDepth 1000000 in
theorem hy_10_64 : hz_run [(1, nI 64)] [] 540 = true := by decide +kernel
set_option maxRecDepth 1000000 in
theorem hy_10_65 : hz_run [(1, nI 65)] [] 540 = true := by decide +kernel
set_option maxRecDepth 1000000 in
theorem hy_10_66 : hz_run [(1, nI 66)] [] 540 = true := by decide +kernel
set_option maxRecDepth 1000000 in
theorem hy_10_67 : hz_run [(1, nI 67)] [] 540 = true := by decide +kernel
set_option maxRecDepth 1000000 in
theorem hy_10_68 : hz_run [(1, nI 68)] [] 540 = true := by decide +kernel
set_option maxRecDepth 1000000 in
theorem hy_10_69 : hz_run [(1, nI 69)] [] 540 = true := by decide +kernel
set_option maxRecDepth 1000000 in
theorem hy_10_70 : hz_run [(1, nI 70)] [] 540 = true := by decide +kernel
set_option maxRecDepth 1000000 in
theorem hy_10_71 : hz_run [(1, nI 71)] [] 540 = true := by decide +kernel
set_option maxRecDepth 1000000 in
theorem hy_10_72 : hz_run [(1, nI 72)] [] 540 = true := by decide +kernel
set_option maxRecDepth 1000000 in
theorem hy_10_73 : hz_run [] [(1, 0, 72, false)] 540 = true := by decide +kernel
set_option maxRecDepth 1000000 in
theorem hy_11_0 : hz_run [] [] 563 = true := by decide +kernel
set_option maxRecDepth 1000000 in
theorem hy_12_0 : hz_run [] [] 576 = true := by decide +kernel
set_option maxRecDepth 1000000 in
theorem hy_13_0 : hz_run [] [(1, 0, 255, true)] 609 = true := by decide +kernel
set_option maxRecDepth 1000000 in
theorem hy_13_1 : hz_run [] [(1, 0, 255, false)] 609 = true := by decide +kernel
set_option maxRecDepth 1000000 in
theorem hy_14_0 : hz_run [] [] 632 = true := by decide +kernel
set_option maxRecDepth 1000000 in
theorem hy_15_0 : hz_run [] [] 655 = true := by decide +kernel
set_option maxRecDepth 1000000 in
theorem hy_16_0 : hz_run [] [] 678 = true := by decide +kernel
set_option maxRecDepth 1000000 in
theorem hy_17_0 : hz_run [] [] 721 = true := by decide +kernel
set_option maxRecDepth 1000000 in
theorem hy_18_0 : hz_run [] [] 744 = true := by decide +kernel
set_option maxRecDepth 1000000 in
theorem hy_19_0 : hz_run [] [] 787 = true := by decide +kernel
set_option maxRecDepth 1000000 in
theorem hy_20_0 : hz_run [] [] 820 = true := by decide +kernel
set_option maxRecDepth 1000000 in
theorem hy_21_0 : hz_run [] [] 853 = true := by decide +kernel
set_option maxRecDepth 1000000 in
theorem hy_22_0 : hz_run [] [] 876 = true := by decide +kernel
set_option maxRecDepth 1000000 in
theorem hy_23_0 : hz_run [] [] 909 = true := by decide +kernel
set_option maxRecDepth 1000000 in
theorem hy_24_0 : hz_run [] [] 942 = true := by decide +kernel
set_option maxRecDepth 1000000 in
theorem hy_25_0 : hz_run [] [(1, 1, 72, false)] 965 = true := by decide +kernel
set_option maxRecDepth 1000000 in
theorem hy_25_1 : hz_run [] [(1, 1, 72, true), (2, 0, 1, false)] 965 = true := by decide +kernel
set_option maxRecDepth 1000000 in
theorem hy_25_2 : hz_run [] [(1, 1, 72, true), (2, 0, 1, true)] 965 = true := by decide +kernel
set_option maxRecDepth 1000000 in
theorem hy_26_0 : hz_run [(1, nI 0)] [] 998 = true := by decide +kernel
set_option maxRecDepth 1000000 in
theorem hy_26_1 : hz_run [(1, nI 1)] [] 998 = true := by decide +kernel
set_option maxRecDepth 1000000 in
theorem hy_26_2 : hz_run [(1, nI 2)] [] 998 = true := by decide +kernel
set_option maxRecDepth 1000000 in
theorem hy_26_3 : hz_run [(1, nI 3)] [] 998 = true := by decide +kernel
set_option maxRecDepth 1000000 in
theorem hy_26_4 : hz_run [(1, nI 4)] [] 998 = true := by decide +kernel
set_option maxRecDepth 1000000 in
theorem hy_26_5 : hz_run [(1, nI 5)] [] 998 = true := by decide +kernel
set_option maxRecDepth 1000000 in
theorem hy_26_6 : hz_run [(1, nI 6)] [] 998 = true := by decide +kernel
set_option maxRecDepth 1000000 in
theorem hy_26_7 : hz_run [(1, nI 7)] [] 998 = true := by decide +kernel
set_option maxRecDepth 1000000 in
theorem hy_26_8 : hz_run [(1, nI 8)] [] 998 = true := by decide +kernel
set_option maxRecDepth 1000000 in
theorem hy_26_9 : hz_run [(1, nI 9)] [] 998 = true := by decide +kernel
set_option maxRecDepth 1000000 in
theorem hy_26_10 : hz_run [(1, nI 10)] [] 998 = true := by decide +kernel
