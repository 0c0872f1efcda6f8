set_option maxRecDepth 1000000 in
theorem hy_31_61 : hz_run [(1, nI 61)] [] 1143 = true := by decide +kernel
set_option maxRecDepth 1000000 in
theorem hy_31_62 : hz_run [(1, nI 62)] [] 1143 = true := by decide +kernel
set_option maxRecDepth 1000000 in
theorem hy_31_63 : hz_run [(1, nI 63)] [] 1143 = true := by decide +kernel
set_option maxRecDepth 1000000 in
theorem hy_31_64 : hz_run [(1, nI 64)] [] 1143 = true := by decide +kernel
set_option maxRecDepth 1000000 in
theorem hy_31_65 : hz_run [(1, nI 65)] [] 1143 = true := by decide +kernel
set_option maxRecDepth 1000000 in
theorem hy_31_66 : hz_run [(1, nI 66)] [] 1143 = true := by decide +kernel
set_option maxRecDepth 1000000 in
theorem hy_31_67 : hz_run [(1, nI 67)] [] 1143 = true := by decide +kernel
set_option maxRecDepth 1000000 in
theorem hy_31_68 : hz_run [(1, nI 68)] [] 1143 = true := by decide +kernel
set_option maxRecDepth 1000000 in
theorem hy_31_69 : hz_run [(1, nI 69)] [] 1143 = true := by decide +kernel
set_option maxRecDepth 1000000 in
theorem hy_31_70 : hz_run [(1, nI 70)] [] 1143 = true := by decide +kernel
set_option maxRecDepth 1000000 in
theorem hy_31_71 : hz_run [(1, nI 71)] [] 1143 = true := by decide +kernel
set_option maxRecDepth 1000000 in
theorem hy_31_72 : hz_run [(1, nI 72)] [] 1143 = true := by decide +kernel
set_option maxRecDepth 1000000 in
theorem hy_31_73 : hz_run [] [(1, 0, 72, false)] 1143 = true := by decide +kernel
set_option maxRecDepth 1000000 in
theorem hy_32_0 : hz_run [(1, nI 0)] [] 1166 = true := by decide +kernel
set_option maxRecDepth 1000000 in
theorem hy_32_1 : hz_run [(1, nI 1)] [] 1166 = true := by decide +kernel
set_option maxRecDepth 1000000 in
theorem hy_32_2 : hz_run [] [(1, 0, 1, false)] 1166 = true := by decide +kernel
set_option maxRecDepth 1000000 in
theorem hy_33_0 : hz_run [] [] 1189 = true := by decide +kernel
set_option maxRecDepth 1000000 in
theorem hy_34_0 : hz_run [(1, nI 0)] [] 1212 = true := by decide +kernel
set_option maxRecDepth 1000000 in
theorem hy_34_1 : hz_run [(1, nI 1)] [] 1212 = true := by decide +kernel
set_option maxRecDepth 1000000 in
theorem hy_34_2 : hz_run [] [(1, 0, 1, false)] 1212 = true := by decide +kernel
set_option maxRecDepth 1000000 in
theorem hy_35_0 : hz_run [] [] 1235 = true := by decide +kernel
set_option maxRecDepth 1000000 in
theorem hy_36_0 : hz_run [] [] 1258 = true := by decide +kernel
set_option maxRecDepth 1000000 in
theorem hy_37_0 : hz_run [] [] 1301 = true := by decide +kernel
set_option maxRecDepth 1000000 in
theorem hy_38_0 : hz_run [] [] 1334 = true := by decide +kernel
set_option maxRecDepth 1000000 in
theorem hy_39_0 : hz_run [] [(1, 0, 0, false)] 1347 = true := by decide +kernel
set_option maxRecDepth 1000000 in
theorem hy_39_1 : hz_run [(1, nI 0)] [(2, 0, 3, false)] 1347 = true := by decide +kernel
set_option maxRecDepth 1000000 in
theorem hy_39_2 : hz_run [(1, nI 0), (2, nI 0)] [] 1347 = true := by decide +kernel
set_option maxRecDepth 1000000 in
theorem hy_39_3 : hz_run [(1, nI 0), (2, nI 1)] [] 1347 = true := by decide +kernel
