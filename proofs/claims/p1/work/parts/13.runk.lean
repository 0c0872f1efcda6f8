set_option maxRecDepth 1000000 in
theorem hy_31_39 : hz_run [(1, nI 39)] [] 1143 = true := by decide +kernel
set_option maxRecDepth 1000000 in
theorem hy_31_40 : hz_run [(1, nI 40)] [] 1143 = true := by decide +kernel
set_option maxRecDepth 1000000 in
theorem hy_31_41 : hz_run [(1, nI 41)] [] 1143 = true := by decide +kernel
set_option maxRecDepth 1000000 in
theorem hy_31_42 : hz_run [(1, nI 42)] [] 1143 = true := by decide +kernel
set_option maxRecDepth 1000000 in
theorem hy_31_43 : hz_run [(1, nI 43)] [] 1143 = true := by decide +kernel
set_option maxRecDepth 1000000 in
theorem hy_31_44 : hz_run [(1, nI 44)] [] 1143 = true := by decide +kernel
set_option maxRecDepth 1000000 in
theorem hy_31_45 : hz_run [(1, nI 45)] [] 1143 = true := by decide +kernel
set_option maxRecDepth 1000000 in
theorem hy_31_46 : hz_run [(1, nI 46)] [] 1143 = true := by decide +kernel
set_option maxRecDepth 1000000 in
theorem hy_31_47 : hz_run [(1, nI 47)] [] 1143 = true := by decide +kernel
set_option maxRecDepth 1000000 in
theorem hy_31_48 : hz_run [(1, nI 48)] [] 1143 = true := by decide +kernel
set_option maxRecDepth 1000000 in
theorem hy_31_49 : hz_run [(1, nI 49)] [] 1143 = true := by decide +kernel
set_option maxRecDepth 1000000 in
theorem hy_31_50 : hz_run [(1, nI 50)] [] 1143 = true := by decide +kernel
set_option maxRecDepth 1000000 in
theorem hy_31_51 : hz_run [(1, nI 51)] [] 1143 = true := by decide +kernel
set_option maxRecDepth 1000000 in
theorem hy_31_52 : hz_run [(1, nI 52)] [] 1143 = true := by decide +kernel
set_option maxRecDepth 1000000 in
theorem hy_31_53 : hz_run [(1, nI 53)] [] 1143 = true := by decide +kernel
set_option maxRecDepth 1000000 in
theorem hy_31_54 : hz_run [(1, nI 54)] [] 1143 = true := by decide +kernel
set_option maxRecDepth 1000000 in
theorem hy_31_55 : hz_run [(1, nI 55)] [] 1143 = true := by decide +kernel
set_option maxRecDepth 1000000 in
theorem hy_31_56 : hz_run [(1, nI 56)] [] 1143 = true := by decide +kernel
set_option maxRecDepth 1000000 in
theorem hy_31_57 : hz_run [(1, nI 57)] [] 1143 = true := by decide +kernel
set_option maxRecDepth 1000000 in
theorem hy_31_58 : hz_run [(1, nI 58)] [] 1143 = true := by decide +kernel
set_option maxRecDepth 1000000 in
theorem hy_31_59 : hz_run [(1, nI 59)] [] 1143 = true := by decide +kernel
set_option maxRecDepth 1000000 in
theorem hy_31_60 : hz_run [(1, nI 60)] [] 1143 = true := by decide +kernel
