set_option maxRecDepth 1000000 in
theorem hm_lawD32 : hc_row (hc_D code) 1024 hm_w32 = true := by decide +kernel
set_option maxRecDepth 1000000 in
theorem hm_lawD33 : hc_row (hc_D code) 1056 hm_w33 = true := by decide +kernel
set_option maxRecDepth 1000000 in
theorem hm_lawD34 : hc_row (hc_D code) 1088 hm_w34 = true := by decide +kernel
set_option maxRecDepth 1000000 in
theorem hm_lawD35 : hc_row (hc_D code) 1120 hm_w35 = true := by decide +kernel
set_option maxRecDepth 1000000 in
theorem hm_lawD36 : hc_row (hc_D code) 1152 hm_w36 = true := by decide +kernel
set_option maxRecDepth 1000000 in
theorem hm_lawD37 : hc_row (hc_D code) 1184 hm_w37 = true := by decide +kernel
set_option maxRecDepth 1000000 in
theorem hm_lawD38 : hc_row (hc_D code) 1216 hm_w38 = true := by decide +kernel
set_option maxRecDepth 1000000 in
theorem hm_lawD39 : hc_row (hc_D code) 1248 hm_w39 = true := by decide +kernel
