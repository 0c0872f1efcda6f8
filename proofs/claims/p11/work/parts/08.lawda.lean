set_option maxRecDepth 1000000 in
theorem hm_lawD0 : hc_row (hc_D code) 0 hm_w0 = true := by decide +kernel
set_option maxRecDepth 1000000 in
theorem hm_lawD1 : hc_row (hc_D code) 32 hm_w1 = true := by decide +kernel
set_option maxRecDepth 1000000 in
theorem hm_lawD2 : hc_row (hc_D code) 64 hm_w2 = true := by decide +kernel
set_option maxRecDepth 1000000 in
theorem hm_lawD3 : hc_row (hc_D code) 96 hm_w3 = true := by decide +kernel
set_option maxRecDepth 1000000 in
theorem hm_lawD4 : hc_row (hc_D code) 128 hm_w4 = true := by decide +kernel
set_option maxRecDepth 1000000 in
theorem hm_lawD5 : hc_row (hc_D code) 160 hm_w5 = true := by decide +kernel
set_option maxRecDepth 1000000 in
theorem hm_lawD6 : hc_row (hc_D code) 192 hm_w6 = true := by decide +kernel
set_option maxRecDepth 1000000 in
theorem hm_lawD7 : hc_row (hc_D code) 224 hm_w7 = true := by decide +kernel
