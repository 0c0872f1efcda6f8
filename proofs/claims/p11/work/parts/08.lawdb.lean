set_option maxRecDepth 1000000 in
theorem hm_lawD8 : hc_row (hc_D code) 256 hm_w8 = true := by decide +kernel
set_option maxRecDepth 1000000 in
theorem hm_lawD9 : hc_row (hc_D code) 288 hm_w9 = true := by decide +kernel
set_option maxRecDepth 1000000 in
theorem hm_lawD10 : hc_row (hc_D code) 320 hm_w10 = true := by decide +kernel
set_option maxRecDepth 1000000 in
theorem hm_lawD11 : hc_row (hc_D code) 352 hm_w11 = true := by decide +kernel
set_option maxRecDepth 1000000 in
theorem hm_lawD12 : hc_row (hc_D code) 384 hm_w12 = true := by decide +kernel
set_option maxRecDepth 1000000 in
theorem hm_lawD13 : hc_row (hc_D code) 416 hm_w13 = true := by decide +kernel
set_option maxRecDepth 1000000 in
theorem hm_lawD14 : hc_row (hc_D code) 448 hm_w14 = true := by decide +kernel
set_option maxRecDepth 1000000 in
theorem hm_lawD15 : hc_row (hc_D code) 480 hm_w15 = true := by decide +kernel
