set_option maxRecDepth 1000000 in
theorem hm_lawD40 : hc_row (hc_D code) 1280 hm_w40 = true := by decide +kernel
set_option maxRecDepth 1000000 in
theorem hm_lawD41 : hc_row (hc_D code) 1312 hm_w41 = true := by decide +kernel
set_option maxRecDepth 1000000 in
theorem hm_lawD42 : hc_row (hc_D code) 1344 hm_w42 = true := by decide +kernel
set_option maxRecDepth 1000000 in
theorem hm_lawD43 : hc_row (hc_D code) 1376 hm_w43 = true := by decide +kernel
set_option maxRecDepth 1000000 in
theorem hm_lawD44 : hc_row (hc_D code) 1408 hm_w44 = true := by decide +kernel
set_option maxRecDepth 1000000 in
theorem hm_lawD45 : hc_row (hc_D code) 1440 hm_w45 = true := by decide +kernel
set_option maxRecDepth 1000000 in
theorem hm_lawD46 : hc_row (hc_D code) 1472 hm_w46 = true := by decide +kernel
