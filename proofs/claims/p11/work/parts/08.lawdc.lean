set_option maxRecDepth 1000000 in
theorem hm_lawD16 : hc_row (hc_D code) 512 hm_w16 = true := by decide +kernel
set_option maxRecDepth 1000000 in
theorem hm_lawD17 : hc_row (hc_D code) 544 hm_w17 = true := by decide +kernel
set_option maxRecDepth 1000000 in
theorem hm_lawD18 : hc_row (hc_D code) 576 hm_w18 = true := by decide +kernel
set_option maxRecDepth 1000000 in
theorem hm_lawD19 : hc_row (hc_D code) 608 hm_w19 = true := by decide +kernel
set_option maxRecDepth 1000000 in
theorem hm_lawD20 : hc_row (hc_D code) 640 hm_w20 = true := by decide +kernel
set_option maxRecDepth 1000000 in
theorem hm_lawD21 : hc_row (hc_D code) 672 hm_w21 = true := by decide +kernel
set_option maxRecDepth 1000000 in
theorem hm_lawD22 : hc_row (hc_D code) 704 hm_w22 = true := by decide +kernel
set_option maxRecDepth 1000000 in
theorem hm_lawD23 : hc_row (hc_D code) 736 hm_w23 = true := by decide +kernel
