set_option maxRecDepth 1000000 in
theorem hm_lawD24 : hc_row (hc_D code) 768 hm_w24 = true := by decide +kernel
set_option maxRecDepth 1000000 in
theorem hm_lawD25 : hc_row (hc_D code) 800 hm_w25 = true := by decide +kernel
set_option maxRecDepth 1000000 in
theorem hm_lawD26 : hc_row (hc_D code) 832 hm_w26 = true := by decide +kernel
set_option maxRecDepth 1000000 in
theorem hm_lawD27 : hc_row (hc_D code) 864 hm_w27 = true := by decide +kernel
set_option maxRecDepth 1000000 in
theorem hm_lawD28 : hc_row (hc_D code) 896 hm_w28 = true := by decide +kernel
set_option maxRecDepth 1000000 in
theorem hm_lawD29 : hc_row (hc_D code) 928 hm_w29 = true := by decide +kernel
set_option maxRecDepth 1000000 in
theorem hm_lawD30 : hc_row (hc_D code) 960 hm_w30 = true := by decide +kernel
set_option maxRecDepth 1000000 in
theorem hm_lawD31 : hc_row (hc_D code) 992 hm_w31 = true := by decide +kernel
