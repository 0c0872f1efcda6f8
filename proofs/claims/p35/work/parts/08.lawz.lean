set_option maxRecDepth 1000000 in
theorem hm_lawD : hc_rws (hc_D code) 0 hm_law = true := hf_rws_ok (by decide +kernel)
