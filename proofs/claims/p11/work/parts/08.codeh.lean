set_option maxRecDepth 1000000 in
theorem hm_ok242 : hc_MOK hm_m242 := ⟨hc_in (p := 727) rfl rfl, by decide +kernel, by decide +kernel, hc_in (p := 109) (by decide +kernel) rfl, by decide +kernel, by decide +kernel, by decide +kernel, by decide +kernel, by decide +kernel⟩
set_option maxRecDepth 1000000 in
theorem hm_ok243 : hc_MOK hm_m243 := ⟨hc_in (p := 829) rfl rfl, by decide +kernel, by decide +kernel, hc_in (p := 107) (by decide +kernel) rfl, by decide +kernel, by decide +kernel, by decide +kernel, by decide +kernel, by decide +kernel⟩
set_option maxRecDepth 1000000 in
theorem hm_ok244 : hc_MOK hm_m244 := ⟨hc_in (p := 573) rfl rfl, by decide +kernel, by decide +kernel, hc_in (p := 107) (by decide +kernel) rfl, by decide +kernel, by decide +kernel, by decide +kernel, by decide +kernel, by decide +kernel⟩
set_option maxRecDepth 1000000 in
theorem hm_ok245 : hc_MOK hm_m245 := ⟨hc_in (p := 576) rfl rfl, by decide +kernel, by decide +kernel, hc_in (p := 107) (by decide +kernel) rfl, by decide +kernel, by decide +kernel, by decide +kernel, by decide +kernel, by decide +kernel⟩
set_option maxRecDepth 1000000 in
theorem hm_ok246 : hc_MOK hm_m246 := ⟨hc_in (p := 392) rfl rfl, by decide +kernel, by decide +kernel, hc_in (p := 101) (by decide +kernel) rfl, by decide +kernel, by decide +kernel, by decide +kernel, by decide +kernel, by decide +kernel⟩
