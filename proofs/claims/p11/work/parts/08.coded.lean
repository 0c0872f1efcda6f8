set_option maxRecDepth 1000000 in
theorem hm_ok117 : hc_MOK hm_m117 := ⟨hc_in (p := 1005) rfl rfl, by decide +kernel, by decide +kernel, hc_in (p := 91) (by decide +kernel) rfl, by decide +kernel, by decide +kernel, by decide +kernel, by decide +kernel, by decide +kernel⟩
set_option maxRecDepth 1000000 in
theorem hm_ok118 : hc_MOK hm_m118 := ⟨hc_in (p := 1009) rfl rfl, by decide +kernel, by decide +kernel, hc_in (p := 91) (by decide +kernel) rfl, by decide +kernel, by decide +kernel, by decide +kernel, by decide +kernel, by decide +kernel⟩
set_option maxRecDepth 1000000 in
theorem hm_ok119 : hc_MOK hm_m119 := ⟨hc_in (p := 1013) rfl rfl, by decide +kernel, by decide +kernel, hc_in (p := 91) (by decide +kernel) rfl, by decide +kernel, by decide +kernel, by decide +kernel, by decide +kernel, by decide +kernel⟩
set_option maxRecDepth 1000000 in
theorem hm_ok120 : hc_MOK hm_m120 := ⟨hc_in (p := 1017) rfl rfl, by decide +kernel, by decide +kernel, hc_in (p := 91) (by decide +kernel) rfl, by decide +kernel, by decide +kernel, by decide +kernel, by decide +kernel, by decide +kernel⟩
set_option maxRecDepth 1000000 in
theorem hm_ok121 : hc_MOK hm_m121 := ⟨hc_in (p := 1021) rfl rfl, by decide +kernel, by decide +kernel, hc_in (p := 91) (by decide +kernel) rfl, by decide +kernel, by decide +kernel, by decide +kernel, by decide +kernel, by decide +kernel⟩
set_option maxRecDepth 1000000 in
theorem hm_ok122 : hc_MOK hm_m122 := ⟨hc_in (p := 1025) rfl rfl, by decide +kernel, by decide +kernel, hc_in (p := 91) (by decide +kernel) rfl, by decide +kernel, by decide +kernel, by decide +kernel, by decide +kernel, by decide +kernel⟩
set_option maxRecDepth 1000000 in
theorem hm_ok123 : hc_MOK hm_m123 := ⟨hc_in (p := 1033) rfl rfl, by decide +kernel, by decide +kernel, hc_in (p := 91) (by decide +kernel) rfl, by decide +kernel, by decide +kernel, by decide +kernel, by decide +kernel, by decide +kernel⟩
set_option maxRecDepth 1000000 in
theorem hm_ok124 : hc_MOK hm_m124 := ⟨hc_in (p := 1041) rfl rfl, by decide +kernel, by decide +kernel, hc_in (p := 91) (by decide +kernel) rfl, by decide +kernel, by decide +kernel, by decide +kernel, by decide +kernel, by decide +kernel⟩
set_option maxRecDepth 1000000 in
theorem hm_ok125 : hc_MOK hm_m125 := ⟨hc_in (p := 1037) rfl rfl, by decide +kernel, by decide +kernel, hc_in (p := 91) (by decide +kernel) rfl, by decide +kernel, by decide +kernel, by decide +kernel, by decide +kernel, by decide +kernel⟩
set_option maxRecDepth 1000000 in
theorem hm_ok126 : hc_MOK hm_m126 := ⟨hc_in (p := 1045) rfl rfl, by decide +kernel, by decide +kernel, hc_in (p := 91) (by decide +kernel) rfl, by decide +kernel, by decide +kernel, by decide +kernel, by decide +kernel, by decide +kernel⟩
set_option maxRecDepth 1000000 in
theorem hm_ok127 : hc_MOK hm_m127 := ⟨hc_in (p := 1049) rfl rfl, by decide +kernel, by decide +kernel, hc_in (p := 91) (by decide +kernel) rfl, by decide +kernel, by decide +kernel, by decide +kernel, by decide +kernel, by decide +kernel⟩
set_option maxRecDepth 1000000 in
theorem hm_ok128 : hc_MOK hm_m128 := ⟨hc_in (p := 1054) rfl rfl, by decide +kernel, by decide +kernel, hc_in (p := 91) (by decide +kernel) rfl, by decide +kernel, by decide +kernel, by decide +kernel, by decide +kernel, by decide +kernel⟩
set_option maxRecDepth 1000000 in
theorem hm_ok129 : hc_MOK hm_m129 := ⟨hc_in (p := 1058) rfl rfl, by decide +kernel, by decide +kernel, hc_in (p := 91) (by decide +kernel) rfl, by decide +kernel, by decide +kernel, by decide +kernel, by decide +kernel, by decide +kernel⟩
set_option maxRecDepth 1000000 in
theorem hm_ok130 : hc_MOK hm_m130 := ⟨hc_in (p := 1062) rfl rfl, by decide +kernel, by decide +kernel, hc_in (p := 91) (by decide +kernel) rfl, by decide +kernel, by decide +kernel, by decide +kernel, by decide +kernel, by decide +kernel⟩
set_option maxRecDepth 1000000 in
theorem hm_ok131 : hc_MOK hm_m131 := ⟨hc_in (p := 1067) rfl rfl, by decide +kernel, by decide +kernel, hc_in (p := 91) (by decide +kernel) rfl, by decide +kernel, by decide +kernel, by decide +kernel, by decide +kernel, by decide +kernel⟩
set_option maxRecDepth 1000000 in
theorem hm_ok132 : hc_MOK hm_m132 := ⟨hc_in (p := 1076) rfl rfl, by decide +kernel, by decide +kernel, hc_in (p := 102) (by decide +kernel) rfl, by decide +kernel, by decide +kernel, by decide +kernel, by decide +kernel, by decide +kernel⟩
set_option maxRecDepth 1000000 in
theorem hm_ok133 : hc_MOK hm_m133 := ⟨hc_in (p := 1293) rfl rfl, by decide +kernel, by decide +kernel, hc_in (p := 102) (by decide +kernel) rfl, by decide +kernel, by decide +kernel, by decide +kernel, by decide +kernel, by decide +kernel⟩
set_option maxRecDepth 1000000 in
theorem hm_ok134 : hc_MOK hm_m134 := ⟨hc_in (p := 1297) rfl rfl, by decide +kernel, by decide +kernel, hc_in (p := 102) (by decide +kernel) rfl, by decide +kernel, by decide +kernel, by decide +kernel, by decide +kernel, by decide +kernel⟩
set_option maxRecDepth 1000000 in
theorem hm_ok135 : hc_MOK hm_m135 := ⟨hc_in (p := 1301) rfl rfl, by decide +kernel, by decide +kernel, hc_in (p := 102) (by decide +kernel) rfl, by decide +kernel, by decide +kernel, by decide +kernel, by decide +kernel, by decide +kernel⟩
set_option maxRecDepth 1000000 in
theorem hm_ok136 : hc_MOK hm_m136 := ⟨hc_in (p := 1313) rfl rfl, by decide +kernel, by decide +kernel, hc_in (p := 102) (by decide +kernel) rfl, by decide +kernel, by decide +kernel, by decide +kernel, by decide +kernel, by decide +kernel⟩
set_option maxRecDepth 1000000 in
theorem hm_ok137 : hc_MOK hm_m137 := ⟨hc_in (p := 1323) rfl rfl, by decide +kernel, by decide +kernel, hc_in (p := 102) (by decide +kernel) rfl, by decide +kernel, by decide +kernel, by decide +kernel, by decide +kernel, by decide +kernel⟩
set_option maxRecDepth 1000000 in
theorem hm_ok138 : hc_MOK hm_m138 := ⟨hc_in (p := 1320) rfl rfl, by decide +kernel, by decide +kernel, hc_in (p := 102) (by decide +kernel) rfl, by decide +kernel, by decide +kernel, by decide +kernel, by decide +kernel, by decide +kernel⟩
set_option maxRecDepth 1000000 in
theorem hm_ok139 : hc_MOK hm_m139 := ⟨hc_in (p := 1087) rfl rfl, by decide +kernel, by decide +kernel, hc_in (p := 102) (by decide +kernel) rfl, by decide +kernel, by decide +kernel, by decide +kernel, by decide +kernel, by decide +kernel⟩
set_option maxRecDepth 1000000 in
theorem hm_ok140 : hc_MOK hm_m140 := ⟨hc_in (p := 1084) rfl rfl, by decide +kernel, by decide +kernel, hc_in (p := 102) (by decide +kernel) rfl, by decide +kernel, by decide +kernel, by decide +kernel, by decide +kernel, by decide +kernel⟩
set_option maxRecDepth 1000000 in
theorem hm_ok141 : hc_MOK hm_m141 := ⟨hc_in (p := 1317) rfl rfl, by decide +kernel, by decide +kernel, hc_in (p := 102) (by decide +kernel) rfl, by decide +kernel, by decide +kernel, by decide +kernel, by decide +kernel, by decide +kernel⟩
set_option maxRecDepth 1000000 in
theorem hm_ok142 : hc_MOK hm_m142 := ⟨hc_in (p := 1309) rfl rfl, by decide +kernel, by decide +kernel, hc_in (p := 102) (by decide +kernel) rfl, by decide +kernel, by decide +kernel, by decide +kernel, by decide +kernel, by decide +kernel⟩
