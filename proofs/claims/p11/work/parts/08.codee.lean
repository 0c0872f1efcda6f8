set_option maxRecDepth 1000000 in
theorem hm_ok143 : hc_MOK hm_m143 := ⟨hc_in (p := 1327) rfl rfl, by decide +kernel, by decide +kernel, hc_in (p := 102) (by decide +kernel) rfl, by decide +kernel, by decide +kernel, by decide +kernel, by decide +kernel, by decide +kernel⟩
set_option maxRecDepth 1000000 in
theorem hm_ok144 : hc_MOK hm_m144 := ⟨hc_in (p := 1331) rfl rfl, by decide +kernel, by decide +kernel, hc_in (p := 102) (by decide +kernel) rfl, by decide +kernel, by decide +kernel, by decide +kernel, by decide +kernel, by decide +kernel⟩
set_option maxRecDepth 1000000 in
theorem hm_ok145 : hc_MOK hm_m145 := ⟨hc_in (p := 1343) rfl rfl, by decide +kernel, by decide +kernel, hc_in (p := 102) (by decide +kernel) rfl, by decide +kernel, by decide +kernel, by decide +kernel, by decide +kernel, by decide +kernel⟩
set_option maxRecDepth 1000000 in
theorem hm_ok146 : hc_MOK hm_m146 := ⟨hc_in (p := 1359) rfl rfl, by decide +kernel, by decide +kernel, hc_in (p := 102) (by decide +kernel) rfl, by decide +kernel, by decide +kernel, by decide +kernel, by decide +kernel, by decide +kernel⟩
set_option maxRecDepth 1000000 in
theorem hm_ok147 : hc_MOK hm_m147 := ⟨hc_in (p := 1347) rfl rfl, by decide +kernel, by decide +kernel, hc_in (p := 102) (by decide +kernel) rfl, by decide +kernel, by decide +kernel, by decide +kernel, by decide +kernel, by decide +kernel⟩
set_option maxRecDepth 1000000 in
theorem hm_ok148 : hc_MOK hm_m148 := ⟨hc_in (p := 1355) rfl rfl, by decide +kernel, by decide +kernel, hc_in (p := 102) (by decide +kernel) rfl, by decide +kernel, by decide +kernel, by decide +kernel, by decide +kernel, by decide +kernel⟩
set_option maxRecDepth 1000000 in
theorem hm_ok149 : hc_MOK hm_m149 := ⟨hc_in (p := 1081) rfl rfl, by decide +kernel, by decide +kernel, hc_in (p := 102) (by decide +kernel) rfl, by decide +kernel, by decide +kernel, by decide +kernel, by decide +kernel, by decide +kernel⟩
set_option maxRecDepth 1000000 in
theorem hm_ok150 : hc_MOK hm_m150 := ⟨hc_in (p := 1305) rfl rfl, by decide +kernel, by decide +kernel, hc_in (p := 102) (by decide +kernel) rfl, by decide +kernel, by decide +kernel, by decide +kernel, by decide +kernel, by decide +kernel⟩
set_option maxRecDepth 1000000 in
theorem hm_ok151 : hc_MOK hm_m151 := ⟨hc_in (p := 1395) rfl rfl, by decide +kernel, by decide +kernel, hc_in (p := 102) (by decide +kernel) rfl, by decide +kernel, by decide +kernel, by decide +kernel, by decide +kernel, by decide +kernel⟩
set_option maxRecDepth 1000000 in
theorem hm_ok152 : hc_MOK hm_m152 := ⟨hc_in (p := 1339) rfl rfl, by decide +kernel, by decide +kernel, hc_in (p := 102) (by decide +kernel) rfl, by decide +kernel, by decide +kernel, by decide +kernel, by decide +kernel, by decide +kernel⟩
set_option maxRecDepth 1000000 in
theorem hm_ok153 : hc_MOK hm_m153 := ⟨hc_in (p := 1367) rfl rfl, by decide +kernel, by decide +kernel, hc_in (p := 102) (by decide +kernel) rfl, by decide +kernel, by decide +kernel, by decide +kernel, by decide +kernel, by decide +kernel⟩
set_option maxRecDepth 1000000 in
theorem hm_ok154 : hc_MOK hm_m154 := ⟨hc_in (p := 1335) rfl rfl, by decide +kernel, by decide +kernel, hc_in (p := 102) (by decide +kernel) rfl, by decide +kernel, by decide +kernel, by decide +kernel, by decide +kernel, by decide +kernel⟩
set_option maxRecDepth 1000000 in
theorem hm_ok155 : hc_MOK hm_m155 := ⟨hc_in (p := 1363) rfl rfl, by decide +kernel, by decide +kernel, hc_in (p := 102) (by decide +kernel) rfl, by decide +kernel, by decide +kernel, by decide +kernel, by decide +kernel, by decide +kernel⟩
set_option maxRecDepth 1000000 in
theorem hm_ok156 : hc_MOK hm_m156 := ⟨hc_in (p := 1351) rfl rfl, by decide +kernel, by decide +kernel, hc_in (p := 102) (by decide +kernel) rfl, by decide +kernel, by decide +kernel, by decide +kernel, by decide +kernel, by decide +kernel⟩
set_option maxRecDepth 1000000 in
theorem hm_ok157 : hc_MOK hm_m157 := ⟨hc_in (p := 1371) rfl rfl, by decide +kernel, by decide +kernel, hc_in (p := 102) (by decide +kernel) rfl, by decide +kernel, by decide +kernel, by decide +kernel, by decide +kernel, by decide +kernel⟩
set_option maxRecDepth 1000000 in
theorem hm_ok158 : hc_MOK hm_m158 := ⟨hc_in (p := 1391) rfl rfl, by decide +kernel, by decide +kernel, hc_in (p := 102) (by decide +kernel) rfl, by decide +kernel, by decide +kernel, by decide +kernel, by decide +kernel, by decide +kernel⟩
set_option maxRecDepth 1000000 in
theorem hm_ok159 : hc_MOK hm_m159 := ⟨hc_in (p := 1383) rfl rfl, by decide +kernel, by decide +kernel, hc_in (p := 102) (by decide +kernel) rfl, by decide +kernel, by decide +kernel, by decide +kernel, by decide +kernel, by decide +kernel⟩
set_option maxRecDepth 1000000 in
theorem hm_ok160 : hc_MOK hm_m160 := ⟨hc_in (p := 1387) rfl rfl, by decide +kernel, by decide +kernel, hc_in (p := 102) (by decide +kernel) rfl, by decide +kernel, by decide +kernel, by decide +kernel, by decide +kernel, by decide +kernel⟩
set_option maxRecDepth 1000000 in
theorem hm_ok161 : hc_MOK hm_m161 := ⟨hc_in (p := 1375) rfl rfl, by decide +kernel, by decide +kernel, hc_in (p := 102) (by decide +kernel) rfl, by decide +kernel, by decide +kernel, by decide +kernel, by decide +kernel, by decide +kernel⟩
set_option maxRecDepth 1000000 in
theorem hm_ok162 : hc_MOK hm_m162 := ⟨hc_in (p := 1379) rfl rfl, by decide +kernel, by decide +kernel, hc_in (p := 102) (by decide +kernel) rfl, by decide +kernel, by decide +kernel, by decide +kernel, by decide +kernel, by decide +kernel⟩
set_option maxRecDepth 1000000 in
theorem hm_ok163 : hc_MOK hm_m163 := ⟨hc_in (p := 1429) rfl rfl, by decide +kernel, by decide +kernel, hc_in (p := 102) (by decide +kernel) rfl, by decide +kernel, by decide +kernel, by decide +kernel, by decide +kernel, by decide +kernel⟩
set_option maxRecDepth 1000000 in
theorem hm_ok164 : hc_MOK hm_m164 := ⟨hc_in (p := 1406) rfl rfl, by decide +kernel, by decide +kernel, hc_in (p := 102) (by decide +kernel) rfl, by decide +kernel, by decide +kernel, by decide +kernel, by decide +kernel, by decide +kernel⟩
set_option maxRecDepth 1000000 in
theorem hm_ok165 : hc_MOK hm_m165 := ⟨hc_in (p := 1432) rfl rfl, by decide +kernel, by decide +kernel, hc_in (p := 102) (by decide +kernel) rfl, by decide +kernel, by decide +kernel, by decide +kernel, by decide +kernel, by decide +kernel⟩
set_option maxRecDepth 1000000 in
theorem hm_ok166 : hc_MOK hm_m166 := ⟨hc_in (p := 1413) rfl rfl, by decide +kernel, by decide +kernel, hc_in (p := 102) (by decide +kernel) rfl, by decide +kernel, by decide +kernel, by decide +kernel, by decide +kernel, by decide +kernel⟩
set_option maxRecDepth 1000000 in
theorem hm_ok167 : hc_MOK hm_m167 := ⟨hc_in (p := 1403) rfl rfl, by decide +kernel, by decide +kernel, hc_in (p := 102) (by decide +kernel) rfl, by decide +kernel, by decide +kernel, by decide +kernel, by decide +kernel, by decide +kernel⟩
set_option maxRecDepth 1000000 in
theorem hm_ok168 : hc_MOK hm_m168 := ⟨hc_in (p := 1447) rfl rfl, by decide +kernel, by decide +kernel, hc_in (p := 102) (by decide +kernel) rfl, by decide +kernel, by decide +kernel, by decide +kernel, by decide +kernel, by decide +kernel⟩
set_option maxRecDepth 1000000 in
theorem hm_ok169 : hc_MOK hm_m169 := ⟨hc_in (p := 1092) rfl rfl, by decide +kernel, by decide +kernel, hc_in (p := 102) (by decide +kernel) rfl, by decide +kernel, by decide +kernel, by decide +kernel, by decide +kernel, by decide +kernel⟩
set_option maxRecDepth 1000000 in
theorem hm_ok170 : hc_MOK hm_m170 := ⟨hc_in (p := 1096) rfl rfl, by decide +kernel, by decide +kernel, hc_in (p := 102) (by decide +kernel) rfl, by decide +kernel, by decide +kernel, by decide +kernel, by decide +kernel, by decide +kernel⟩
set_option maxRecDepth 1000000 in
theorem hm_ok171 : hc_MOK hm_m171 := ⟨hc_in (p := 1410) rfl rfl, by decide +kernel, by decide +kernel, hc_in (p := 102) (by decide +kernel) rfl, by decide +kernel, by decide +kernel, by decide +kernel, by decide +kernel, by decide +kernel⟩
set_option maxRecDepth 1000000 in
theorem hm_ok172 : hc_MOK hm_m172 := ⟨hc_in (p := 1601) rfl rfl, by decide +kernel, by decide +kernel, hc_in (p := 102) (by decide +kernel) rfl, by decide +kernel, by decide +kernel, by decide +kernel, by decide +kernel, by decide +kernel⟩
set_option maxRecDepth 1000000 in
theorem hm_ok173 : hc_MOK hm_m173 := ⟨hc_in (p := 1509) rfl rfl, by decide +kernel, by decide +kernel, hc_in (p := 102) (by decide +kernel) rfl, by decide +kernel, by decide +kernel, by decide +kernel, by decide +kernel, by decide +kernel⟩
set_option maxRecDepth 1000000 in
theorem hm_ok174 : hc_MOK hm_m174 := ⟨hc_in (p := 1506) rfl rfl, by decide +kernel, by decide +kernel, hc_in (p := 102) (by decide +kernel) rfl, by decide +kernel, by decide +kernel, by decide +kernel, by decide +kernel, by decide +kernel⟩
set_option maxRecDepth 1000000 in
theorem hm_ok175 : hc_MOK hm_m175 := ⟨hc_in (p := 1421) rfl rfl, by decide +kernel, by decide +kernel, hc_in (p := 102) (by decide +kernel) rfl, by decide +kernel, by decide +kernel, by decide +kernel, by decide +kernel, by decide +kernel⟩
