set_option maxRecDepth 1000000 in
theorem hm_ok135 : hc_MOK hm_m135 := ⟨hc_in (p := 1301) rfl rfl, by decide +kernel, by decide +kernel, hc_in (p := 102) (by decide +kernel) rfl, by decide +kernel, by decide +kernel, hf_rws_ok (by decide +kernel), by decide +kernel, by decide +kernel⟩
set_option maxRecDepth 1000000 in
theorem hm_ok136 : hc_MOK hm_m136 := ⟨hc_in (p := 1313) rfl rfl, by decide +kernel, by decide +kernel, hc_in (p := 102) (by decide +kernel) rfl, by decide +kernel, by decide +kernel, hf_rws_ok (by decide +kernel), by decide +kernel, by decide +kernel⟩
set_option maxRecDepth 1000000 in
theorem hm_ok137 : hc_MOK hm_m137 := ⟨hc_in (p := 1323) rfl rfl, by decide +kernel, by decide +kernel, hc_in (p := 102) (by decide +kernel) rfl, by decide +kernel, by decide +kernel, hf_rws_ok (by decide +kernel), by decide +kernel, by decide +kernel⟩
set_option maxRecDepth 1000000 in
theorem hm_ok138 : hc_MOK hm_m138 := ⟨hc_in (p := 1320) rfl rfl, by decide +kernel, by decide +kernel, hc_in (p := 102) (by decide +kernel) rfl, by decide +kernel, by decide +kernel, hf_rws_ok (by decide +kernel), by decide +kernel, by decide +kernel⟩
set_option maxRecDepth 1000000 in
theorem hm_ok139 : hc_MOK hm_m139 := ⟨hc_in (p := 1087) rfl rfl, by decide +kernel, by decide +kernel, hc_in (p := 102) (by decide +kernel) rfl, by decide +kernel, by decide +kernel, hf_rws_ok (by decide +kernel), by decide +kernel, by decide +kernel⟩
set_option maxRecDepth 1000000 in
theorem hm_ok140 : hc_MOK hm_m140 := ⟨hc_in (p := 1084) rfl rfl, by decide +kernel, by decide +kernel, hc_in (p := 102) (by decide +kernel) rfl, by decide +kernel, by decide +kernel, hf_rws_ok (by decide +kernel), by decide +kernel, by decide +kernel⟩
set_option maxRecDepth 1000000 in
theorem hm_ok141 : hc_MOK hm_m141 := ⟨hc_in (p := 1317) rfl rfl, by decide +kernel, by decide +kernel, hc_in (p := 102) (by decide +kernel) rfl, by decide +kernel, by decide +kernel, hf_rws_ok (by decide +kernel), by decide +kernel, by decide +kernel⟩
set_option maxRecDepth 1000000 in
theorem hm_ok142 : hc_MOK hm_m142 := ⟨hc_in (p := 1309) rfl rfl, by decide +kernel, by decide +kernel, hc_in (p := 102) (by decide +kernel) rfl, by decide +kernel, by decide +kernel, hf_rws_ok (by decide +kernel), by decide +kernel, by decide +kernel⟩
set_option maxRecDepth 1000000 in
theorem hm_ok143 : hc_MOK hm_m143 := ⟨hc_in (p := 1327) rfl rfl, by decide +kernel, by decide +kernel, hc_in (p := 102) (by decide +kernel) rfl, by decide +kernel, by decide +kernel, hf_rws_ok (by decide +kernel), by decide +kernel, by decide +kernel⟩
set_option maxRecDepth 1000000 in
theorem hm_ok144 : hc_MOK hm_m144 := ⟨hc_in (p := 1331) rfl rfl, by decide +kernel, by decide +kernel, hc_in (p := 102) (by decide +kernel) rfl, by decide +kernel, by decide +kernel, hf_rws_ok (by decide +kernel), by decide +kernel, by decide +kernel⟩
set_option maxRecDepth 1000000 in
theorem hm_ok145 : hc_MOK hm_m145 := ⟨hc_in (p := 1343) rfl rfl, by decide +kernel, by decide +kernel, hc_in (p := 102) (by decide +kernel) rfl, by decide +kernel, by decide +kernel, hf_rws_ok (by decide +kernel), by decide +kernel, by decide +kernel⟩
set_option maxRecDepth 1000000 in
theorem hm_ok146 : hc_MOK hm_m146 := ⟨hc_in (p := 1359) rfl rfl, by decide +kernel, by decide +kernel, hc_in (p := 102) (by decide +kernel) rfl, by decide +kernel, by decide +kernel, hf_rws_ok (by decide +kernel), by decide +kernel, by decide +kernel⟩
set_option maxRecDepth 1000000 in
theorem hm_ok147 : hc_MOK hm_m147 := ⟨hc_in (p := 1347) rfl rfl, by decide +kernel, by decide +kernel, hc_in (p := 102) (by decide +kernel) rfl, by decide +kernel, by decide +kernel, hf_rws_ok (by decide +kernel), by decide +kernel, by decide +kernel⟩
set_option maxRecDepth 1000000 in
theorem hm_ok148 : hc_MOK hm_m148 := ⟨hc_in (p := 1355) rfl rfl, by decide +kernel, by decide +kernel, hc_in (p := 102) (by decide +kernel) rfl, by decide +kernel, by decide +kernel, hf_rws_ok (by decide +kernel), by decide +kernel, by decide +kernel⟩
set_option maxRecDepth 1000000 in
theorem hm_ok149 : hc_MOK hm_m149 := ⟨hc_in (p := 1081) rfl rfl, by decide +kernel, by decide +kernel, hc_in (p := 102) (by decide +kernel) rfl, by decide +kernel, by decide +kernel, hf_rws_ok (by decide +kernel), by decide +kernel, by decide +kernel⟩
set_option maxRecDepth 1000000 in
theorem hm_ok150 : hc_MOK hm_m150 := ⟨hc_in (p := 1305) rfl rfl, by decide +kernel, by decide +kernel, hc_in (p := 102) (by decide +kernel) rfl, by decide +kernel, by decide +kernel, hf_rws_ok (by decide +kernel), by decide +kernel, by decide +kernel⟩
set_option maxRecDepth 1000000 in
theorem hm_ok151 : hc_MOK hm_m151 := ⟨hc_in (p := 1395) rfl rfl, by decide +kernel, by decide +kernel, hc_in (p := 102) (by decide +kernel) rfl, by decide +kernel, by decide +kernel, hf_rws_ok (by decide +kernel), by decide +kernel, by decide +kernel⟩
set_option maxRecDepth 1000000 in
theorem hm_ok152 : hc_MOK hm_m152 := ⟨hc_in (p := 1339) rfl rfl, by decide +kernel, by decide +kernel, hc_in (p := 102) (by decide +kernel) rfl, by decide +kernel, by decide +kernel, hf_rws_ok (by decide +kernel), by decide +kernel, by decide +kernel⟩
set_option maxRecDepth 1000000 in
theorem hm_ok153 : hc_MOK hm_m153 := ⟨hc_in (p := 1367) rfl rfl, by decide +kernel, by decide +kernel, hc_in (p := 102) (by decide +kernel) rfl, by decide +kernel, by decide +kernel, hf_rws_ok (by decide +kernel), by decide +kernel, by decide +kernel⟩
set_option maxRecDepth 1000000 in
theorem hm_ok154 : hc_MOK hm_m154 := ⟨hc_in (p := 1335) rfl rfl, by decide +kernel, by decide +kernel, hc_in (p := 102) (by decide +kernel) rfl, by decide +kernel, by decide +kernel, hf_rws_ok (by decide +kernel), by decide +kernel, by decide +kernel⟩
set_option maxRecDepth 1000000 in
theorem hm_ok155 : hc_MOK hm_m155 := ⟨hc_in (p := 1363) rfl rfl, by decide +kernel, by decide +kernel, hc_in (p := 102) (by decide +kernel) rfl, by decide +kernel, by decide +kernel, hf_rws_ok (by decide +kernel), by decide +kernel, by decide +kernel⟩
set_option maxRecDepth 1000000 in
theorem hm_ok156 : hc_MOK hm_m156 := ⟨hc_in (p := 1351) rfl rfl, by decide +kernel, by decide +kernel, hc_in (p := 102) (by decide +kernel) rfl, by decide +kernel, by decide +kernel, hf_rws_ok (by decide +kernel), by decide +kernel, by decide +kernel⟩
set_option maxRecDepth 1000000 in
theorem hm_ok157 : hc_MOK hm_m157 := ⟨hc_in (p := 1371) rfl rfl, by decide +kernel, by decide +kernel, hc_in (p := 102) (by decide +kernel) rfl, by decide +kernel, by decide +kernel, hf_rws_ok (by decide +kernel), by decide +kernel, by decide +kernel⟩
set_option maxRecDepth 1000000 in
theorem hm_ok158 : hc_MOK hm_m158 := ⟨hc_in (p := 1391) rfl rfl, by decide +kernel, by decide +kernel, hc_in (p := 102) (by decide +kernel) rfl, by decide +kernel, by decide +kernel, hf_rws_ok (by decide +kernel), by decide +kernel, by decide +kernel⟩
set_option maxRecDepth 1000000 in
theorem hm_ok159 : hc_MOK hm_m159 := ⟨hc_in (p := 1383) rfl rfl, by decide +kernel, by decide +kernel, hc_in (p := 102) (by decide +kernel) rfl, by decide +kernel, by decide +kernel, hf_rws_ok (by decide +kernel), by decide +kernel, by decide +kernel⟩
set_option maxRecDepth 1000000 in
theorem hm_ok160 : hc_MOK hm_m160 := ⟨hc_in (p := 1387) rfl rfl, by decide +kernel, by decide +kernel, hc_in (p := 102) (by decide +kernel) rfl, by decide +kernel, by decide +kernel, hf_rws_ok (by decide +kernel), by decide +kernel, by decide +kernel⟩
set_option maxRecDepth 1000000 in
theorem hm_ok161 : hc_MOK hm_m161 := ⟨hc_in (p := 1375) rfl rfl, by decide +kernel, by decide +kernel, hc_in (p := 102) (by decide +kernel) rfl, by decide +kernel, by decide +kernel, hf_rws_ok (by decide +kernel), by decide +kernel, by decide +kernel⟩
set_option maxRecDepth 1000000 in
theorem hm_ok162 : hc_MOK hm_m162 := ⟨hc_in (p := 1379) rfl rfl, by decide +kernel, by decide +kernel, hc_in (p := 102) (by decide +kernel) rfl, by decide +kernel, by decide +kernel, hf_rws_ok (by decide +kernel), by decide +kernel, by decide +kernel⟩
set_option maxRecDepth 1000000 in
theorem hm_ok163 : hc_MOK hm_m163 := ⟨hc_in (p := 1429) rfl rfl, by decide +kernel, by decide +kernel, hc_in (p := 102) (by decide +kernel) rfl, by decide +kernel, by decide +kernel, hf_rws_ok (by decide +kernel), by decide +kernel, by decide +kernel⟩
set_option maxRecDepth 1000000 in
theorem hm_ok164 : hc_MOK hm_m164 := ⟨hc_in (p := 1406) rfl rfl, by decide +kernel, by decide +kernel, hc_in (p := 102) (by decide +kernel) rfl, by decide +kernel, by decide +kernel, hf_rws_ok (by decide +kernel), by decide +kernel, by decide +kernel⟩
set_option maxRecDepth 1000000 in
theorem hm_ok165 : hc_MOK hm_m165 := ⟨hc_in (p := 1432) rfl rfl, by decide +kernel, by decide +kernel, hc_in (p := 102) (by decide +kernel) rfl, by decide +kernel, by decide +kernel, hf_rws_ok (by decide +kernel), by decide +kernel, by decide +kernel⟩
set_option maxRecDepth 1000000 in
theorem hm_ok166 : hc_MOK hm_m166 := ⟨hc_in (p := 1413) rfl rfl, by decide +kernel, by decide +kernel, hc_in (p := 102) (by decide +kernel) rfl, by decide +kernel, by decide +kernel, hf_rws_ok (by decide +kernel), by decide +kernel, by decide +kernel⟩
set_option maxRecDepth 1000000 in
theorem hm_ok167 : hc_MOK hm_m167 := ⟨hc_in (p := 1403) rfl rfl, by decide +kernel, by decide +kernel, hc_in (p := 102) (by decide +kernel) rfl, by decide +kernel, by decide +kernel, hf_rws_ok (by decide +kernel), by decide +kernel, by decide +kernel⟩
set_option maxRecDepth 1000000 in
theorem hm_ok168 : hc_MOK hm_m168 := ⟨hc_in (p := 1447) rfl rfl, by decide +kernel, by decide +kernel, hc_in (p := 102) (by decide +kernel) rfl, by decide +kernel, by decide +kernel, hf_rws_ok (by decide +kernel), by decide +kernel, by decide +kernel⟩
set_option maxRecDepth 1000000 in
theorem hm_ok169 : hc_MOK hm_m169 := ⟨hc_in (p := 1092) rfl rfl, by decide +kernel, by decide +kernel, hc_in (p := 102) (by decide +kernel) rfl, by decide +kernel, by decide +kernel, hf_rws_ok (by decide +kernel), by decide +kernel, by decide +kernel⟩
set_option maxRecDepth 1000000 in
theorem hm_ok170 : hc_MOK hm_m170 := ⟨hc_in (p := 1096) rfl rfl, by decide +kernel, by decide +kernel, hc_in (p := 102) (by decide +kernel) rfl, by decide +kernel, by decide +kernel, hf_rws_ok (by decide +kernel), by decide +kernel, by decide +kernel⟩
set_option maxRecDepth 1000000 in
theorem hm_ok171 : hc_MOK hm_m171 := ⟨hc_in (p := 1410) rfl rfl, by decide +kernel, by decide +kernel, hc_in (p := 102) (by decide +kernel) rfl, by decide +kernel, by decide +kernel, hf_rws_ok (by decide +kernel), by decide +kernel, by decide +kernel⟩
set_option maxRecDepth 1000000 in
theorem hm_ok172 : hc_MOK hm_m172 := ⟨hc_in (p := 1601) rfl rfl, by decide +kernel, by decide +kernel, hc_in (p := 102) (by decide +kernel) rfl, by decide +kernel, by decide +kernel, hf_rws_ok (by decide +kernel), by decide +kernel, by decide +kernel⟩
set_option maxRecDepth 1000000 in
theorem hm_ok173 : hc_MOK hm_m173 := ⟨hc_in (p := 1509) rfl rfl, by decide +kernel, by decide +kernel, hc_in (p := 102) (by decide +kernel) rfl, by decide +kernel, by decide +kernel, hf_rws_ok (by decide +kernel), by decide +kernel, by decide +kernel⟩
set_option maxRecDepth 1000000 in
theorem hm_ok174 : hc_MOK hm_m174 := ⟨hc_in (p := 1506) rfl rfl, by decide +kernel, by decide +kernel, hc_in (p := 102) (by decide +kernel) rfl, by decide +kernel, by decide +kernel, hf_rws_ok (by decide +kernel), by decide +kernel, by decide +kernel⟩
set_option maxRecDepth 1000000 in
theorem hm_ok175 : hc_MOK hm_m175 := ⟨hc_in (p := 1421) rfl rfl, by decide +kernel, by decide +kernel, hc_in (p := 102) (by decide +kernel) rfl, by decide +kernel, by decide +kernel, hf_rws_ok (by decide +kernel), by decide +kernel, by decide +kernel⟩
set_option maxRecDepth 1000000 in
theorem hm_ok176 : hc_MOK hm_m176 := ⟨hc_in (p := 1425) rfl rfl, by decide +kernel, by decide +kernel, hc_in (p := 102) (by decide +kernel) rfl, by decide +kernel, by decide +kernel, hf_rws_ok (by decide +kernel), by decide +kernel, by decide +kernel⟩
set_option maxRecDepth 1000000 in
theorem hm_ok177 : hc_MOK hm_m177 := ⟨hc_in (p := 1455) rfl rfl, by decide +kernel, by decide +kernel, hc_in (p := 102) (by decide +kernel) rfl, by decide +kernel, by decide +kernel, hf_rws_ok (by decide +kernel), by decide +kernel, by decide +kernel⟩
set_option maxRecDepth 1000000 in
theorem hm_ok178 : hc_MOK hm_m178 := ⟨hc_in (p := 1417) rfl rfl, by decide +kernel, by decide +kernel, hc_in (p := 102) (by decide +kernel) rfl, by decide +kernel, by decide +kernel, hf_rws_ok (by decide +kernel), by decide +kernel, by decide +kernel⟩
set_option maxRecDepth 1000000 in
theorem hm_ok179 : hc_MOK hm_m179 := ⟨hc_in (p := 1436) rfl rfl, by decide +kernel, by decide +kernel, hc_in (p := 102) (by decide +kernel) rfl, by decide +kernel, by decide +kernel, hf_rws_ok (by decide +kernel), by decide +kernel, by decide +kernel⟩
set_option maxRecDepth 1000000 in
theorem hm_ok180 : hc_MOK hm_m180 := ⟨hc_in (p := 1440) rfl rfl, by decide +kernel, by decide +kernel, hc_in (p := 102) (by decide +kernel) rfl, by decide +kernel, by decide +kernel, hf_rws_ok (by decide +kernel), by decide +kernel, by decide +kernel⟩
set_option maxRecDepth 1000000 in
theorem hm_ok181 : hc_MOK hm_m181 := ⟨hc_in (p := 1451) rfl rfl, by decide +kernel, by decide +kernel, hc_in (p := 102) (by decide +kernel) rfl, by decide +kernel, by decide +kernel, hf_rws_ok (by decide +kernel), by decide +kernel, by decide +kernel⟩
set_option maxRecDepth 1000000 in
theorem hm_ok182 : hc_MOK hm_m182 := ⟨hc_in (p := 1498) rfl rfl, by decide +kernel, by decide +kernel, hc_in (p := 102) (by decide +kernel) rfl, by decide +kernel, by decide +kernel, hf_rws_ok (by decide +kernel), by decide +kernel, by decide +kernel⟩
set_option maxRecDepth 1000000 in
theorem hm_ok183 : hc_MOK hm_m183 := ⟨hc_in (p := 1502) rfl rfl, by decide +kernel, by decide +kernel, hc_in (p := 102) (by decide +kernel) rfl, by decide +kernel, by decide +kernel, hf_rws_ok (by decide +kernel), by decide +kernel, by decide +kernel⟩
set_option maxRecDepth 1000000 in
theorem hm_ok184 : hc_MOK hm_m184 := ⟨hc_in (p := 1494) rfl rfl, by decide +kernel, by decide +kernel, hc_in (p := 102) (by decide +kernel) rfl, by decide +kernel, by decide +kernel, hf_rws_ok (by decide +kernel), by decide +kernel, by decide +kernel⟩
set_option maxRecDepth 1000000 in
theorem hm_ok185 : hc_MOK hm_m185 := ⟨hc_in (p := 1490) rfl rfl, by decide +kernel, by decide +kernel, hc_in (p := 102) (by decide +kernel) rfl, by decide +kernel, by decide +kernel, hf_rws_ok (by decide +kernel), by decide +kernel, by decide +kernel⟩
set_option maxRecDepth 1000000 in
theorem hm_ok186 : hc_MOK hm_m186 := ⟨hc_in (p := 1625) rfl rfl, by decide +kernel, by decide +kernel, hc_in (p := 102) (by decide +kernel) rfl, by decide +kernel, by decide +kernel, hf_rws_ok (by decide +kernel), by decide +kernel, by decide +kernel⟩
set_option maxRecDepth 1000000 in
theorem hm_ok187 : hc_MOK hm_m187 := ⟨hc_in (p := 1621) rfl rfl, by decide +kernel, by decide +kernel, hc_in (p := 102) (by decide +kernel) rfl, by decide +kernel, by decide +kernel, hf_rws_ok (by decide +kernel), by decide +kernel, by decide +kernel⟩
set_option maxRecDepth 1000000 in
theorem hm_ok188 : hc_MOK hm_m188 := ⟨hc_in (p := 1399) rfl rfl, by decide +kernel, by decide +kernel, hc_in (p := 102) (by decide +kernel) rfl, by decide +kernel, by decide +kernel, hf_rws_ok (by decide +kernel), by decide +kernel, by decide +kernel⟩
set_option maxRecDepth 1000000 in
theorem hm_ok189 : hc_MOK hm_m189 := ⟨hc_in (p := 1444) rfl rfl, by decide +kernel, by decide +kernel, hc_in (p := 102) (by decide +kernel) rfl, by decide +kernel, by decide +kernel, hf_rws_ok (by decide +kernel), by decide +kernel, by decide +kernel⟩
set_option maxRecDepth 1000000 in
theorem hm_ok190 : hc_MOK hm_m190 := ⟨hc_in (p := 1463) rfl rfl, by decide +kernel, by decide +kernel, hc_in (p := 102) (by decide +kernel) rfl, by decide +kernel, by decide +kernel, hf_rws_ok (by decide +kernel), by decide +kernel, by decide +kernel⟩
set_option maxRecDepth 1000000 in
theorem hm_ok191 : hc_MOK hm_m191 := ⟨hc_in (p := 1459) rfl rfl, by decide +kernel, by decide +kernel, hc_in (p := 102) (by decide +kernel) rfl, by decide +kernel, by decide +kernel, hf_rws_ok (by decide +kernel), by decide +kernel, by decide +kernel⟩
set_option maxRecDepth 1000000 in
theorem hm_ok192 : hc_MOK hm_m192 := ⟨hc_in (p := 1467) rfl rfl, by decide +kernel, by decide +kernel, hc_in (p := 102) (by decide +kernel) rfl, by decide +kernel, by decide +kernel, hf_rws_ok (by decide +kernel), by decide +kernel, by decide +kernel⟩
set_option maxRecDepth 1000000 in
theorem hm_ok193 : hc_MOK hm_m193 := ⟨hc_in (p := 1471) rfl rfl, by decide +kernel, by decide +kernel, hc_in (p := 102) (by decide +kernel) rfl, by decide +kernel, by decide +kernel, hf_rws_ok (by decide +kernel), by decide +kernel, by decide +kernel⟩
set_option maxRecDepth 1000000 in
theorem hm_ok194 : hc_MOK hm_m194 := ⟨hc_in (p := 1479) rfl rfl, by decide +kernel, by decide +kernel, hc_in (p := 102) (by decide +kernel) rfl, by decide +kernel, by decide +kernel, hf_rws_ok (by decide +kernel), by decide +kernel, by decide +kernel⟩
set_option maxRecDepth 1000000 in
theorem hm_ok195 : hc_MOK hm_m195 := ⟨hc_in (p := 1475) rfl rfl, by decide +kernel, by decide +kernel, hc_in (p := 102) (by decide +kernel) rfl, by decide +kernel, by decide +kernel, hf_rws_ok (by decide +kernel), by decide +kernel, by decide +kernel⟩
set_option maxRecDepth 1000000 in
theorem hm_ok196 : hc_MOK hm_m196 := ⟨hc_in (p := 1486) rfl rfl, by decide +kernel, by decide +kernel, hc_in (p := 102) (by decide +kernel) rfl, by decide +kernel, by decide +kernel, hf_rws_ok (by decide +kernel), by decide +kernel, by decide +kernel⟩
set_option maxRecDepth 1000000 in
theorem hm_ok197 : hc_MOK hm_m197 := ⟨hc_in (p := 1597) rfl rfl, by decide +kernel, by decide +kernel, hc_in (p := 102) (by decide +kernel) rfl, by decide +kernel, by decide +kernel, hf_rws_ok (by decide +kernel), by decide +kernel, by decide +kernel⟩
set_option maxRecDepth 1000000 in
theorem hm_ok198 : hc_MOK hm_m198 := ⟨hc_in (p := 1483) rfl rfl, by decide +kernel, by decide +kernel, hc_in (p := 102) (by decide +kernel) rfl, by decide +kernel, by decide +kernel, hf_rws_ok (by decide +kernel), by decide +kernel, by decide +kernel⟩
set_option maxRecDepth 1000000 in
theorem hm_ok199 : hc_MOK hm_m199 := ⟨hc_in (p := 1514) rfl rfl, by decide +kernel, by decide +kernel, hc_in (p := 102) (by decide +kernel) rfl, by decide +kernel, by decide +kernel, hf_rws_ok (by decide +kernel), by decide +kernel, by decide +kernel⟩
set_option maxRecDepth 1000000 in
theorem hm_ok200 : hc_MOK hm_m200 := ⟨hc_in (p := 1530) rfl rfl, by decide +kernel, by decide +kernel, hc_in (p := 102) (by decide +kernel) rfl, by decide +kernel, by decide +kernel, hf_rws_ok (by decide +kernel), by decide +kernel, by decide +kernel⟩
set_option maxRecDepth 1000000 in
theorem hm_ok201 : hc_MOK hm_m201 := ⟨hc_in (p := 1526) rfl rfl, by decide +kernel, by decide +kernel, hc_in (p := 102) (by decide +kernel) rfl, by decide +kernel, by decide +kernel, hf_rws_ok (by decide +kernel), by decide +kernel, by decide +kernel⟩
set_option maxRecDepth 1000000 in
theorem hm_ok202 : hc_MOK hm_m202 := ⟨hc_in (p := 1522) rfl rfl, by decide +kernel, by decide +kernel, hc_in (p := 102) (by decide +kernel) rfl, by decide +kernel, by decide +kernel, hf_rws_ok (by decide +kernel), by decide +kernel, by decide +kernel⟩
set_option maxRecDepth 1000000 in
theorem hm_ok203 : hc_MOK hm_m203 := ⟨hc_in (p := 1542) rfl rfl, by decide +kernel, by decide +kernel, hc_in (p := 102) (by decide +kernel) rfl, by decide +kernel, by decide +kernel, hf_rws_ok (by decide +kernel), by decide +kernel, by decide +kernel⟩
set_option maxRecDepth 1000000 in
theorem hm_ok204 : hc_MOK hm_m204 := ⟨hc_in (p := 1518) rfl rfl, by decide +kernel, by decide +kernel, hc_in (p := 102) (by decide +kernel) rfl, by decide +kernel, by decide +kernel, hf_rws_ok (by decide +kernel), by decide +kernel, by decide +kernel⟩
set_option maxRecDepth 1000000 in
theorem hm_ok205 : hc_MOK hm_m205 := ⟨hc_in (p := 1534) rfl rfl, by decide +kernel, by decide +kernel, hc_in (p := 102) (by decide +kernel) rfl, by decide +kernel, by decide +kernel, hf_rws_ok (by decide +kernel), by decide +kernel, by decide +kernel⟩
set_option maxRecDepth 1000000 in
theorem hm_ok206 : hc_MOK hm_m206 := ⟨hc_in (p := 1538) rfl rfl, by decide +kernel, by decide +kernel, hc_in (p := 102) (by decide +kernel) rfl, by decide +kernel, by decide +kernel, hf_rws_ok (by decide +kernel), by decide +kernel, by decide +kernel⟩
set_option maxRecDepth 1000000 in
theorem hm_ok207 : hc_MOK hm_m207 := ⟨hc_in (p := 1546) rfl rfl, by decide +kernel, by decide +kernel, hc_in (p := 102) (by decide +kernel) rfl, by decide +kernel, by decide +kernel, hf_rws_ok (by decide +kernel), by decide +kernel, by decide +kernel⟩
set_option maxRecDepth 1000000 in
theorem hm_ok208 : hc_MOK hm_m208 := ⟨hc_in (p := 1550) rfl rfl, by decide +kernel, by decide +kernel, hc_in (p := 102) (by decide +kernel) rfl, by decide +kernel, by decide +kernel, hf_rws_ok (by decide +kernel), by decide +kernel, by decide +kernel⟩
set_option maxRecDepth 1000000 in
theorem hm_ok209 : hc_MOK hm_m209 := ⟨hc_in (p := 1554) rfl rfl, by decide +kernel, by decide +kernel, hc_in (p := 102) (by decide +kernel) rfl, by decide +kernel, by decide +kernel, hf_rws_ok (by decide +kernel), by decide +kernel, by decide +kernel⟩
set_option maxRecDepth 1000000 in
theorem hm_ok210 : hc_MOK hm_m210 := ⟨hc_in (p := 1558) rfl rfl, by decide +kernel, by decide +kernel, hc_in (p := 102) (by decide +kernel) rfl, by decide +kernel, by decide +kernel, hf_rws_ok (by decide +kernel), by decide +kernel, by decide +kernel⟩
set_option maxRecDepth 1000000 in
theorem hm_ok211 : hc_MOK hm_m211 := ⟨hc_in (p := 1562) rfl rfl, by decide +kernel, by decide +kernel, hc_in (p := 102) (by decide +kernel) rfl, by decide +kernel, by decide +kernel, hf_rws_ok (by decide +kernel), by decide +kernel, by decide +kernel⟩
set_option maxRecDepth 1000000 in
theorem hm_ok212 : hc_MOK hm_m212 := ⟨hc_in (p := 1566) rfl rfl, by decide +kernel, by decide +kernel, hc_in (p := 102) (by decide +kernel) rfl, by decide +kernel, by decide +kernel, hf_rws_ok (by decide +kernel), by decide +kernel, by decide +kernel⟩
set_option maxRecDepth 1000000 in
theorem hm_ok213 : hc_MOK hm_m213 := ⟨hc_in (p := 1570) rfl rfl, by decide +kernel, by decide +kernel, hc_in (p := 102) (by decide +kernel) rfl, by decide +kernel, by decide +kernel, hf_rws_ok (by decide +kernel), by decide +kernel, by decide +kernel⟩
set_option maxRecDepth 1000000 in
theorem hm_ok214 : hc_MOK hm_m214 := ⟨hc_in (p := 1578) rfl rfl, by decide +kernel, by decide +kernel, hc_in (p := 102) (by decide +kernel) rfl, by decide +kernel, by decide +kernel, hf_rws_ok (by decide +kernel), by decide +kernel, by decide +kernel⟩
set_option maxRecDepth 1000000 in
theorem hm_ok215 : hc_MOK hm_m215 := ⟨hc_in (p := 1582) rfl rfl, by decide +kernel, by decide +kernel, hc_in (p := 102) (by decide +kernel) rfl, by decide +kernel, by decide +kernel, hf_rws_ok (by decide +kernel), by decide +kernel, by decide +kernel⟩
set_option maxRecDepth 1000000 in
theorem hm_ok216 : hc_MOK hm_m216 := ⟨hc_in (p := 1574) rfl rfl, by decide +kernel, by decide +kernel, hc_in (p := 102) (by decide +kernel) rfl, by decide +kernel, by decide +kernel, hf_rws_ok (by decide +kernel), by decide +kernel, by decide +kernel⟩
set_option maxRecDepth 1000000 in
theorem hm_ok217 : hc_MOK hm_m217 := ⟨hc_in (p := 1586) rfl rfl, by decide +kernel, by decide +kernel, hc_in (p := 102) (by decide +kernel) rfl, by decide +kernel, by decide +kernel, hf_rws_ok (by decide +kernel), by decide +kernel, by decide +kernel⟩
set_option maxRecDepth 1000000 in
theorem hm_ok218 : hc_MOK hm_m218 := ⟨hc_in (p := 1590) rfl rfl, by decide +kernel, by decide +kernel, hc_in (p := 102) (by decide +kernel) rfl, by decide +kernel, by decide +kernel, hf_rws_ok (by decide +kernel), by decide +kernel, by decide +kernel⟩
set_option maxRecDepth 1000000 in
theorem hm_ok219 : hc_MOK hm_m219 := ⟨hc_in (p := 1594) rfl rfl, by decide +kernel, by decide +kernel, hc_in (p := 102) (by decide +kernel) rfl, by decide +kernel, by decide +kernel, hf_rws_ok (by decide +kernel), by decide +kernel, by decide +kernel⟩
set_option maxRecDepth 1000000 in
theorem hm_ok220 : hc_MOK hm_m220 := ⟨hc_in (p := 1605) rfl rfl, by decide +kernel, by decide +kernel, hc_in (p := 102) (by decide +kernel) rfl, by decide +kernel, by decide +kernel, hf_rws_ok (by decide +kernel), by decide +kernel, by decide +kernel⟩
set_option maxRecDepth 1000000 in
theorem hm_ok221 : hc_MOK hm_m221 := ⟨hc_in (p := 1609) rfl rfl, by decide +kernel, by decide +kernel, hc_in (p := 102) (by decide +kernel) rfl, by decide +kernel, by decide +kernel, hf_rws_ok (by decide +kernel), by decide +kernel, by decide +kernel⟩
set_option maxRecDepth 1000000 in
theorem hm_ok222 : hc_MOK hm_m222 := ⟨hc_in (p := 1613) rfl rfl, by decide +kernel, by decide +kernel, hc_in (p := 102) (by decide +kernel) rfl, by decide +kernel, by decide +kernel, hf_rws_ok (by decide +kernel), by decide +kernel, by decide +kernel⟩
set_option maxRecDepth 1000000 in
theorem hm_ok223 : hc_MOK hm_m223 := ⟨hc_in (p := 1617) rfl rfl, by decide +kernel, by decide +kernel, hc_in (p := 102) (by decide +kernel) rfl, by decide +kernel, by decide +kernel, hf_rws_ok (by decide +kernel), by decide +kernel, by decide +kernel⟩
set_option maxRecDepth 1000000 in
theorem hm_ok224 : hc_MOK hm_m224 := ⟨hc_in (p := 1629) rfl rfl, by decide +kernel, by decide +kernel, hc_in (p := 102) (by decide +kernel) rfl, by decide +kernel, by decide +kernel, hf_rws_ok (by decide +kernel), by decide +kernel, by decide +kernel⟩
set_option maxRecDepth 1000000 in
theorem hm_ok225 : hc_MOK hm_m225 := ⟨hc_in (p := 1637) rfl rfl, by decide +kernel, by decide +kernel, hc_in (p := 102) (by decide +kernel) rfl, by decide +kernel, by decide +kernel, hf_rws_ok (by decide +kernel), by decide +kernel, by decide +kernel⟩
set_option maxRecDepth 1000000 in
theorem hm_ok226 : hc_MOK hm_m226 := ⟨hc_in (p := 1633) rfl rfl, by decide +kernel, by decide +kernel, hc_in (p := 102) (by decide +kernel) rfl, by decide +kernel, by decide +kernel, hf_rws_ok (by decide +kernel), by decide +kernel, by decide +kernel⟩
set_option maxRecDepth 1000000 in
theorem hm_ok227 : hc_MOK hm_m227 := ⟨hc_in (p := 1641) rfl rfl, by decide +kernel, by decide +kernel, hc_in (p := 102) (by decide +kernel) rfl, by decide +kernel, by decide +kernel, hf_rws_ok (by decide +kernel), by decide +kernel, by decide +kernel⟩
set_option maxRecDepth 1000000 in
theorem hm_ok228 : hc_MOK hm_m228 := ⟨hc_in (p := 1645) rfl rfl, by decide +kernel, by decide +kernel, hc_in (p := 102) (by decide +kernel) rfl, by decide +kernel, by decide +kernel, hf_rws_ok (by decide +kernel), by decide +kernel, by decide +kernel⟩
set_option maxRecDepth 1000000 in
theorem hm_ok229 : hc_MOK hm_m229 := ⟨hc_in (p := 1649) rfl rfl, by decide +kernel, by decide +kernel, hc_in (p := 102) (by decide +kernel) rfl, by decide +kernel, by decide +kernel, hf_rws_ok (by decide +kernel), by decide +kernel, by decide +kernel⟩
set_option maxRecDepth 1000000 in
theorem hm_ok230 : hc_MOK hm_m230 := ⟨hc_in (p := 1653) rfl rfl, by decide +kernel, by decide +kernel, hc_in (p := 102) (by decide +kernel) rfl, by decide +kernel, by decide +kernel, hf_rws_ok (by decide +kernel), by decide +kernel, by decide +kernel⟩
set_option maxRecDepth 1000000 in
theorem hm_ok231 : hc_MOK hm_m231 := ⟨hc_in (p := 1657) rfl rfl, by decide +kernel, by decide +kernel, hc_in (p := 102) (by decide +kernel) rfl, by decide +kernel, by decide +kernel, hf_rws_ok (by decide +kernel), by decide +kernel, by decide +kernel⟩
set_option maxRecDepth 1000000 in
theorem hm_ok232 : hc_MOK hm_m232 := ⟨hc_in (p := 1661) rfl rfl, by decide +kernel, by decide +kernel, hc_in (p := 102) (by decide +kernel) rfl, by decide +kernel, by decide +kernel, hf_rws_ok (by decide +kernel), by decide +kernel, by decide +kernel⟩
set_option maxRecDepth 1000000 in
theorem hm_ok233 : hc_MOK hm_m233 := ⟨hc_in (p := 1665) rfl rfl, by decide +kernel, by decide +kernel, hc_in (p := 102) (by decide +kernel) rfl, by decide +kernel, by decide +kernel, hf_rws_ok (by decide +kernel), by decide +kernel, by decide +kernel⟩
set_option maxRecDepth 1000000 in
theorem hm_ok234 : hc_MOK hm_m234 := ⟨hc_in (p := 1673) rfl rfl, by decide +kernel, by decide +kernel, hc_in (p := 102) (by decide +kernel) rfl, by decide +kernel, by decide +kernel, hf_rws_ok (by decide +kernel), by decide +kernel, by decide +kernel⟩
set_option maxRecDepth 1000000 in
theorem hm_ok235 : hc_MOK hm_m235 := ⟨hc_in (p := 1669) rfl rfl, by decide +kernel, by decide +kernel, hc_in (p := 102) (by decide +kernel) rfl, by decide +kernel, by decide +kernel, hf_rws_ok (by decide +kernel), by decide +kernel, by decide +kernel⟩
set_option maxRecDepth 1000000 in
theorem hm_ok236 : hc_MOK hm_m236 := ⟨hc_in (p := 1681) rfl rfl, by decide +kernel, by decide +kernel, hc_in (p := 102) (by decide +kernel) rfl, by decide +kernel, by decide +kernel, hf_rws_ok (by decide +kernel), by decide +kernel, by decide +kernel⟩
set_option maxRecDepth 1000000 in
theorem hm_ok237 : hc_MOK hm_m237 := ⟨hc_in (p := 1677) rfl rfl, by decide +kernel, by decide +kernel, hc_in (p := 102) (by decide +kernel) rfl, by decide +kernel, by decide +kernel, hf_rws_ok (by decide +kernel), by decide +kernel, by decide +kernel⟩
set_option maxRecDepth 1000000 in
theorem hm_ok238 : hc_MOK hm_m238 := ⟨hc_in (p := 1685) rfl rfl, by decide +kernel, by decide +kernel, hc_in (p := 102) (by decide +kernel) rfl, by decide +kernel, by decide +kernel, hf_rws_ok (by decide +kernel), by decide +kernel, by decide +kernel⟩
set_option maxRecDepth 1000000 in
theorem hm_ok239 : hc_MOK hm_m239 := ⟨hc_in (p := 1689) rfl rfl, by decide +kernel, by decide +kernel, hc_in (p := 102) (by decide +kernel) rfl, by decide +kernel, by decide +kernel, hf_rws_ok (by decide +kernel), by decide +kernel, by decide +kernel⟩
set_option maxRecDepth 1000000 in
theorem hm_ok240 : hc_MOK hm_m240 := ⟨hc_in (p := 1697) rfl rfl, by decide +kernel, by decide +kernel, hc_in (p := 102) (by decide +kernel) rfl, by decide +kernel, by decide +kernel, hf_rws_ok (by decide +kernel), by decide +kernel, by decide +kernel⟩
set_option maxRecDepth 1000000 in
theorem hm_ok241 : hc_MOK hm_m241 := ⟨hc_in (p := 1693) rfl rfl, by decide +kernel, by decide +kernel, hc_in (p := 102) (by decide +kernel) rfl, by decide +kernel, by decide +kernel, hf_rws_ok (by decide +kernel), by decide +kernel, by decide +kernel⟩
set_option maxRecDepth 1000000 in
theorem hm_ok242 : hc_MOK hm_m242 := ⟨hc_in (p := 727) rfl rfl, by decide +kernel, by decide +kernel, hc_in (p := 109) (by decide +kernel) rfl, by decide +kernel, by decide +kernel, hf_rws_ok (by decide +kernel), by decide +kernel, by decide +kernel⟩
set_option maxRecDepth 1000000 in
theorem hm_ok243 : hc_MOK hm_m243 := ⟨hc_in (p := 829) rfl rfl, by decide +kernel, by decide +kernel, hc_in (p := 107) (by decide +kernel) rfl, by decide +kernel, by decide +kernel, hf_rws_ok (by decide +kernel), by decide +kernel, by decide +kernel⟩
set_option maxRecDepth 1000000 in
theorem hm_ok244 : hc_MOK hm_m244 := ⟨hc_in (p := 573) rfl rfl, by decide +kernel, by decide +kernel, hc_in (p := 107) (by decide +kernel) rfl, by decide +kernel, by decide +kernel, hf_rws_ok (by decide +kernel), by decide +kernel, by decide +kernel⟩
set_option maxRecDepth 1000000 in
theorem hm_ok245 : hc_MOK hm_m245 := ⟨hc_in (p := 576) rfl rfl, by decide +kernel, by decide +kernel, hc_in (p := 107) (by decide +kernel) rfl, by decide +kernel, by decide +kernel, hf_rws_ok (by decide +kernel), by decide +kernel, by decide +kernel⟩
set_option maxRecDepth 1000000 in
theorem hm_ok246 : hc_MOK hm_m246 := ⟨hc_in (p := 392) rfl rfl, by decide +kernel, by decide +kernel, hc_in (p := 101) (by decide +kernel) rfl, by decide +kernel, by decide +kernel, hf_rws_ok (by decide +kernel), by decide +kernel, by decide +kernel⟩
