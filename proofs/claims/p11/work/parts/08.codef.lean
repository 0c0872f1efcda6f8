set_option maxRecDepth 1000000 in
theorem hm_ok176 : hc_MOK hm_m176 := ⟨hc_in (p := 1425) rfl rfl, by decide +kernel, by decide +kernel, hc_in (p := 102) (by decide +kernel) rfl, by decide +kernel, by decide +kernel, by decide +kernel, by decide +kernel, by decide +kernel⟩
set_option maxRecDepth 1000000 in
theorem hm_ok177 : hc_MOK hm_m177 := ⟨hc_in (p := 1455) rfl rfl, by decide +kernel, by decide +kernel, hc_in (p := 102) (by decide +kernel) rfl, by decide +kernel, by decide +kernel, by decide +kernel, by decide +kernel, by decide +kernel⟩
set_option maxRecDepth 1000000 in
theorem hm_ok178 : hc_MOK hm_m178 := ⟨hc_in (p := 1417) rfl rfl, by decide +kernel, by decide +kernel, hc_in (p := 102) (by decide +kernel) rfl, by decide +kernel, by decide +kernel, by decide +kernel, by decide +kernel, by decide +kernel⟩
set_option maxRecDepth 1000000 in
theorem hm_ok179 : hc_MOK hm_m179 := ⟨hc_in (p := 1436) rfl rfl, by decide +kernel, by decide +kernel, hc_in (p := 102) (by decide +kernel) rfl, by decide +kernel, by decide +kernel, by decide +kernel, by decide +kernel, by decide +kernel⟩
set_option maxRecDepth 1000000 in
theorem hm_ok180 : hc_MOK hm_m180 := ⟨hc_in (p := 1440) rfl rfl, by decide +kernel, by decide +kernel, hc_in (p := 102) (by decide +kernel) rfl, by decide +kernel, by decide +kernel, by decide +kernel, by decide +kernel, by decide +kernel⟩
set_option maxRecDepth 1000000 in
theorem hm_ok181 : hc_MOK hm_m181 := ⟨hc_in (p := 1451) rfl rfl, by decide +kernel, by decide +kernel, hc_in (p := 102) (by decide +kernel) rfl, by decide +kernel, by decide +kernel, by decide +kernel, by decide +kernel, by decide +kernel⟩
set_option maxRecDepth 1000000 in
theorem hm_ok182 : hc_MOK hm_m182 := ⟨hc_in (p := 1498) rfl rfl, by decide +kernel, by decide +kernel, hc_in (p := 102) (by decide +kernel) rfl, by decide +kernel, by decide +kernel, by decide +kernel, by decide +kernel, by decide +kernel⟩
set_option maxRecDepth 1000000 in
theorem hm_ok183 : hc_MOK hm_m183 := ⟨hc_in (p := 1502) rfl rfl, by decide +kernel, by decide +kernel, hc_in (p := 102) (by decide +kernel) rfl, by decide +kernel, by decide +kernel, by decide +kernel, by decide +kernel, by decide +kernel⟩
set_option maxRecDepth 1000000 in
theorem hm_ok184 : hc_MOK hm_m184 := ⟨hc_in (p := 1494) rfl rfl, by decide +kernel, by decide +kernel, hc_in (p := 102) (by decide +kernel) rfl, by decide +kernel, by decide +kernel, by decide +kernel, by decide +kernel, by decide +kernel⟩
set_option maxRecDepth 1000000 in
theorem hm_ok185 : hc_MOK hm_m185 := ⟨hc_in (p := 1490) rfl rfl, by decide +kernel, by decide +kernel, hc_in (p := 102) (by decide +kernel) rfl, by decide +kernel, by decide +kernel, by decide +kernel, by decide +kernel, by decide +kernel⟩
set_option maxRecDepth 1000000 in
theorem hm_ok186 : hc_MOK hm_m186 := ⟨hc_in (p := 1625) rfl rfl, by decide +kernel, by decide +kernel, hc_in (p := 102) (by decide +kernel) rfl, by decide +kernel, by decide +kernel, by decide +kernel, by decide +kernel, by decide +kernel⟩
set_option maxRecDepth 1000000 in
theorem hm_ok187 : hc_MOK hm_m187 := ⟨hc_in (p := 1621) rfl rfl, by decide +kernel, by decide +kernel, hc_in (p := 102) (by decide +kernel) rfl, by decide +kernel, by decide +kernel, by decide +kernel, by decide +kernel, by decide +kernel⟩
set_option maxRecDepth 1000000 in
theorem hm_ok188 : hc_MOK hm_m188 := ⟨hc_in (p := 1399) rfl rfl, by decide +kernel, by decide +kernel, hc_in (p := 102) (by decide +kernel) rfl, by decide +kernel, by decide +kernel, by decide +kernel, by decide +kernel, by decide +kernel⟩
set_option maxRecDepth 1000000 in
theorem hm_ok189 : hc_MOK hm_m189 := ⟨hc_in (p := 1444) rfl rfl, by decide +kernel, by decide +kernel, hc_in (p := 102) (by decide +kernel) rfl, by decide +kernel, by decide +kernel, by decide +kernel, by decide +kernel, by decide +kernel⟩
set_option maxRecDepth 1000000 in
theorem hm_ok190 : hc_MOK hm_m190 := ⟨hc_in (p := 1463) rfl rfl, by decide +kernel, by decide +kernel, hc_in (p := 102) (by decide +kernel) rfl, by decide +kernel, by decide +kernel, by decide +kernel, by decide +kernel, by decide +kernel⟩
set_option maxRecDepth 1000000 in
theorem hm_ok191 : hc_MOK hm_m191 := ⟨hc_in (p := 1459) rfl rfl, by decide +kernel, by decide +kernel, hc_in (p := 102) (by decide +kernel) rfl, by decide +kernel, by decide +kernel, by decide +kernel, by decide +kernel, by decide +kernel⟩
set_option maxRecDepth 1000000 in
theorem hm_ok192 : hc_MOK hm_m192 := ⟨hc_in (p := 1467) rfl rfl, by decide +kernel, by decide +kernel, hc_in (p := 102) (by decide +kernel) rfl, by decide +kernel, by decide +kernel, by decide +kernel, by decide +kernel, by decide +kernel⟩
set_option maxRecDepth 1000000 in
theorem hm_ok193 : hc_MOK hm_m193 := ⟨hc_in (p := 1471) rfl rfl, by decide +kernel, by decide +kernel, hc_in (p := 102) (by decide +kernel) rfl, by decide +kernel, by decide +kernel, by decide +kernel, by decide +kernel, by decide +kernel⟩
set_option maxRecDepth 1000000 in
theorem hm_ok194 : hc_MOK hm_m194 := ⟨hc_in (p := 1479) rfl rfl, by decide +kernel, by decide +kernel, hc_in (p := 102) (by decide +kernel) rfl, by decide +kernel, by decide +kernel, by decide +kernel, by decide +kernel, by decide +kernel⟩
set_option maxRecDepth 1000000 in
theorem hm_ok195 : hc_MOK hm_m195 := ⟨hc_in (p := 1475) rfl rfl, by decide +kernel, by decide +kernel, hc_in (p := 102) (by decide +kernel) rfl, by decide +kernel, by decide +kernel, by decide +kernel, by decide +kernel, by decide +kernel⟩
set_option maxRecDepth 1000000 in
theorem hm_ok196 : hc_MOK hm_m196 := ⟨hc_in (p := 1486) rfl rfl, by decide +kernel, by decide +kernel, hc_in (p := 102) (by decide +kernel) rfl, by decide +kernel, by decide +kernel, by decide +kernel, by decide +kernel, by decide +kernel⟩
set_option maxRecDepth 1000000 in
theorem hm_ok197 : hc_MOK hm_m197 := ⟨hc_in (p := 1597) rfl rfl, by decide +kernel, by decide +kernel, hc_in (p := 102) (by decide +kernel) rfl, by decide +kernel, by decide +kernel, by decide +kernel, by decide +kernel, by decide +kernel⟩
set_option maxRecDepth 1000000 in
theorem hm_ok198 : hc_MOK hm_m198 := ⟨hc_in (p := 1483) rfl rfl, by decide +kernel, by decide +kernel, hc_in (p := 102) (by decide +kernel) rfl, by decide +kernel, by decide +kernel, by decide +kernel, by decide +kernel, by decide +kernel⟩
set_option maxRecDepth 1000000 in
theorem hm_ok199 : hc_MOK hm_m199 := ⟨hc_in (p := 1514) rfl rfl, by decide +kernel, by decide +kernel, hc_in (p := 102) (by decide +kernel) rfl, by decide +kernel, by decide +kernel, by decide +kernel, by decide +kernel, by decide +kernel⟩
set_option maxRecDepth 1000000 in
theorem hm_ok200 : hc_MOK hm_m200 := ⟨hc_in (p := 1530) rfl rfl, by decide +kernel, by decide +kernel, hc_in (p := 102) (by decide +kernel) rfl, by decide +kernel, by decide +kernel, by decide +kernel, by decide +kernel, by decide +kernel⟩
set_option maxRecDepth 1000000 in
theorem hm_ok201 : hc_MOK hm_m201 := ⟨hc_in (p := 1526) rfl rfl, by decide +kernel, by decide +kernel, hc_in (p := 102) (by decide +kernel) rfl, by decide +kernel, by decide +kernel, by decide +kernel, by decide +kernel, by decide +kernel⟩
set_option maxRecDepth 1000000 in
theorem hm_ok202 : hc_MOK hm_m202 := ⟨hc_in (p := 1522) rfl rfl, by decide +kernel, by decide +kernel, hc_in (p := 102) (by decide +kernel) rfl, by decide +kernel, by decide +kernel, by decide +kernel, by decide +kernel, by decide +kernel⟩
set_option maxRecDepth 1000000 in
theorem hm_ok203 : hc_MOK hm_m203 := ⟨hc_in (p := 1542) rfl rfl, by decide +kernel, by decide +kernel, hc_in (p := 102) (by decide +kernel) rfl, by decide +kernel, by decide +kernel, by decide +kernel, by decide +kernel, by decide +kernel⟩
set_option maxRecDepth 1000000 in
theorem hm_ok204 : hc_MOK hm_m204 := ⟨hc_in (p := 1518) rfl rfl, by decide +kernel, by decide +kernel, hc_in (p := 102) (by decide +kernel) rfl, by decide +kernel, by decide +kernel, by decide +kernel, by decide +kernel, by decide +kernel⟩
set_option maxRecDepth 1000000 in
theorem hm_ok205 : hc_MOK hm_m205 := ⟨hc_in (p := 1534) rfl rfl, by decide +kernel, by decide +kernel, hc_in (p := 102) (by decide +kernel) rfl, by decide +kernel, by decide +kernel, by decide +kernel, by decide +kernel, by decide +kernel⟩
set_option maxRecDepth 1000000 in
theorem hm_ok206 : hc_MOK hm_m206 := ⟨hc_in (p := 1538) rfl rfl, by decide +kernel, by decide +kernel, hc_in (p := 102) (by decide +kernel) rfl, by decide +kernel, by decide +kernel, by decide +kernel, by decide +kernel, by decide +kernel⟩
set_option maxRecDepth 1000000 in
theorem hm_ok207 : hc_MOK hm_m207 := ⟨hc_in (p := 1546) rfl rfl, by decide +kernel, by decide +kernel, hc_in (p := 102) (by decide +kernel) rfl, by decide +kernel, by decide +kernel, by decide +kernel, by decide +kernel, by decide +kernel⟩
set_option maxRecDepth 1000000 in
theorem hm_ok208 : hc_MOK hm_m208 := ⟨hc_in (p := 1550) rfl rfl, by decide +kernel, by decide +kernel, hc_in (p := 102) (by decide +kernel) rfl, by decide +kernel, by decide +kernel, by decide +kernel, by decide +kernel, by decide +kernel⟩
set_option maxRecDepth 1000000 in
theorem hm_ok209 : hc_MOK hm_m209 := ⟨hc_in (p := 1554) rfl rfl, by decide +kernel, by decide +kernel, hc_in (p := 102) (by decide +kernel) rfl, by decide +kernel, by decide +kernel, by decide +kernel, by decide +kernel, by decide +kernel⟩
set_option maxRecDepth 1000000 in
theorem hm_ok210 : hc_MOK hm_m210 := ⟨hc_in (p := 1558) rfl rfl, by decide +kernel, by decide +kernel, hc_in (p := 102) (by decide +kernel) rfl, by decide +kernel, by decide +kernel, by decide +kernel, by decide +kernel, by decide +kernel⟩
set_option maxRecDepth 1000000 in
theorem hm_ok211 : hc_MOK hm_m211 := ⟨hc_in (p := 1562) rfl rfl, by decide +kernel, by decide +kernel, hc_in (p := 102) (by decide +kernel) rfl, by decide +kernel, by decide +kernel, by decide +kernel, by decide +kernel, by decide +kernel⟩
set_option maxRecDepth 1000000 in
theorem hm_ok212 : hc_MOK hm_m212 := ⟨hc_in (p := 1566) rfl rfl, by decide +kernel, by decide +kernel, hc_in (p := 102) (by decide +kernel) rfl, by decide +kernel, by decide +kernel, by decide +kernel, by decide +kernel, by decide +kernel⟩
