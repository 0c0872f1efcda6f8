set_option maxRecDepth 1000000 in
theorem hm_ok77 : hc_MOK hm_m77 := ⟨hc_in (p := 757) rfl rfl, by decide +kernel, by decide +kernel, hc_in (p := 91) (by decide +kernel) rfl, by decide +kernel, by decide +kernel, by decide +kernel, by decide +kernel, by decide +kernel⟩
set_option maxRecDepth 1000000 in
theorem hm_ok78 : hc_MOK hm_m78 := ⟨hc_in (p := 645) rfl rfl, by decide +kernel, by decide +kernel, hc_in (p := 91) (by decide +kernel) rfl, by decide +kernel, by decide +kernel, by decide +kernel, by decide +kernel, by decide +kernel⟩
set_option maxRecDepth 1000000 in
theorem hm_ok79 : hc_MOK hm_m79 := ⟨hc_in (p := 708) rfl rfl, by decide +kernel, by decide +kernel, hc_in (p := 91) (by decide +kernel) rfl, by decide +kernel, by decide +kernel, by decide +kernel, by decide +kernel, by decide +kernel⟩
set_option maxRecDepth 1000000 in
theorem hm_ok80 : hc_MOK hm_m80 := ⟨hc_in (p := 720) rfl rfl, by decide +kernel, by decide +kernel, hc_in (p := 91) (by decide +kernel) rfl, by decide +kernel, by decide +kernel, by decide +kernel, by decide +kernel, by decide +kernel⟩
set_option maxRecDepth 1000000 in
theorem hm_ok81 : hc_MOK hm_m81 := ⟨hc_in (p := 754) rfl rfl, by decide +kernel, by decide +kernel, hc_in (p := 91) (by decide +kernel) rfl, by decide +kernel, by decide +kernel, by decide +kernel, by decide +kernel, by decide +kernel⟩
set_option maxRecDepth 1000000 in
theorem hm_ok82 : hc_MOK hm_m82 := ⟨hc_in (p := 779) rfl rfl, by decide +kernel, by decide +kernel, hc_in (p := 91) (by decide +kernel) rfl, by decide +kernel, by decide +kernel, by decide +kernel, by decide +kernel, by decide +kernel⟩
set_option maxRecDepth 1000000 in
theorem hm_ok83 : hc_MOK hm_m83 := ⟨hc_in (p := 775) rfl rfl, by decide +kernel, by decide +kernel, hc_in (p := 91) (by decide +kernel) rfl, by decide +kernel, by decide +kernel, by decide +kernel, by decide +kernel, by decide +kernel⟩
set_option maxRecDepth 1000000 in
theorem hm_ok84 : hc_MOK hm_m84 := ⟨hc_in (p := 794) rfl rfl, by decide +kernel, by decide +kernel, hc_in (p := 91) (by decide +kernel) rfl, by decide +kernel, by decide +kernel, by decide +kernel, by decide +kernel, by decide +kernel⟩
set_option maxRecDepth 1000000 in
theorem hm_ok85 : hc_MOK hm_m85 := ⟨hc_in (p := 798) rfl rfl, by decide +kernel, by decide +kernel, hc_in (p := 91) (by decide +kernel) rfl, by decide +kernel, by decide +kernel, by decide +kernel, by decide +kernel, by decide +kernel⟩
set_option maxRecDepth 1000000 in
theorem hm_ok86 : hc_MOK hm_m86 := ⟨hc_in (p := 806) rfl rfl, by decide +kernel, by decide +kernel, hc_in (p := 91) (by decide +kernel) rfl, by decide +kernel, by decide +kernel, by decide +kernel, by decide +kernel, by decide +kernel⟩
set_option maxRecDepth 1000000 in
theorem hm_ok87 : hc_MOK hm_m87 := ⟨hc_in (p := 817) rfl rfl, by decide +kernel, by decide +kernel, hc_in (p := 91) (by decide +kernel) rfl, by decide +kernel, by decide +kernel, by decide +kernel, by decide +kernel, by decide +kernel⟩
set_option maxRecDepth 1000000 in
theorem hm_ok88 : hc_MOK hm_m88 := ⟨hc_in (p := 849) rfl rfl, by decide +kernel, by decide +kernel, hc_in (p := 91) (by decide +kernel) rfl, by decide +kernel, by decide +kernel, by decide +kernel, by decide +kernel, by decide +kernel⟩
set_option maxRecDepth 1000000 in
theorem hm_ok89 : hc_MOK hm_m89 := ⟨hc_in (p := 861) rfl rfl, by decide +kernel, by decide +kernel, hc_in (p := 91) (by decide +kernel) rfl, by decide +kernel, by decide +kernel, by decide +kernel, by decide +kernel, by decide +kernel⟩
set_option maxRecDepth 1000000 in
theorem hm_ok90 : hc_MOK hm_m90 := ⟨hc_in (p := 934) rfl rfl, by decide +kernel, by decide +kernel, hc_in (p := 91) (by decide +kernel) rfl, by decide +kernel, by decide +kernel, by decide +kernel, by decide +kernel, by decide +kernel⟩
set_option maxRecDepth 1000000 in
theorem hm_ok91 : hc_MOK hm_m91 := ⟨hc_in (p := 857) rfl rfl, by decide +kernel, by decide +kernel, hc_in (p := 91) (by decide +kernel) rfl, by decide +kernel, by decide +kernel, by decide +kernel, by decide +kernel, by decide +kernel⟩
set_option maxRecDepth 1000000 in
theorem hm_ok92 : hc_MOK hm_m92 := ⟨hc_in (p := 881) rfl rfl, by decide +kernel, by decide +kernel, hc_in (p := 91) (by decide +kernel) rfl, by decide +kernel, by decide +kernel, by decide +kernel, by decide +kernel, by decide +kernel⟩
set_option maxRecDepth 1000000 in
theorem hm_ok93 : hc_MOK hm_m93 := ⟨hc_in (p := 885) rfl rfl, by decide +kernel, by decide +kernel, hc_in (p := 91) (by decide +kernel) rfl, by decide +kernel, by decide +kernel, by decide +kernel, by decide +kernel, by decide +kernel⟩
set_option maxRecDepth 1000000 in
theorem hm_ok94 : hc_MOK hm_m94 := ⟨hc_in (p := 889) rfl rfl, by decide +kernel, by decide +kernel, hc_in (p := 91) (by decide +kernel) rfl, by decide +kernel, by decide +kernel, by decide +kernel, by decide +kernel, by decide +kernel⟩
set_option maxRecDepth 1000000 in
theorem hm_ok95 : hc_MOK hm_m95 := ⟨hc_in (p := 894) rfl rfl, by decide +kernel, by decide +kernel, hc_in (p := 91) (by decide +kernel) rfl, by decide +kernel, by decide +kernel, by decide +kernel, by decide +kernel, by decide +kernel⟩
set_option maxRecDepth 1000000 in
theorem hm_ok96 : hc_MOK hm_m96 := ⟨hc_in (p := 898) rfl rfl, by decide +kernel, by decide +kernel, hc_in (p := 91) (by decide +kernel) rfl, by decide +kernel, by decide +kernel, by decide +kernel, by decide +kernel, by decide +kernel⟩
set_option maxRecDepth 1000000 in
theorem hm_ok97 : hc_MOK hm_m97 := ⟨hc_in (p := 902) rfl rfl, by decide +kernel, by decide +kernel, hc_in (p := 91) (by decide +kernel) rfl, by decide +kernel, by decide +kernel, by decide +kernel, by decide +kernel, by decide +kernel⟩
set_option maxRecDepth 1000000 in
theorem hm_ok98 : hc_MOK hm_m98 := ⟨hc_in (p := 906) rfl rfl, by decide +kernel, by decide +kernel, hc_in (p := 91) (by decide +kernel) rfl, by decide +kernel, by decide +kernel, by decide +kernel, by decide +kernel, by decide +kernel⟩
set_option maxRecDepth 1000000 in
theorem hm_ok99 : hc_MOK hm_m99 := ⟨hc_in (p := 910) rfl rfl, by decide +kernel, by decide +kernel, hc_in (p := 91) (by decide +kernel) rfl, by decide +kernel, by decide +kernel, by decide +kernel, by decide +kernel, by decide +kernel⟩
set_option maxRecDepth 1000000 in
theorem hm_ok100 : hc_MOK hm_m100 := ⟨hc_in (p := 914) rfl rfl, by decide +kernel, by decide +kernel, hc_in (p := 91) (by decide +kernel) rfl, by decide +kernel, by decide +kernel, by decide +kernel, by decide +kernel, by decide +kernel⟩
set_option maxRecDepth 1000000 in
theorem hm_ok101 : hc_MOK hm_m101 := ⟨hc_in (p := 918) rfl rfl, by decide +kernel, by decide +kernel, hc_in (p := 91) (by decide +kernel) rfl, by decide +kernel, by decide +kernel, by decide +kernel, by decide +kernel, by decide +kernel⟩
set_option maxRecDepth 1000000 in
theorem hm_ok102 : hc_MOK hm_m102 := ⟨hc_in (p := 922) rfl rfl, by decide +kernel, by decide +kernel, hc_in (p := 91) (by decide +kernel) rfl, by decide +kernel, by decide +kernel, by decide +kernel, by decide +kernel, by decide +kernel⟩
set_option maxRecDepth 1000000 in
theorem hm_ok103 : hc_MOK hm_m103 := ⟨hc_in (p := 926) rfl rfl, by decide +kernel, by decide +kernel, hc_in (p := 91) (by decide +kernel) rfl, by decide +kernel, by decide +kernel, by decide +kernel, by decide +kernel, by decide +kernel⟩
set_option maxRecDepth 1000000 in
theorem hm_ok104 : hc_MOK hm_m104 := ⟨hc_in (p := 939) rfl rfl, by decide +kernel, by decide +kernel, hc_in (p := 91) (by decide +kernel) rfl, by decide +kernel, by decide +kernel, by decide +kernel, by decide +kernel, by decide +kernel⟩
set_option maxRecDepth 1000000 in
theorem hm_ok105 : hc_MOK hm_m105 := ⟨hc_in (p := 943) rfl rfl, by decide +kernel, by decide +kernel, hc_in (p := 91) (by decide +kernel) rfl, by decide +kernel, by decide +kernel, by decide +kernel, by decide +kernel, by decide +kernel⟩
set_option maxRecDepth 1000000 in
theorem hm_ok106 : hc_MOK hm_m106 := ⟨hc_in (p := 947) rfl rfl, by decide +kernel, by decide +kernel, hc_in (p := 91) (by decide +kernel) rfl, by decide +kernel, by decide +kernel, by decide +kernel, by decide +kernel, by decide +kernel⟩
set_option maxRecDepth 1000000 in
theorem hm_ok107 : hc_MOK hm_m107 := ⟨hc_in (p := 964) rfl rfl, by decide +kernel, by decide +kernel, hc_in (p := 91) (by decide +kernel) rfl, by decide +kernel, by decide +kernel, by decide +kernel, by decide +kernel, by decide +kernel⟩
set_option maxRecDepth 1000000 in
theorem hm_ok108 : hc_MOK hm_m108 := ⟨hc_in (p := 951) rfl rfl, by decide +kernel, by decide +kernel, hc_in (p := 91) (by decide +kernel) rfl, by decide +kernel, by decide +kernel, by decide +kernel, by decide +kernel, by decide +kernel⟩
set_option maxRecDepth 1000000 in
theorem hm_ok109 : hc_MOK hm_m109 := ⟨hc_in (p := 955) rfl rfl, by decide +kernel, by decide +kernel, hc_in (p := 91) (by decide +kernel) rfl, by decide +kernel, by decide +kernel, by decide +kernel, by decide +kernel, by decide +kernel⟩
set_option maxRecDepth 1000000 in
theorem hm_ok110 : hc_MOK hm_m110 := ⟨hc_in (p := 960) rfl rfl, by decide +kernel, by decide +kernel, hc_in (p := 91) (by decide +kernel) rfl, by decide +kernel, by decide +kernel, by decide +kernel, by decide +kernel, by decide +kernel⟩
set_option maxRecDepth 1000000 in
theorem hm_ok111 : hc_MOK hm_m111 := ⟨hc_in (p := 972) rfl rfl, by decide +kernel, by decide +kernel, hc_in (p := 91) (by decide +kernel) rfl, by decide +kernel, by decide +kernel, by decide +kernel, by decide +kernel, by decide +kernel⟩
set_option maxRecDepth 1000000 in
theorem hm_ok112 : hc_MOK hm_m112 := ⟨hc_in (p := 976) rfl rfl, by decide +kernel, by decide +kernel, hc_in (p := 91) (by decide +kernel) rfl, by decide +kernel, by decide +kernel, by decide +kernel, by decide +kernel, by decide +kernel⟩
set_option maxRecDepth 1000000 in
theorem hm_ok113 : hc_MOK hm_m113 := ⟨hc_in (p := 980) rfl rfl, by decide +kernel, by decide +kernel, hc_in (p := 91) (by decide +kernel) rfl, by decide +kernel, by decide +kernel, by decide +kernel, by decide +kernel, by decide +kernel⟩
set_option maxRecDepth 1000000 in
theorem hm_ok114 : hc_MOK hm_m114 := ⟨hc_in (p := 989) rfl rfl, by decide +kernel, by decide +kernel, hc_in (p := 91) (by decide +kernel) rfl, by decide +kernel, by decide +kernel, by decide +kernel, by decide +kernel, by decide +kernel⟩
set_option maxRecDepth 1000000 in
theorem hm_ok115 : hc_MOK hm_m115 := ⟨hc_in (p := 993) rfl rfl, by decide +kernel, by decide +kernel, hc_in (p := 91) (by decide +kernel) rfl, by decide +kernel, by decide +kernel, by decide +kernel, by decide +kernel, by decide +kernel⟩
set_option maxRecDepth 1000000 in
theorem hm_ok116 : hc_MOK hm_m116 := ⟨hc_in (p := 1001) rfl rfl, by decide +kernel, by decide +kernel, hc_in (p := 91) (by decide +kernel) rfl, by decide +kernel, by decide +kernel, by decide +kernel, by decide +kernel, by decide +kernel⟩
