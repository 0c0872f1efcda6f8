set_option maxRecDepth 1000000 in
theorem hm_ok40 : hc_MOK hm_m40 := ⟨hc_in (p := 638) rfl rfl, by decide +kernel, by decide +kernel, hc_in (p := 94) (by decide +kernel) rfl, by decide +kernel, by decide +kernel, by decide +kernel, by decide +kernel, by decide +kernel⟩
set_option maxRecDepth 1000000 in
theorem hm_ok41 : hc_MOK hm_m41 := ⟨hc_in (p := 630) rfl rfl, by decide +kernel, by decide +kernel, hc_in (p := 94) (by decide +kernel) rfl, by decide +kernel, by decide +kernel, by decide +kernel, by decide +kernel, by decide +kernel⟩
set_option maxRecDepth 1000000 in
theorem hm_ok42 : hc_MOK hm_m42 := ⟨hc_in (p := 649) rfl rfl, by decide +kernel, by decide +kernel, hc_in (p := 94) (by decide +kernel) rfl, by decide +kernel, by decide +kernel, by decide +kernel, by decide +kernel, by decide +kernel⟩
set_option maxRecDepth 1000000 in
theorem hm_ok43 : hc_MOK hm_m43 := ⟨hc_in (p := 642) rfl rfl, by decide +kernel, by decide +kernel, hc_in (p := 94) (by decide +kernel) rfl, by decide +kernel, by decide +kernel, by decide +kernel, by decide +kernel, by decide +kernel⟩
set_option maxRecDepth 1000000 in
theorem hm_ok44 : hc_MOK hm_m44 := ⟨hc_in (p := 634) rfl rfl, by decide +kernel, by decide +kernel, hc_in (p := 94) (by decide +kernel) rfl, by decide +kernel, by decide +kernel, by decide +kernel, by decide +kernel, by decide +kernel⟩
set_option maxRecDepth 1000000 in
theorem hm_ok45 : hc_MOK hm_m45 := ⟨hc_in (p := 622) rfl rfl, by decide +kernel, by decide +kernel, hc_in (p := 94) (by decide +kernel) rfl, by decide +kernel, by decide +kernel, by decide +kernel, by decide +kernel, by decide +kernel⟩
set_option maxRecDepth 1000000 in
theorem hm_ok46 : hc_MOK hm_m46 := ⟨hc_in (p := 657) rfl rfl, by decide +kernel, by decide +kernel, hc_in (p := 94) (by decide +kernel) rfl, by decide +kernel, by decide +kernel, by decide +kernel, by decide +kernel, by decide +kernel⟩
set_option maxRecDepth 1000000 in
theorem hm_ok47 : hc_MOK hm_m47 := ⟨hc_in (p := 692) rfl rfl, by decide +kernel, by decide +kernel, hc_in (p := 94) (by decide +kernel) rfl, by decide +kernel, by decide +kernel, by decide +kernel, by decide +kernel, by decide +kernel⟩
set_option maxRecDepth 1000000 in
theorem hm_ok48 : hc_MOK hm_m48 := ⟨hc_in (p := 696) rfl rfl, by decide +kernel, by decide +kernel, hc_in (p := 94) (by decide +kernel) rfl, by decide +kernel, by decide +kernel, by decide +kernel, by decide +kernel, by decide +kernel⟩
set_option maxRecDepth 1000000 in
theorem hm_ok49 : hc_MOK hm_m49 := ⟨hc_in (p := 666) rfl rfl, by decide +kernel, by decide +kernel, hc_in (p := 94) (by decide +kernel) rfl, by decide +kernel, by decide +kernel, by decide +kernel, by decide +kernel, by decide +kernel⟩
set_option maxRecDepth 1000000 in
theorem hm_ok50 : hc_MOK hm_m50 := ⟨hc_in (p := 674) rfl rfl, by decide +kernel, by decide +kernel, hc_in (p := 94) (by decide +kernel) rfl, by decide +kernel, by decide +kernel, by decide +kernel, by decide +kernel, by decide +kernel⟩
set_option maxRecDepth 1000000 in
theorem hm_ok51 : hc_MOK hm_m51 := ⟨hc_in (p := 678) rfl rfl, by decide +kernel, by decide +kernel, hc_in (p := 94) (by decide +kernel) rfl, by decide +kernel, by decide +kernel, by decide +kernel, by decide +kernel, by decide +kernel⟩
set_option maxRecDepth 1000000 in
theorem hm_ok52 : hc_MOK hm_m52 := ⟨hc_in (p := 682) rfl rfl, by decide +kernel, by decide +kernel, hc_in (p := 94) (by decide +kernel) rfl, by decide +kernel, by decide +kernel, by decide +kernel, by decide +kernel, by decide +kernel⟩
set_option maxRecDepth 1000000 in
theorem hm_ok53 : hc_MOK hm_m53 := ⟨hc_in (p := 123) rfl rfl, by decide +kernel, by decide +kernel, hc_in (p := 92) (by decide +kernel) rfl, by decide +kernel, by decide +kernel, by decide +kernel, by decide +kernel, by decide +kernel⟩
set_option maxRecDepth 1000000 in
theorem hm_ok54 : hc_MOK hm_m54 := ⟨hc_in (p := 389) rfl rfl, by decide +kernel, by decide +kernel, hc_in (p := 92) (by decide +kernel) rfl, by decide +kernel, by decide +kernel, by decide +kernel, by decide +kernel, by decide +kernel⟩
set_option maxRecDepth 1000000 in
theorem hm_ok55 : hc_MOK hm_m55 := ⟨hc_in (p := 653) rfl rfl, by decide +kernel, by decide +kernel, hc_in (p := 92) (by decide +kernel) rfl, by decide +kernel, by decide +kernel, by decide +kernel, by decide +kernel, by decide +kernel⟩
set_option maxRecDepth 1000000 in
theorem hm_ok56 : hc_MOK hm_m56 := ⟨hc_in (p := 661) rfl rfl, by decide +kernel, by decide +kernel, hc_in (p := 92) (by decide +kernel) rfl, by decide +kernel, by decide +kernel, by decide +kernel, by decide +kernel, by decide +kernel⟩
set_option maxRecDepth 1000000 in
theorem hm_ok57 : hc_MOK hm_m57 := ⟨hc_in (p := 203) rfl rfl, by decide +kernel, by decide +kernel, hc_in (p := 95) (by decide +kernel) rfl, by decide +kernel, by decide +kernel, by decide +kernel, by decide +kernel, by decide +kernel⟩
set_option maxRecDepth 1000000 in
theorem hm_ok58 : hc_MOK hm_m58 := ⟨hc_in (p := 485) rfl rfl, by decide +kernel, by decide +kernel, hc_in (p := 95) (by decide +kernel) rfl, by decide +kernel, by decide +kernel, by decide +kernel, by decide +kernel, by decide +kernel⟩
set_option maxRecDepth 1000000 in
theorem hm_ok59 : hc_MOK hm_m59 := ⟨hc_in (p := 488) rfl rfl, by decide +kernel, by decide +kernel, hc_in (p := 95) (by decide +kernel) rfl, by decide +kernel, by decide +kernel, by decide +kernel, by decide +kernel, by decide +kernel⟩
set_option maxRecDepth 1000000 in
theorem hm_ok60 : hc_MOK hm_m60 := ⟨hc_in (p := 492) rfl rfl, by decide +kernel, by decide +kernel, hc_in (p := 95) (by decide +kernel) rfl, by decide +kernel, by decide +kernel, by decide +kernel, by decide +kernel, by decide +kernel⟩
set_option maxRecDepth 1000000 in
theorem hm_ok61 : hc_MOK hm_m61 := ⟨hc_in (p := 496) rfl rfl, by decide +kernel, by decide +kernel, hc_in (p := 95) (by decide +kernel) rfl, by decide +kernel, by decide +kernel, by decide +kernel, by decide +kernel, by decide +kernel⟩
set_option maxRecDepth 1000000 in
theorem hm_ok62 : hc_MOK hm_m62 := ⟨hc_in (p := 499) rfl rfl, by decide +kernel, by decide +kernel, hc_in (p := 95) (by decide +kernel) rfl, by decide +kernel, by decide +kernel, by decide +kernel, by decide +kernel, by decide +kernel⟩
set_option maxRecDepth 1000000 in
theorem hm_ok63 : hc_MOK hm_m63 := ⟨hc_in (p := 552) rfl rfl, by decide +kernel, by decide +kernel, hc_in (p := 95) (by decide +kernel) rfl, by decide +kernel, by decide +kernel, by decide +kernel, by decide +kernel, by decide +kernel⟩
set_option maxRecDepth 1000000 in
theorem hm_ok64 : hc_MOK hm_m64 := ⟨hc_in (p := 371) rfl rfl, by decide +kernel, by decide +kernel, hc_in (p := 100) (by decide +kernel) rfl, by decide +kernel, by decide +kernel, by decide +kernel, by decide +kernel, by decide +kernel⟩
set_option maxRecDepth 1000000 in
theorem hm_ok65 : hc_MOK hm_m65 := ⟨hc_in (p := 1029) rfl rfl, by decide +kernel, by decide +kernel, hc_in (p := 100) (by decide +kernel) rfl, by decide +kernel, by decide +kernel, by decide +kernel, by decide +kernel, by decide +kernel⟩
set_option maxRecDepth 1000000 in
theorem hm_ok66 : hc_MOK hm_m66 := ⟨hc_in (p := 355) rfl rfl, by decide +kernel, by decide +kernel, hc_in (p := 99) (by decide +kernel) rfl, by decide +kernel, by decide +kernel, by decide +kernel, by decide +kernel, by decide +kernel⟩
set_option maxRecDepth 1000000 in
theorem hm_ok67 : hc_MOK hm_m67 := ⟨hc_in (p := 865) rfl rfl, by decide +kernel, by decide +kernel, hc_in (p := 99) (by decide +kernel) rfl, by decide +kernel, by decide +kernel, by decide +kernel, by decide +kernel, by decide +kernel⟩
set_option maxRecDepth 1000000 in
theorem hm_ok68 : hc_MOK hm_m68 := ⟨hc_in (p := 869) rfl rfl, by decide +kernel, by decide +kernel, hc_in (p := 99) (by decide +kernel) rfl, by decide +kernel, by decide +kernel, by decide +kernel, by decide +kernel, by decide +kernel⟩
set_option maxRecDepth 1000000 in
theorem hm_ok69 : hc_MOK hm_m69 := ⟨hc_in (p := 115) rfl rfl, by decide +kernel, by decide +kernel, hc_in (p := 91) (by decide +kernel) rfl, by decide +kernel, by decide +kernel, by decide +kernel, by decide +kernel, by decide +kernel⟩
set_option maxRecDepth 1000000 in
theorem hm_ok70 : hc_MOK hm_m70 := ⟨hc_in (p := 464) rfl rfl, by decide +kernel, by decide +kernel, hc_in (p := 91) (by decide +kernel) rfl, by decide +kernel, by decide +kernel, by decide +kernel, by decide +kernel, by decide +kernel⟩
set_option maxRecDepth 1000000 in
theorem hm_ok71 : hc_MOK hm_m71 := ⟨hc_in (p := 468) rfl rfl, by decide +kernel, by decide +kernel, hc_in (p := 91) (by decide +kernel) rfl, by decide +kernel, by decide +kernel, by decide +kernel, by decide +kernel, by decide +kernel⟩
set_option maxRecDepth 1000000 in
theorem hm_ok72 : hc_MOK hm_m72 := ⟨hc_in (p := 472) rfl rfl, by decide +kernel, by decide +kernel, hc_in (p := 91) (by decide +kernel) rfl, by decide +kernel, by decide +kernel, by decide +kernel, by decide +kernel, by decide +kernel⟩
set_option maxRecDepth 1000000 in
theorem hm_ok73 : hc_MOK hm_m73 := ⟨hc_in (p := 476) rfl rfl, by decide +kernel, by decide +kernel, hc_in (p := 91) (by decide +kernel) rfl, by decide +kernel, by decide +kernel, by decide +kernel, by decide +kernel, by decide +kernel⟩
set_option maxRecDepth 1000000 in
theorem hm_ok74 : hc_MOK hm_m74 := ⟨hc_in (p := 700) rfl rfl, by decide +kernel, by decide +kernel, hc_in (p := 91) (by decide +kernel) rfl, by decide +kernel, by decide +kernel, by decide +kernel, by decide +kernel, by decide +kernel⟩
set_option maxRecDepth 1000000 in
theorem hm_ok75 : hc_MOK hm_m75 := ⟨hc_in (p := 704) rfl rfl, by decide +kernel, by decide +kernel, hc_in (p := 91) (by decide +kernel) rfl, by decide +kernel, by decide +kernel, by decide +kernel, by decide +kernel, by decide +kernel⟩
set_option maxRecDepth 1000000 in
theorem hm_ok76 : hc_MOK hm_m76 := ⟨hc_in (p := 712) rfl rfl, by decide +kernel, by decide +kernel, hc_in (p := 91) (by decide +kernel) rfl, by decide +kernel, by decide +kernel, by decide +kernel, by decide +kernel, by decide +kernel⟩
