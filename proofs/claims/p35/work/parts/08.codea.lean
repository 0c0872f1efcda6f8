set_option maxRecDepth 1000000 in
theorem hm_ok0 : hc_MOK hm_m0 := ⟨hc_in (p := 330) rfl rfl, by decide +kernel, by decide +kernel, hc_in (p := 98) (by decide +kernel) rfl, by decide +kernel, by decide +kernel, hf_rws_ok (by decide +kernel), by decide +kernel, by decide +kernel⟩
set_option maxRecDepth 1000000 in
theorem hm_ok1 : hc_MOK hm_m1 := ⟨hc_in (p := 724) rfl rfl, by decide +kernel, by decide +kernel, hc_in (p := 98) (by decide +kernel) rfl, by decide +kernel, by decide +kernel, hf_rws_ok (by decide +kernel), by decide +kernel, by decide +kernel⟩
set_option maxRecDepth 1000000 in
theorem hm_ok2 : hc_MOK hm_m2 := ⟨hc_in (p := 736) rfl rfl, by decide +kernel, by decide +kernel, hc_in (p := 98) (by decide +kernel) rfl, by decide +kernel, by decide +kernel, hf_rws_ok (by decide +kernel), by decide +kernel, by decide +kernel⟩
set_option maxRecDepth 1000000 in
theorem hm_ok3 : hc_MOK hm_m3 := ⟨hc_in (p := 746) rfl rfl, by decide +kernel, by decide +kernel, hc_in (p := 98) (by decide +kernel) rfl, by decide +kernel, by decide +kernel, hf_rws_ok (by decide +kernel), by decide +kernel, by decide +kernel⟩
set_option maxRecDepth 1000000 in
theorem hm_ok4 : hc_MOK hm_m4 := ⟨hc_in (p := 750) rfl rfl, by decide +kernel, by decide +kernel, hc_in (p := 98) (by decide +kernel) rfl, by decide +kernel, by decide +kernel, hf_rws_ok (by decide +kernel), by decide +kernel, by decide +kernel⟩
set_option maxRecDepth 1000000 in
theorem hm_ok5 : hc_MOK hm_m5 := ⟨hc_in (p := 761) rfl rfl, by decide +kernel, by decide +kernel, hc_in (p := 98) (by decide +kernel) rfl, by decide +kernel, by decide +kernel, hf_rws_ok (by decide +kernel), by decide +kernel, by decide +kernel⟩
set_option maxRecDepth 1000000 in
theorem hm_ok6 : hc_MOK hm_m6 := ⟨hc_in (p := 765) rfl rfl, by decide +kernel, by decide +kernel, hc_in (p := 98) (by decide +kernel) rfl, by decide +kernel, by decide +kernel, hf_rws_ok (by decide +kernel), by decide +kernel, by decide +kernel⟩
set_option maxRecDepth 1000000 in
theorem hm_ok7 : hc_MOK hm_m7 := ⟨hc_in (p := 129) rfl rfl, by decide +kernel, by decide +kernel, hc_in (p := 93) (by decide +kernel) rfl, by decide +kernel, by decide +kernel, hf_rws_ok (by decide +kernel), by decide +kernel, by decide +kernel⟩
set_option maxRecDepth 1000000 in
theorem hm_ok8 : hc_MOK hm_m8 := ⟨hc_in (p := 396) rfl rfl, by decide +kernel, by decide +kernel, hc_in (p := 93) (by decide +kernel) rfl, by decide +kernel, by decide +kernel, hf_rws_ok (by decide +kernel), by decide +kernel, by decide +kernel⟩
set_option maxRecDepth 1000000 in
theorem hm_ok9 : hc_MOK hm_m9 := ⟨hc_in (p := 670) rfl rfl, by decide +kernel, by decide +kernel, hc_in (p := 93) (by decide +kernel) rfl, by decide +kernel, by decide +kernel, hf_rws_ok (by decide +kernel), by decide +kernel, by decide +kernel⟩
set_option maxRecDepth 1000000 in
theorem hm_ok10 : hc_MOK hm_m10 := ⟨hc_in (p := 404) rfl rfl, by decide +kernel, by decide +kernel, hc_in (p := 93) (by decide +kernel) rfl, by decide +kernel, by decide +kernel, hf_rws_ok (by decide +kernel), by decide +kernel, by decide +kernel⟩
set_option maxRecDepth 1000000 in
theorem hm_ok11 : hc_MOK hm_m11 := ⟨hc_in (p := 769) rfl rfl, by decide +kernel, by decide +kernel, hc_in (p := 93) (by decide +kernel) rfl, by decide +kernel, by decide +kernel, hf_rws_ok (by decide +kernel), by decide +kernel, by decide +kernel⟩
set_option maxRecDepth 1000000 in
theorem hm_ok12 : hc_MOK hm_m12 := ⟨hc_in (p := 400) rfl rfl, by decide +kernel, by decide +kernel, hc_in (p := 93) (by decide +kernel) rfl, by decide +kernel, by decide +kernel, hf_rws_ok (by decide +kernel), by decide +kernel, by decide +kernel⟩
set_option maxRecDepth 1000000 in
theorem hm_ok13 : hc_MOK hm_m13 := ⟨hc_in (p := 687) rfl rfl, by decide +kernel, by decide +kernel, hc_in (p := 93) (by decide +kernel) rfl, by decide +kernel, by decide +kernel, hf_rws_ok (by decide +kernel), by decide +kernel, by decide +kernel⟩
set_option maxRecDepth 1000000 in
theorem hm_ok14 : hc_MOK hm_m14 := ⟨hc_in (p := 740) rfl rfl, by decide +kernel, by decide +kernel, hc_in (p := 93) (by decide +kernel) rfl, by decide +kernel, by decide +kernel, hf_rws_ok (by decide +kernel), by decide +kernel, by decide +kernel⟩
set_option maxRecDepth 1000000 in
theorem hm_ok15 : hc_MOK hm_m15 := ⟨hc_in (p := 256) rfl rfl, by decide +kernel, by decide +kernel, hc_in (p := 96) (by decide +kernel) rfl, by decide +kernel, by decide +kernel, hf_rws_ok (by decide +kernel), by decide +kernel, by decide +kernel⟩
set_option maxRecDepth 1000000 in
theorem hm_ok16 : hc_MOK hm_m16 := ⟨hc_in (p := 408) rfl rfl, by decide +kernel, by decide +kernel, hc_in (p := 96) (by decide +kernel) rfl, by decide +kernel, by decide +kernel, hf_rws_ok (by decide +kernel), by decide +kernel, by decide +kernel⟩
set_option maxRecDepth 1000000 in
theorem hm_ok17 : hc_MOK hm_m17 := ⟨hc_in (p := 787) rfl rfl, by decide +kernel, by decide +kernel, hc_in (p := 96) (by decide +kernel) rfl, by decide +kernel, by decide +kernel, hf_rws_ok (by decide +kernel), by decide +kernel, by decide +kernel⟩
set_option maxRecDepth 1000000 in
theorem hm_ok18 : hc_MOK hm_m18 := ⟨hc_in (p := 716) rfl rfl, by decide +kernel, by decide +kernel, hc_in (p := 96) (by decide +kernel) rfl, by decide +kernel, by decide +kernel, hf_rws_ok (by decide +kernel), by decide +kernel, by decide +kernel⟩
set_option maxRecDepth 1000000 in
theorem hm_ok19 : hc_MOK hm_m19 := ⟨hc_in (p := 834) rfl rfl, by decide +kernel, by decide +kernel, hc_in (p := 96) (by decide +kernel) rfl, by decide +kernel, by decide +kernel, hf_rws_ok (by decide +kernel), by decide +kernel, by decide +kernel⟩
set_option maxRecDepth 1000000 in
theorem hm_ok20 : hc_MOK hm_m20 := ⟨hc_in (p := 873) rfl rfl, by decide +kernel, by decide +kernel, hc_in (p := 96) (by decide +kernel) rfl, by decide +kernel, by decide +kernel, hf_rws_ok (by decide +kernel), by decide +kernel, by decide +kernel⟩
set_option maxRecDepth 1000000 in
theorem hm_ok21 : hc_MOK hm_m21 := ⟨hc_in (p := 930) rfl rfl, by decide +kernel, by decide +kernel, hc_in (p := 96) (by decide +kernel) rfl, by decide +kernel, by decide +kernel, hf_rws_ok (by decide +kernel), by decide +kernel, by decide +kernel⟩
set_option maxRecDepth 1000000 in
theorem hm_ok22 : hc_MOK hm_m22 := ⟨hc_in (p := 826) rfl rfl, by decide +kernel, by decide +kernel, hc_in (p := 96) (by decide +kernel) rfl, by decide +kernel, by decide +kernel, hf_rws_ok (by decide +kernel), by decide +kernel, by decide +kernel⟩
set_option maxRecDepth 1000000 in
theorem hm_ok23 : hc_MOK hm_m23 := ⟨hc_in (p := 802) rfl rfl, by decide +kernel, by decide +kernel, hc_in (p := 96) (by decide +kernel) rfl, by decide +kernel, by decide +kernel, hf_rws_ok (by decide +kernel), by decide +kernel, by decide +kernel⟩
set_option maxRecDepth 1000000 in
theorem hm_ok24 : hc_MOK hm_m24 := ⟨hc_in (p := 810) rfl rfl, by decide +kernel, by decide +kernel, hc_in (p := 96) (by decide +kernel) rfl, by decide +kernel, by decide +kernel, hf_rws_ok (by decide +kernel), by decide +kernel, by decide +kernel⟩
set_option maxRecDepth 1000000 in
theorem hm_ok25 : hc_MOK hm_m25 := ⟨hc_in (p := 813) rfl rfl, by decide +kernel, by decide +kernel, hc_in (p := 96) (by decide +kernel) rfl, by decide +kernel, by decide +kernel, hf_rws_ok (by decide +kernel), by decide +kernel, by decide +kernel⟩
set_option maxRecDepth 1000000 in
theorem hm_ok26 : hc_MOK hm_m26 := ⟨hc_in (p := 822) rfl rfl, by decide +kernel, by decide +kernel, hc_in (p := 96) (by decide +kernel) rfl, by decide +kernel, by decide +kernel, hf_rws_ok (by decide +kernel), by decide +kernel, by decide +kernel⟩
set_option maxRecDepth 1000000 in
theorem hm_ok27 : hc_MOK hm_m27 := ⟨hc_in (p := 839) rfl rfl, by decide +kernel, by decide +kernel, hc_in (p := 96) (by decide +kernel) rfl, by decide +kernel, by decide +kernel, hf_rws_ok (by decide +kernel), by decide +kernel, by decide +kernel⟩
set_option maxRecDepth 1000000 in
theorem hm_ok28 : hc_MOK hm_m28 := ⟨hc_in (p := 842) rfl rfl, by decide +kernel, by decide +kernel, hc_in (p := 96) (by decide +kernel) rfl, by decide +kernel, by decide +kernel, hf_rws_ok (by decide +kernel), by decide +kernel, by decide +kernel⟩
set_option maxRecDepth 1000000 in
theorem hm_ok29 : hc_MOK hm_m29 := ⟨hc_in (p := 997) rfl rfl, by decide +kernel, by decide +kernel, hc_in (p := 96) (by decide +kernel) rfl, by decide +kernel, by decide +kernel, hf_rws_ok (by decide +kernel), by decide +kernel, by decide +kernel⟩
set_option maxRecDepth 1000000 in
theorem hm_ok30 : hc_MOK hm_m30 := ⟨hc_in (p := 984) rfl rfl, by decide +kernel, by decide +kernel, hc_in (p := 96) (by decide +kernel) rfl, by decide +kernel, by decide +kernel, hf_rws_ok (by decide +kernel), by decide +kernel, by decide +kernel⟩
set_option maxRecDepth 1000000 in
theorem hm_ok31 : hc_MOK hm_m31 := ⟨hc_in (p := 968) rfl rfl, by decide +kernel, by decide +kernel, hc_in (p := 96) (by decide +kernel) rfl, by decide +kernel, by decide +kernel, hf_rws_ok (by decide +kernel), by decide +kernel, by decide +kernel⟩
set_option maxRecDepth 1000000 in
theorem hm_ok32 : hc_MOK hm_m32 := ⟨hc_in (p := 1071) rfl rfl, by decide +kernel, by decide +kernel, hc_in (p := 96) (by decide +kernel) rfl, by decide +kernel, by decide +kernel, hf_rws_ok (by decide +kernel), by decide +kernel, by decide +kernel⟩
set_option maxRecDepth 1000000 in
theorem hm_ok33 : hc_MOK hm_m33 := ⟨hc_in (p := 310) rfl rfl, by decide +kernel, by decide +kernel, hc_in (p := 97) (by decide +kernel) rfl, by decide +kernel, by decide +kernel, hf_rws_ok (by decide +kernel), by decide +kernel, by decide +kernel⟩
set_option maxRecDepth 1000000 in
theorem hm_ok34 : hc_MOK hm_m34 := ⟨hc_in (p := 783) rfl rfl, by decide +kernel, by decide +kernel, hc_in (p := 97) (by decide +kernel) rfl, by decide +kernel, by decide +kernel, hf_rws_ok (by decide +kernel), by decide +kernel, by decide +kernel⟩
set_option maxRecDepth 1000000 in
theorem hm_ok35 : hc_MOK hm_m35 := ⟨hc_in (p := 853) rfl rfl, by decide +kernel, by decide +kernel, hc_in (p := 97) (by decide +kernel) rfl, by decide +kernel, by decide +kernel, hf_rws_ok (by decide +kernel), by decide +kernel, by decide +kernel⟩
set_option maxRecDepth 1000000 in
theorem hm_ok36 : hc_MOK hm_m36 := ⟨hc_in (p := 197) rfl rfl, by decide +kernel, by decide +kernel, hc_in (p := 94) (by decide +kernel) rfl, by decide +kernel, by decide +kernel, hf_rws_ok (by decide +kernel), by decide +kernel, by decide +kernel⟩
set_option maxRecDepth 1000000 in
theorem hm_ok37 : hc_MOK hm_m37 := ⟨hc_in (p := 480) rfl rfl, by decide +kernel, by decide +kernel, hc_in (p := 94) (by decide +kernel) rfl, by decide +kernel, by decide +kernel, hf_rws_ok (by decide +kernel), by decide +kernel, by decide +kernel⟩
set_option maxRecDepth 1000000 in
theorem hm_ok38 : hc_MOK hm_m38 := ⟨hc_in (p := 618) rfl rfl, by decide +kernel, by decide +kernel, hc_in (p := 94) (by decide +kernel) rfl, by decide +kernel, by decide +kernel, hf_rws_ok (by decide +kernel), by decide +kernel, by decide +kernel⟩
set_option maxRecDepth 1000000 in
theorem hm_ok39 : hc_MOK hm_m39 := ⟨hc_in (p := 626) rfl rfl, by decide +kernel, by decide +kernel, hc_in (p := 94) (by decide +kernel) rfl, by decide +kernel, by decide +kernel, hf_rws_ok (by decide +kernel), by decide +kernel, by decide +kernel⟩
set_option maxRecDepth 1000000 in
theorem hm_ok40 : hc_MOK hm_m40 := ⟨hc_in (p := 638) rfl rfl, by decide +kernel, by decide +kernel, hc_in (p := 94) (by decide +kernel) rfl, by decide +kernel, by decide +kernel, hf_rws_ok (by decide +kernel), by decide +kernel, by decide +kernel⟩
set_option maxRecDepth 1000000 in
theorem hm_ok41 : hc_MOK hm_m41 := ⟨hc_in (p := 630) rfl rfl, by decide +kernel, by decide +kernel, hc_in (p := 94) (by decide +kernel) rfl, by decide +kernel, by decide +kernel, hf_rws_ok (by decide +kernel), by decide +kernel, by decide +kernel⟩
set_option maxRecDepth 1000000 in
theorem hm_ok42 : hc_MOK hm_m42 := ⟨hc_in (p := 649) rfl rfl, by decide +kernel, by decide +kernel, hc_in (p := 94) (by decide +kernel) rfl, by decide +kernel, by decide +kernel, hf_rws_ok (by decide +kernel), by decide +kernel, by decide +kernel⟩
set_option maxRecDepth 1000000 in
theorem hm_ok43 : hc_MOK hm_m43 := ⟨hc_in (p := 642) rfl rfl, by decide +kernel, by decide +kernel, hc_in (p := 94) (by decide +kernel) rfl, by decide +kernel, by decide +kernel, hf_rws_ok (by decide +kernel), by decide +kernel, by decide +kernel⟩
set_option maxRecDepth 1000000 in
theorem hm_ok44 : hc_MOK hm_m44 := ⟨hc_in (p := 634) rfl rfl, by decide +kernel, by decide +kernel, hc_in (p := 94) (by decide +kernel) rfl, by decide +kernel, by decide +kernel, hf_rws_ok (by decide +kernel), by decide +kernel, by decide +kernel⟩
set_option maxRecDepth 1000000 in
theorem hm_ok45 : hc_MOK hm_m45 := ⟨hc_in (p := 622) rfl rfl, by decide +kernel, by decide +kernel, hc_in (p := 94) (by decide +kernel) rfl, by decide +kernel, by decide +kernel, hf_rws_ok (by decide +kernel), by decide +kernel, by decide +kernel⟩
set_option maxRecDepth 1000000 in
theorem hm_ok46 : hc_MOK hm_m46 := ⟨hc_in (p := 657) rfl rfl, by decide +kernel, by decide +kernel, hc_in (p := 94) (by decide +kernel) rfl, by decide +kernel, by decide +kernel, hf_rws_ok (by decide +kernel), by decide +kernel, by decide +kernel⟩
set_option maxRecDepth 1000000 in
theorem hm_ok47 : hc_MOK hm_m47 := ⟨hc_in (p := 692) rfl rfl, by decide +kernel, by decide +kernel, hc_in (p := 94) (by decide +kernel) rfl, by decide +kernel, by decide +kernel, hf_rws_ok (by decide +kernel), by decide +kernel, by decide +kernel⟩
set_option maxRecDepth 1000000 in
theorem hm_ok48 : hc_MOK hm_m48 := ⟨hc_in (p := 696) rfl rfl, by decide +kernel, by decide +kernel, hc_in (p := 94) (by decide +kernel) rfl, by decide +kernel, by decide +kernel, hf_rws_ok (by decide +kernel), by decide +kernel, by decide +kernel⟩
set_option maxRecDepth 1000000 in
theorem hm_ok49 : hc_MOK hm_m49 := ⟨hc_in (p := 666) rfl rfl, by decide +kernel, by decide +kernel, hc_in (p := 94) (by decide +kernel) rfl, by decide +kernel, by decide +kernel, hf_rws_ok (by decide +kernel), by decide +kernel, by decide +kernel⟩
set_option maxRecDepth 1000000 in
theorem hm_ok50 : hc_MOK hm_m50 := ⟨hc_in (p := 674) rfl rfl, by decide +kernel, by decide +kernel, hc_in (p := 94) (by decide +kernel) rfl, by decide +kernel, by decide +kernel, hf_rws_ok (by decide +kernel), by decide +kernel, by decide +kernel⟩
set_option maxRecDepth 1000000 in
theorem hm_ok51 : hc_MOK hm_m51 := ⟨hc_in (p := 678) rfl rfl, by decide +kernel, by decide +kernel, hc_in (p := 94) (by decide +kernel) rfl, by decide +kernel, by decide +kernel, hf_rws_ok (by decide +kernel), by decide +kernel, by decide +kernel⟩
set_option maxRecDepth 1000000 in
theorem hm_ok52 : hc_MOK hm_m52 := ⟨hc_in (p := 682) rfl rfl, by decide +kernel, by decide +kernel, hc_in (p := 94) (by decide +kernel) rfl, by decide +kernel, by decide +kernel, hf_rws_ok (by decide +kernel), by decide +kernel, by decide +kernel⟩
set_option maxRecDepth 1000000 in
theorem hm_ok53 : hc_MOK hm_m53 := ⟨hc_in (p := 123) rfl rfl, by decide +kernel, by decide +kernel, hc_in (p := 92) (by decide +kernel) rfl, by decide +kernel, by decide +kernel, hf_rws_ok (by decide +kernel), by decide +kernel, by decide +kernel⟩
set_option maxRecDepth 1000000 in
theorem hm_ok54 : hc_MOK hm_m54 := ⟨hc_in (p := 389) rfl rfl, by decide +kernel, by decide +kernel, hc_in (p := 92) (by decide +kernel) rfl, by decide +kernel, by decide +kernel, hf_rws_ok (by decide +kernel), by decide +kernel, by decide +kernel⟩
set_option maxRecDepth 1000000 in
theorem hm_ok55 : hc_MOK hm_m55 := ⟨hc_in (p := 653) rfl rfl, by decide +kernel, by decide +kernel, hc_in (p := 92) (by decide +kernel) rfl, by decide +kernel, by decide +kernel, hf_rws_ok (by decide +kernel), by decide +kernel, by decide +kernel⟩
set_option maxRecDepth 1000000 in
theorem hm_ok56 : hc_MOK hm_m56 := ⟨hc_in (p := 661) rfl rfl, by decide +kernel, by decide +kernel, hc_in (p := 92) (by decide +kernel) rfl, by decide +kernel, by decide +kernel, hf_rws_ok (by decide +kernel), by decide +kernel, by decide +kernel⟩
set_option maxRecDepth 1000000 in
theorem hm_ok57 : hc_MOK hm_m57 := ⟨hc_in (p := 203) rfl rfl, by decide +kernel, by decide +kernel, hc_in (p := 95) (by decide +kernel) rfl, by decide +kernel, by decide +kernel, hf_rws_ok (by decide +kernel), by decide +kernel, by decide +kernel⟩
set_option maxRecDepth 1000000 in
theorem hm_ok58 : hc_MOK hm_m58 := ⟨hc_in (p := 485) rfl rfl, by decide +kernel, by decide +kernel, hc_in (p := 95) (by decide +kernel) rfl, by decide +kernel, by decide +kernel, hf_rws_ok (by decide +kernel), by decide +kernel, by decide +kernel⟩
set_option maxRecDepth 1000000 in
theorem hm_ok59 : hc_MOK hm_m59 := ⟨hc_in (p := 488) rfl rfl, by decide +kernel, by decide +kernel, hc_in (p := 95) (by decide +kernel) rfl, by decide +kernel, by decide +kernel, hf_rws_ok (by decide +kernel), by decide +kernel, by decide +kernel⟩
set_option maxRecDepth 1000000 in
theorem hm_ok60 : hc_MOK hm_m60 := ⟨hc_in (p := 492) rfl rfl, by decide +kernel, by decide +kernel, hc_in (p := 95) (by decide +kernel) rfl, by decide +kernel, by decide +kernel, hf_rws_ok (by decide +kernel), by decide +kernel, by decide +kernel⟩
set_option maxRecDepth 1000000 in
theorem hm_ok61 : hc_MOK hm_m61 := ⟨hc_in (p := 496) rfl rfl, by decide +kernel, by decide +kernel, hc_in (p := 95) (by decide +kernel) rfl, by decide +kernel, by decide +kernel, hf_rws_ok (by decide +kernel), by decide +kernel, by decide +kernel⟩
set_option maxRecDepth 1000000 in
theorem hm_ok62 : hc_MOK hm_m62 := ⟨hc_in (p := 499) rfl rfl, by decide +kernel, by decide +kernel, hc_in (p := 95) (by decide +kernel) rfl, by decide +kernel, by decide +kernel, hf_rws_ok (by decide +kernel), by decide +kernel, by decide +kernel⟩
set_option maxRecDepth 1000000 in
theorem hm_ok63 : hc_MOK hm_m63 := ⟨hc_in (p := 552) rfl rfl, by decide +kernel, by decide +kernel, hc_in (p := 95) (by decide +kernel) rfl, by decide +kernel, by decide +kernel, hf_rws_ok (by decide +kernel), by decide +kernel, by decide +kernel⟩
set_option maxRecDepth 1000000 in
theorem hm_ok64 : hc_MOK hm_m64 := ⟨hc_in (p := 371) rfl rfl, by decide +kernel, by decide +kernel, hc_in (p := 100) (by decide +kernel) rfl, by decide +kernel, by decide +kernel, hf_rws_ok (by decide +kernel), by decide +kernel, by decide +kernel⟩
set_option maxRecDepth 1000000 in
theorem hm_ok65 : hc_MOK hm_m65 := ⟨hc_in (p := 1029) rfl rfl, by decide +kernel, by decide +kernel, hc_in (p := 100) (by decide +kernel) rfl, by decide +kernel, by decide +kernel, hf_rws_ok (by decide +kernel), by decide +kernel, by decide +kernel⟩
set_option maxRecDepth 1000000 in
theorem hm_ok66 : hc_MOK hm_m66 := ⟨hc_in (p := 355) rfl rfl, by decide +kernel, by decide +kernel, hc_in (p := 99) (by decide +kernel) rfl, by decide +kernel, by decide +kernel, hf_rws_ok (by decide +kernel), by decide +kernel, by decide +kernel⟩
set_option maxRecDepth 1000000 in
theorem hm_ok67 : hc_MOK hm_m67 := ⟨hc_in (p := 865) rfl rfl, by decide +kernel, by decide +kernel, hc_in (p := 99) (by decide +kernel) rfl, by decide +kernel, by decide +kernel, hf_rws_ok (by decide +kernel), by decide +kernel, by decide +kernel⟩
set_option maxRecDepth 1000000 in
theorem hm_ok68 : hc_MOK hm_m68 := ⟨hc_in (p := 869) rfl rfl, by decide +kernel, by decide +kernel, hc_in (p := 99) (by decide +kernel) rfl, by decide +kernel, by decide +kernel, hf_rws_ok (by decide +kernel), by decide +kernel, by decide +kernel⟩
set_option maxRecDepth 1000000 in
theorem hm_ok69 : hc_MOK hm_m69 := ⟨hc_in (p := 115) rfl rfl, by decide +kernel, by decide +kernel, hc_in (p := 91) (by decide +kernel) rfl, by decide +kernel, by decide +kernel, hf_rws_ok (by decide +kernel), by decide +kernel, by decide +kernel⟩
set_option maxRecDepth 1000000 in
theorem hm_ok70 : hc_MOK hm_m70 := ⟨hc_in (p := 464) rfl rfl, by decide +kernel, by decide +kernel, hc_in (p := 91) (by decide +kernel) rfl, by decide +kernel, by decide +kernel, hf_rws_ok (by decide +kernel), by decide +kernel, by decide +kernel⟩
set_option maxRecDepth 1000000 in
theorem hm_ok71 : hc_MOK hm_m71 := ⟨hc_in (p := 468) rfl rfl, by decide +kernel, by decide +kernel, hc_in (p := 91) (by decide +kernel) rfl, by decide +kernel, by decide +kernel, hf_rws_ok (by decide +kernel), by decide +kernel, by decide +kernel⟩
set_option maxRecDepth 1000000 in
theorem hm_ok72 : hc_MOK hm_m72 := ⟨hc_in (p := 472) rfl rfl, by decide +kernel, by decide +kernel, hc_in (p := 91) (by decide +kernel) rfl, by decide +kernel, by decide +kernel, hf_rws_ok (by decide +kernel), by decide +kernel, by decide +kernel⟩
set_option maxRecDepth 1000000 in
theorem hm_ok73 : hc_MOK hm_m73 := ⟨hc_in (p := 476) rfl rfl, by decide +kernel, by decide +kernel, hc_in (p := 91) (by decide +kernel) rfl, by decide +kernel, by decide +kernel, hf_rws_ok (by decide +kernel), by decide +kernel, by decide +kernel⟩
set_option maxRecDepth 1000000 in
theorem hm_ok74 : hc_MOK hm_m74 := ⟨hc_in (p := 700) rfl rfl, by decide +kernel, by decide +kernel, hc_in (p := 91) (by decide +kernel) rfl, by decide +kernel, by decide +kernel, hf_rws_ok (by decide +kernel), by decide +kernel, by decide +kernel⟩
set_option maxRecDepth 1000000 in
theorem hm_ok75 : hc_MOK hm_m75 := ⟨hc_in (p := 704) rfl rfl, by decide +kernel, by decide +kernel, hc_in (p := 91) (by decide +kernel) rfl, by decide +kernel, by decide +kernel, hf_rws_ok (by decide +kernel), by decide +kernel, by decide +kernel⟩
set_option maxRecDepth 1000000 in
theorem hm_ok76 : hc_MOK hm_m76 := ⟨hc_in (p := 712) rfl rfl, by decide +kernel, by decide +kernel, hc_in (p := 91) (by decide +kernel) rfl, by decide +kernel, by decide +kernel, hf_rws_ok (by decide +kernel), by decide +kernel, by decide +kernel⟩
set_option maxRecDepth 1000000 in
theorem hm_ok77 : hc_MOK hm_m77 := ⟨hc_in (p := 757) rfl rfl, by decide +kernel, by decide +kernel, hc_in (p := 91) (by decide +kernel) rfl, by decide +kernel, by decide +kernel, hf_rws_ok (by decide +kernel), by decide +kernel, by decide +kernel⟩
set_option maxRecDepth 1000000 in
theorem hm_ok78 : hc_MOK hm_m78 := ⟨hc_in (p := 645) rfl rfl, by decide +kernel, by decide +kernel, hc_in (p := 91) (by decide +kernel) rfl, by decide +kernel, by decide +kernel, hf_rws_ok (by decide +kernel), by decide +kernel, by decide +kernel⟩
set_option maxRecDepth 1000000 in
theorem hm_ok79 : hc_MOK hm_m79 := ⟨hc_in (p := 708) rfl rfl, by decide +kernel, by decide +kernel, hc_in (p := 91) (by decide +kernel) rfl, by decide +kernel, by decide +kernel, hf_rws_ok (by decide +kernel), by decide +kernel, by decide +kernel⟩
set_option maxRecDepth 1000000 in
theorem hm_ok80 : hc_MOK hm_m80 := ⟨hc_in (p := 720) rfl rfl, by decide +kernel, by decide +kernel, hc_in (p := 91) (by decide +kernel) rfl, by decide +kernel, by decide +kernel, hf_rws_ok (by decide +kernel), by decide +kernel, by decide +kernel⟩
set_option maxRecDepth 1000000 in
theorem hm_ok81 : hc_MOK hm_m81 := ⟨hc_in (p := 754) rfl rfl, by decide +kernel, by decide +kernel, hc_in (p := 91) (by decide +kernel) rfl, by decide +kernel, by decide +kernel, hf_rws_ok (by decide +kernel), by decide +kernel, by decide +kernel⟩
set_option maxRecDepth 1000000 in
theorem hm_ok82 : hc_MOK hm_m82 := ⟨hc_in (p := 779) rfl rfl, by decide +kernel, by decide +kernel, hc_in (p := 91) (by decide +kernel) rfl, by decide +kernel, by decide +kernel, hf_rws_ok (by decide +kernel), by decide +kernel, by decide +kernel⟩
set_option maxRecDepth 1000000 in
theorem hm_ok83 : hc_MOK hm_m83 := ⟨hc_in (p := 775) rfl rfl, by decide +kernel, by decide +kernel, hc_in (p := 91) (by decide +kernel) rfl, by decide +kernel, by decide +kernel, hf_rws_ok (by decide +kernel), by decide +kernel, by decide +kernel⟩
set_option maxRecDepth 1000000 in
theorem hm_ok84 : hc_MOK hm_m84 := ⟨hc_in (p := 794) rfl rfl, by decide +kernel, by decide +kernel, hc_in (p := 91) (by decide +kernel) rfl, by decide +kernel, by decide +kernel, hf_rws_ok (by decide +kernel), by decide +kernel, by decide +kernel⟩
set_option maxRecDepth 1000000 in
theorem hm_ok85 : hc_MOK hm_m85 := ⟨hc_in (p := 798) rfl rfl, by decide +kernel, by decide +kernel, hc_in (p := 91) (by decide +kernel) rfl, by decide +kernel, by decide +kernel, hf_rws_ok (by decide +kernel), by decide +kernel, by decide +kernel⟩
set_option maxRecDepth 1000000 in
theorem hm_ok86 : hc_MOK hm_m86 := ⟨hc_in (p := 806) rfl rfl, by decide +kernel, by decide +kernel, hc_in (p := 91) (by decide +kernel) rfl, by decide +kernel, by decide +kernel, hf_rws_ok (by decide +kernel), by decide +kernel, by decide +kernel⟩
set_option maxRecDepth 1000000 in
theorem hm_ok87 : hc_MOK hm_m87 := ⟨hc_in (p := 817) rfl rfl, by decide +kernel, by decide +kernel, hc_in (p := 91) (by decide +kernel) rfl, by decide +kernel, by decide +kernel, hf_rws_ok (by decide +kernel), by decide +kernel, by decide +kernel⟩
set_option maxRecDepth 1000000 in
theorem hm_ok88 : hc_MOK hm_m88 := ⟨hc_in (p := 849) rfl rfl, by decide +kernel, by decide +kernel, hc_in (p := 91) (by decide +kernel) rfl, by decide +kernel, by decide +kernel, hf_rws_ok (by decide +kernel), by decide +kernel, by decide +kernel⟩
set_option maxRecDepth 1000000 in
theorem hm_ok89 : hc_MOK hm_m89 := ⟨hc_in (p := 861) rfl rfl, by decide +kernel, by decide +kernel, hc_in (p := 91) (by decide +kernel) rfl, by decide +kernel, by decide +kernel, hf_rws_ok (by decide +kernel), by decide +kernel, by decide +kernel⟩
set_option maxRecDepth 1000000 in
theorem hm_ok90 : hc_MOK hm_m90 := ⟨hc_in (p := 934) rfl rfl, by decide +kernel, by decide +kernel, hc_in (p := 91) (by decide +kernel) rfl, by decide +kernel, by decide +kernel, hf_rws_ok (by decide +kernel), by decide +kernel, by decide +kernel⟩
set_option maxRecDepth 1000000 in
theorem hm_ok91 : hc_MOK hm_m91 := ⟨hc_in (p := 857) rfl rfl, by decide +kernel, by decide +kernel, hc_in (p := 91) (by decide +kernel) rfl, by decide +kernel, by decide +kernel, hf_rws_ok (by decide +kernel), by decide +kernel, by decide +kernel⟩
set_option maxRecDepth 1000000 in
theorem hm_ok92 : hc_MOK hm_m92 := ⟨hc_in (p := 881) rfl rfl, by decide +kernel, by decide +kernel, hc_in (p := 91) (by decide +kernel) rfl, by decide +kernel, by decide +kernel, hf_rws_ok (by decide +kernel), by decide +kernel, by decide +kernel⟩
set_option maxRecDepth 1000000 in
theorem hm_ok93 : hc_MOK hm_m93 := ⟨hc_in (p := 885) rfl rfl, by decide +kernel, by decide +kernel, hc_in (p := 91) (by decide +kernel) rfl, by decide +kernel, by decide +kernel, hf_rws_ok (by decide +kernel), by decide +kernel, by decide +kernel⟩
set_option maxRecDepth 1000000 in
theorem hm_ok94 : hc_MOK hm_m94 := ⟨hc_in (p := 889) rfl rfl, by decide +kernel, by decide +kernel, hc_in (p := 91) (by decide +kernel) rfl, by decide +kernel, by decide +kernel, hf_rws_ok (by decide +kernel), by decide +kernel, by decide +kernel⟩
set_option maxRecDepth 1000000 in
theorem hm_ok95 : hc_MOK hm_m95 := ⟨hc_in (p := 894) rfl rfl, by decide +kernel, by decide +kernel, hc_in (p := 91) (by decide +kernel) rfl, by decide +kernel, by decide +kernel, hf_rws_ok (by decide +kernel), by decide +kernel, by decide +kernel⟩
set_option maxRecDepth 1000000 in
theorem hm_ok96 : hc_MOK hm_m96 := ⟨hc_in (p := 898) rfl rfl, by decide +kernel, by decide +kernel, hc_in (p := 91) (by decide +kernel) rfl, by decide +kernel, by decide +kernel, hf_rws_ok (by decide +kernel), by decide +kernel, by decide +kernel⟩
set_option maxRecDepth 1000000 in
theorem hm_ok97 : hc_MOK hm_m97 := ⟨hc_in (p := 902) rfl rfl, by decide +kernel, by decide +kernel, hc_in (p := 91) (by decide +kernel) rfl, by decide +kernel, by decide +kernel, hf_rws_ok (by decide +kernel), by decide +kernel, by decide +kernel⟩
set_option maxRecDepth 1000000 in
theorem hm_ok98 : hc_MOK hm_m98 := ⟨hc_in (p := 906) rfl rfl, by decide +kernel, by decide +kernel, hc_in (p := 91) (by decide +kernel) rfl, by decide +kernel, by decide +kernel, hf_rws_ok (by decide +kernel), by decide +kernel, by decide +kernel⟩
set_option maxRecDepth 1000000 in
theorem hm_ok99 : hc_MOK hm_m99 := ⟨hc_in (p := 910) rfl rfl, by decide +kernel, by decide +kernel, hc_in (p := 91) (by decide +kernel) rfl, by decide +kernel, by decide +kernel, hf_rws_ok (by decide +kernel), by decide +kernel, by decide +kernel⟩
set_option maxRecDepth 1000000 in
theorem hm_ok100 : hc_MOK hm_m100 := ⟨hc_in (p := 914) rfl rfl, by decide +kernel, by decide +kernel, hc_in (p := 91) (by decide +kernel) rfl, by decide +kernel, by decide +kernel, hf_rws_ok (by decide +kernel), by decide +kernel, by decide +kernel⟩
set_option maxRecDepth 1000000 in
theorem hm_ok101 : hc_MOK hm_m101 := ⟨hc_in (p := 918) rfl rfl, by decide +kernel, by decide +kernel, hc_in (p := 91) (by decide +kernel) rfl, by decide +kernel, by decide +kernel, hf_rws_ok (by decide +kernel), by decide +kernel, by decide +kernel⟩
set_option maxRecDepth 1000000 in
theorem hm_ok102 : hc_MOK hm_m102 := ⟨hc_in (p := 922) rfl rfl, by decide +kernel, by decide +kernel, hc_in (p := 91) (by decide +kernel) rfl, by decide +kernel, by decide +kernel, hf_rws_ok (by decide +kernel), by decide +kernel, by decide +kernel⟩
set_option maxRecDepth 1000000 in
theorem hm_ok103 : hc_MOK hm_m103 := ⟨hc_in (p := 926) rfl rfl, by decide +kernel, by decide +kernel, hc_in (p := 91) (by decide +kernel) rfl, by decide +kernel, by decide +kernel, hf_rws_ok (by decide +kernel), by decide +kernel, by decide +kernel⟩
set_option maxRecDepth 1000000 in
theorem hm_ok104 : hc_MOK hm_m104 := ⟨hc_in (p := 939) rfl rfl, by decide +kernel, by decide +kernel, hc_in (p := 91) (by decide +kernel) rfl, by decide +kernel, by decide +kernel, hf_rws_ok (by decide +kernel), by decide +kernel, by decide +kernel⟩
set_option maxRecDepth 1000000 in
theorem hm_ok105 : hc_MOK hm_m105 := ⟨hc_in (p := 943) rfl rfl, by decide +kernel, by decide +kernel, hc_in (p := 91) (by decide +kernel) rfl, by decide +kernel, by decide +kernel, hf_rws_ok (by decide +kernel), by decide +kernel, by decide +kernel⟩
set_option maxRecDepth 1000000 in
theorem hm_ok106 : hc_MOK hm_m106 := ⟨hc_in (p := 947) rfl rfl, by decide +kernel, by decide +kernel, hc_in (p := 91) (by decide +kernel) rfl, by decide +kernel, by decide +kernel, hf_rws_ok (by decide +kernel), by decide +kernel, by decide +kernel⟩
set_option maxRecDepth 1000000 in
theorem hm_ok107 : hc_MOK hm_m107 := ⟨hc_in (p := 964) rfl rfl, by decide +kernel, by decide +kernel, hc_in (p := 91) (by decide +kernel) rfl, by decide +kernel, by decide +kernel, hf_rws_ok (by decide +kernel), by decide +kernel, by decide +kernel⟩
set_option maxRecDepth 1000000 in
theorem hm_ok108 : hc_MOK hm_m108 := ⟨hc_in (p := 951) rfl rfl, by decide +kernel, by decide +kernel, hc_in (p := 91) (by decide +kernel) rfl, by decide +kernel, by decide +kernel, hf_rws_ok (by decide +kernel), by decide +kernel, by decide +kernel⟩
set_option maxRecDepth 1000000 in
theorem hm_ok109 : hc_MOK hm_m109 := ⟨hc_in (p := 955) rfl rfl, by decide +kernel, by decide +kernel, hc_in (p := 91) (by decide +kernel) rfl, by decide +kernel, by decide +kernel, hf_rws_ok (by decide +kernel), by decide +kernel, by decide +kernel⟩
set_option maxRecDepth 1000000 in
theorem hm_ok110 : hc_MOK hm_m110 := ⟨hc_in (p := 960) rfl rfl, by decide +kernel, by decide +kernel, hc_in (p := 91) (by decide +kernel) rfl, by decide +kernel, by decide +kernel, hf_rws_ok (by decide +kernel), by decide +kernel, by decide +kernel⟩
set_option maxRecDepth 1000000 in
theorem hm_ok111 : hc_MOK hm_m111 := ⟨hc_in (p := 972) rfl rfl, by decide +kernel, by decide +kernel, hc_in (p := 91) (by decide +kernel) rfl, by decide +kernel, by decide +kernel, hf_rws_ok (by decide +kernel), by decide +kernel, by decide +kernel⟩
set_option maxRecDepth 1000000 in
theorem hm_ok112 : hc_MOK hm_m112 := ⟨hc_in (p := 976) rfl rfl, by decide +kernel, by decide +kernel, hc_in (p := 91) (by decide +kernel) rfl, by decide +kernel, by decide +kernel, hf_rws_ok (by decide +kernel), by decide +kernel, by decide +kernel⟩
set_option maxRecDepth 1000000 in
theorem hm_ok113 : hc_MOK hm_m113 := ⟨hc_in (p := 980) rfl rfl, by decide +kernel, by decide +kernel, hc_in (p := 91) (by decide +kernel) rfl, by decide +kernel, by decide +kernel, hf_rws_ok (by decide +kernel), by decide +kernel, by decide +kernel⟩
set_option maxRecDepth 1000000 in
theorem hm_ok114 : hc_MOK hm_m114 := ⟨hc_in (p := 989) rfl rfl, by decide +kernel, by decide +kernel, hc_in (p := 91) (by decide +kernel) rfl, by decide +kernel, by decide +kernel, hf_rws_ok (by decide +kernel), by decide +kernel, by decide +kernel⟩
set_option maxRecDepth 1000000 in
theorem hm_ok115 : hc_MOK hm_m115 := ⟨hc_in (p := 993) rfl rfl, by decide +kernel, by decide +kernel, hc_in (p := 91) (by decide +kernel) rfl, by decide +kernel, by decide +kernel, hf_rws_ok (by decide +kernel), by decide +kernel, by decide +kernel⟩
set_option maxRecDepth 1000000 in
theorem hm_ok116 : hc_MOK hm_m116 := ⟨hc_in (p := 1001) rfl rfl, by decide +kernel, by decide +kernel, hc_in (p := 91) (by decide +kernel) rfl, by decide +kernel, by decide +kernel, hf_rws_ok (by decide +kernel), by decide +kernel, by decide +kernel⟩
set_option maxRecDepth 1000000 in
theorem hm_ok117 : hc_MOK hm_m117 := ⟨hc_in (p := 1005) rfl rfl, by decide +kernel, by decide +kernel, hc_in (p := 91) (by decide +kernel) rfl, by decide +kernel, by decide +kernel, hf_rws_ok (by decide +kernel), by decide +kernel, by decide +kernel⟩
set_option maxRecDepth 1000000 in
theorem hm_ok118 : hc_MOK hm_m118 := ⟨hc_in (p := 1009) rfl rfl, by decide +kernel, by decide +kernel, hc_in (p := 91) (by decide +kernel) rfl, by decide +kernel, by decide +kernel, hf_rws_ok (by decide +kernel), by decide +kernel, by decide +kernel⟩
set_option maxRecDepth 1000000 in
theorem hm_ok119 : hc_MOK hm_m119 := ⟨hc_in (p := 1013) rfl rfl, by decide +kernel, by decide +kernel, hc_in (p := 91) (by decide +kernel) rfl, by decide +kernel, by decide +kernel, hf_rws_ok (by decide +kernel), by decide +kernel, by decide +kernel⟩
set_option maxRecDepth 1000000 in
theorem hm_ok120 : hc_MOK hm_m120 := ⟨hc_in (p := 1017) rfl rfl, by decide +kernel, by decide +kernel, hc_in (p := 91) (by decide +kernel) rfl, by decide +kernel, by decide +kernel, hf_rws_ok (by decide +kernel), by decide +kernel, by decide +kernel⟩
set_option maxRecDepth 1000000 in
theorem hm_ok121 : hc_MOK hm_m121 := ⟨hc_in (p := 1021) rfl rfl, by decide +kernel, by decide +kernel, hc_in (p := 91) (by decide +kernel) rfl, by decide +kernel, by decide +kernel, hf_rws_ok (by decide +kernel), by decide +kernel, by decide +kernel⟩
set_option maxRecDepth 1000000 in
theorem hm_ok122 : hc_MOK hm_m122 := ⟨hc_in (p := 1025) rfl rfl, by decide +kernel, by decide +kernel, hc_in (p := 91) (by decide +kernel) rfl, by decide +kernel, by decide +kernel, hf_rws_ok (by decide +kernel), by decide +kernel, by decide +kernel⟩
set_option maxRecDepth 1000000 in
theorem hm_ok123 : hc_MOK hm_m123 := ⟨hc_in (p := 1033) rfl rfl, by decide +kernel, by decide +kernel, hc_in (p := 91) (by decide +kernel) rfl, by decide +kernel, by decide +kernel, hf_rws_ok (by decide +kernel), by decide +kernel, by decide +kernel⟩
set_option maxRecDepth 1000000 in
theorem hm_ok124 : hc_MOK hm_m124 := ⟨hc_in (p := 1041) rfl rfl, by decide +kernel, by decide +kernel, hc_in (p := 91) (by decide +kernel) rfl, by decide +kernel, by decide +kernel, hf_rws_ok (by decide +kernel), by decide +kernel, by decide +kernel⟩
set_option maxRecDepth 1000000 in
theorem hm_ok125 : hc_MOK hm_m125 := ⟨hc_in (p := 1037) rfl rfl, by decide +kernel, by decide +kernel, hc_in (p := 91) (by decide +kernel) rfl, by decide +kernel, by decide +kernel, hf_rws_ok (by decide +kernel), by decide +kernel, by decide +kernel⟩
set_option maxRecDepth 1000000 in
theorem hm_ok126 : hc_MOK hm_m126 := ⟨hc_in (p := 1045) rfl rfl, by decide +kernel, by decide +kernel, hc_in (p := 91) (by decide +kernel) rfl, by decide +kernel, by decide +kernel, hf_rws_ok (by decide +kernel), by decide +kernel, by decide +kernel⟩
set_option maxRecDepth 1000000 in
theorem hm_ok127 : hc_MOK hm_m127 := ⟨hc_in (p := 1049) rfl rfl, by decide +kernel, by decide +kernel, hc_in (p := 91) (by decide +kernel) rfl, by decide +kernel, by decide +kernel, hf_rws_ok (by decide +kernel), by decide +kernel, by decide +kernel⟩
set_option maxRecDepth 1000000 in
theorem hm_ok128 : hc_MOK hm_m128 := ⟨hc_in (p := 1054) rfl rfl, by decide +kernel, by decide +kernel, hc_in (p := 91) (by decide +kernel) rfl, by decide +kernel, by decide +kernel, hf_rws_ok (by decide +kernel), by decide +kernel, by decide +kernel⟩
set_option maxRecDepth 1000000 in
theorem hm_ok129 : hc_MOK hm_m129 := ⟨hc_in (p := 1058) rfl rfl, by decide +kernel, by decide +kernel, hc_in (p := 91) (by decide +kernel) rfl, by decide +kernel, by decide +kernel, hf_rws_ok (by decide +kernel), by decide +kernel, by decide +kernel⟩
set_option maxRecDepth 1000000 in
theorem hm_ok130 : hc_MOK hm_m130 := ⟨hc_in (p := 1062) rfl rfl, by decide +kernel, by decide +kernel, hc_in (p := 91) (by decide +kernel) rfl, by decide +kernel, by decide +kernel, hf_rws_ok (by decide +kernel), by decide +kernel, by decide +kernel⟩
set_option maxRecDepth 1000000 in
theorem hm_ok131 : hc_MOK hm_m131 := ⟨hc_in (p := 1067) rfl rfl, by decide +kernel, by decide +kernel, hc_in (p := 91) (by decide +kernel) rfl, by decide +kernel, by decide +kernel, hf_rws_ok (by decide +kernel), by decide +kernel, by decide +kernel⟩
set_option maxRecDepth 1000000 in
theorem hm_ok132 : hc_MOK hm_m132 := ⟨hc_in (p := 1076) rfl rfl, by decide +kernel, by decide +kernel, hc_in (p := 102) (by decide +kernel) rfl, by decide +kernel, by decide +kernel, hf_rws_ok (by decide +kernel), by decide +kernel, by decide +kernel⟩
set_option maxRecDepth 1000000 in
theorem hm_ok133 : hc_MOK hm_m133 := ⟨hc_in (p := 1293) rfl rfl, by decide +kernel, by decide +kernel, hc_in (p := 102) (by decide +kernel) rfl, by decide +kernel, by decide +kernel, hf_rws_ok (by decide +kernel), by decide +kernel, by decide +kernel⟩
set_option maxRecDepth 1000000 in
theorem hm_ok134 : hc_MOK hm_m134 := ⟨hc_in (p := 1297) rfl rfl, by decide +kernel, by decide +kernel, hc_in (p := 102) (by decide +kernel) rfl, by decide +kernel, by decide +kernel, hf_rws_ok (by decide +kernel), by decide +kernel, by decide +kernel⟩
