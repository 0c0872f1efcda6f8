set_option maxRecDepth 1000000 in
theorem hm_ok0 : hc_MOK hm_m0 := ⟨hc_in (p := 330) rfl rfl, by decide +kernel, by decide +kernel, hc_in (p := 98) (by decide +kernel) rfl, by decide +kernel, by decide +kernel, by decide +kernel, by decide +kernel, by decide +kernel⟩
set_option maxRecDepth 1000000 in
theorem hm_ok1 : hc_MOK hm_m1 := ⟨hc_in (p := 724) rfl rfl, by decide +kernel, by decide +kernel, hc_in (p := 98) (by decide +kernel) rfl, by decide +kernel, by decide +kernel, by decide +kernel, by decide +kernel, by decide +kernel⟩
set_option maxRecDepth 1000000 in
theorem hm_ok2 : hc_MOK hm_m2 := ⟨hc_in (p := 736) rfl rfl, by decide +kernel, by decide +kernel, hc_in (p := 98) (by decide +kernel) rfl, by decide +kernel, by decide +kernel, by decide +kernel, by decide +kernel, by decide +kernel⟩
set_option maxRecDepth 1000000 in
theorem hm_ok3 : hc_MOK hm_m3 := ⟨hc_in (p := 746) rfl rfl, by decide +kernel, by decide +kernel, hc_in (p := 98) (by decide +kernel) rfl, by decide +kernel, by decide +kernel, by decide +kernel, by decide +kernel, by decide +kernel⟩
set_option maxRecDepth 1000000 in
theorem hm_ok4 : hc_MOK hm_m4 := ⟨hc_in (p := 750) rfl rfl, by decide +kernel, by decide +kernel, hc_in (p := 98) (by decide +kernel) rfl, by decide +kernel, by decide +kernel, by decide +kernel, by decide +kernel, by decide +kernel⟩
set_option maxRecDepth 1000000 in
theorem hm_ok5 : hc_MOK hm_m5 := ⟨hc_in (p := 761) rfl rfl, by decide +kernel, by decide +kernel, hc_in (p := 98) (by decide +kernel) rfl, by decide +kernel, by decide +kernel, by decide +kernel, by decide +kernel, by decide +kernel⟩
set_option maxRecDepth 1000000 in
theorem hm_ok6 : hc_MOK hm_m6 := ⟨hc_in (p := 765) rfl rfl, by decide +kernel, by decide +kernel, hc_in (p := 98) (by decide +kernel) rfl, by decide +kernel, by decide +kernel, by decide +kernel, by decide +kernel, by decide +kernel⟩
set_option maxRecDepth 1000000 in
theorem hm_ok7 : hc_MOK hm_m7 := ⟨hc_in (p := 129) rfl rfl, by decide +kernel, by decide +kernel, hc_in (p := 93) (by decide +kernel) rfl, by decide +kernel, by decide +kernel, by decide +kernel, by decide +kernel, by decide +kernel⟩
set_option maxRecDepth 1000000 in
theorem hm_ok8 : hc_MOK hm_m8 := ⟨hc_in (p := 396) rfl rfl, by decide +kernel, by decide +kernel, hc_in (p := 93) (by decide +kernel) rfl, by decide +kernel, by decide +kernel, by decide +kernel, by decide +kernel, by decide +kernel⟩
set_option maxRecDepth 1000000 in
theorem hm_ok9 : hc_MOK hm_m9 := ⟨hc_in (p := 670) rfl rfl, by decide +kernel, by decide +kernel, hc_in (p := 93) (by decide +kernel) rfl, by decide +kernel, by decide +kernel, by decide +kernel, by decide +kernel, by decide +kernel⟩
set_option maxRecDepth 1000000 in
theorem hm_ok10 : hc_MOK hm_m10 := ⟨hc_in (p := 404) rfl rfl, by decide +kernel, by decide +kernel, hc_in (p := 93) (by decide +kernel) rfl, by decide +kernel, by decide +kernel, by decide +kernel, by decide +kernel, by decide +kernel⟩
set_option maxRecDepth 1000000 in
theorem hm_ok11 : hc_MOK hm_m11 := ⟨hc_in (p := 769) rfl rfl, by decide +kernel, by decide +kernel, hc_in (p := 93) (by decide +kernel) rfl, by decide +kernel, by decide +kernel, by decide +kernel, by decide +kernel, by decide +kernel⟩
set_option maxRecDepth 1000000 in
theorem hm_ok12 : hc_MOK hm_m12 := ⟨hc_in (p := 400) rfl rfl, by decide +kernel, by decide +kernel, hc_in (p := 93) (by decide +kernel) rfl, by decide +kernel, by decide +kernel, by decide +kernel, by decide +kernel, by decide +kernel⟩
set_option maxRecDepth 1000000 in
theorem hm_ok13 : hc_MOK hm_m13 := ⟨hc_in (p := 687) rfl rfl, by decide +kernel, by decide +kernel, hc_in (p := 93) (by decide +kernel) rfl, by decide +kernel, by decide +kernel, by decide +kernel, by decide +kernel, by decide +kernel⟩
set_option maxRecDepth 1000000 in
theorem hm_ok14 : hc_MOK hm_m14 := ⟨hc_in (p := 740) rfl rfl, by decide +kernel, by decide +kernel, hc_in (p := 93) (by decide +kernel) rfl, by decide +kernel, by decide +kernel, by decide +kernel, by decide +kernel, by decide +kernel⟩
set_option maxRecDepth 1000000 in
theorem hm_ok15 : hc_MOK hm_m15 := ⟨hc_in (p := 256) rfl rfl, by decide +kernel, by decide +kernel, hc_in (p := 96) (by decide +kernel) rfl, by decide +kernel, by decide +kernel, by decide +kernel, by decide +kernel, by decide +kernel⟩
set_option maxRecDepth 1000000 in
theorem hm_ok16 : hc_MOK hm_m16 := ⟨hc_in (p := 408) rfl rfl, by decide +kernel, by decide +kernel, hc_in (p := 96) (by decide +kernel) rfl, by decide +kernel, by decide +kernel, by decide +kernel, by decide +kernel, by decide +kernel⟩
set_option maxRecDepth 1000000 in
theorem hm_ok17 : hc_MOK hm_m17 := ⟨hc_in (p := 787) rfl rfl, by decide +kernel, by decide +kernel, hc_in (p := 96) (by decide +kernel) rfl, by decide +kernel, by decide +kernel, by decide +kernel, by decide +kernel, by decide +kernel⟩
set_option maxRecDepth 1000000 in
theorem hm_ok18 : hc_MOK hm_m18 := ⟨hc_in (p := 716) rfl rfl, by decide +kernel, by decide +kernel, hc_in (p := 96) (by decide +kernel) rfl, by decide +kernel, by decide +kernel, by decide +kernel, by decide +kernel, by decide +kernel⟩
set_option maxRecDepth 1000000 in
theorem hm_ok19 : hc_MOK hm_m19 := ⟨hc_in (p := 834) rfl rfl, by decide +kernel, by decide +kernel, hc_in (p := 96) (by decide +kernel) rfl, by decide +kernel, by decide +kernel, by decide +kernel, by decide +kernel, by decide +kernel⟩
set_option maxRecDepth 1000000 in
theorem hm_ok20 : hc_MOK hm_m20 := ⟨hc_in (p := 873) rfl rfl, by decide +kernel, by decide +kernel, hc_in (p := 96) (by decide +kernel) rfl, by decide +kernel, by decide +kernel, by decide +kernel, by decide +kernel, by decide +kernel⟩
set_option maxRecDepth 1000000 in
theorem hm_ok21 : hc_MOK hm_m21 := ⟨hc_in (p := 930) rfl rfl, by decide +kernel, by decide +kernel, hc_in (p := 96) (by decide +kernel) rfl, by decide +kernel, by decide +kernel, by decide +kernel, by decide +kernel, by decide +kernel⟩
set_option maxRecDepth 1000000 in
theorem hm_ok22 : hc_MOK hm_m22 := ⟨hc_in (p := 826) rfl rfl, by decide +kernel, by decide +kernel, hc_in (p := 96) (by decide +kernel) rfl, by decide +kernel, by decide +kernel, by decide +kernel, by decide +kernel, by decide +kernel⟩
set_option maxRecDepth 1000000 in
theorem hm_ok23 : hc_MOK hm_m23 := ⟨hc_in (p := 802) rfl rfl, by decide +kernel, by decide +kernel, hc_in (p := 96) (by decide +kernel) rfl, by decide +kernel, by decide +kernel, by decide +kernel, by decide +kernel, by decide +kernel⟩
set_option maxRecDepth 1000000 in
theorem hm_ok24 : hc_MOK hm_m24 := ⟨hc_in (p := 810) rfl rfl, by decide +kernel, by decide +kernel, hc_in (p := 96) (by decide +kernel) rfl, by decide +kernel, by decide +kernel, by decide +kernel, by decide +kernel, by decide +kernel⟩
set_option maxRecDepth 1000000 in
theorem hm_ok25 : hc_MOK hm_m25 := ⟨hc_in (p := 813) rfl rfl, by decide +kernel, by decide +kernel, hc_in (p := 96) (by decide +kernel) rfl, by decide +kernel, by decide +kernel, by decide +kernel, by decide +kernel, by decide +kernel⟩
set_option maxRecDepth 1000000 in
theorem hm_ok26 : hc_MOK hm_m26 := ⟨hc_in (p := 822) rfl rfl, by decide +kernel, by decide +kernel, hc_in (p := 96) (by decide +kernel) rfl, by decide +kernel, by decide +kernel, by decide +kernel, by decide +kernel, by decide +kernel⟩
set_option maxRecDepth 1000000 in
theorem hm_ok27 : hc_MOK hm_m27 := ⟨hc_in (p := 839) rfl rfl, by decide +kernel, by decide +kernel, hc_in (p := 96) (by decide +kernel) rfl, by decide +kernel, by decide +kernel, by decide +kernel, by decide +kernel, by decide +kernel⟩
set_option maxRecDepth 1000000 in
theorem hm_ok28 : hc_MOK hm_m28 := ⟨hc_in (p := 842) rfl rfl, by decide +kernel, by decide +kernel, hc_in (p := 96) (by decide +kernel) rfl, by decide +kernel, by decide +kernel, by decide +kernel, by decide +kernel, by decide +kernel⟩
set_option maxRecDepth 1000000 in
theorem hm_ok29 : hc_MOK hm_m29 := ⟨hc_in (p := 997) rfl rfl, by decide +kernel, by decide +kernel, hc_in (p := 96) (by decide +kernel) rfl, by decide +kernel, by decide +kernel, by decide +kernel, by decide +kernel, by decide +kernel⟩
set_option maxRecDepth 1000000 in
theorem hm_ok30 : hc_MOK hm_m30 := ⟨hc_in (p := 984) rfl rfl, by decide +kernel, by decide +kernel, hc_in (p := 96) (by decide +kernel) rfl, by decide +kernel, by decide +kernel, by decide +kernel, by decide +kernel, by decide +kernel⟩
set_option maxRecDepth 1000000 in
theorem hm_ok31 : hc_MOK hm_m31 := ⟨hc_in (p := 968) rfl rfl, by decide +kernel, by decide +kernel, hc_in (p := 96) (by decide +kernel) rfl, by decide +kernel, by decide +kernel, by decide +kernel, by decide +kernel, by decide +kernel⟩
set_option maxRecDepth 1000000 in
theorem hm_ok32 : hc_MOK hm_m32 := ⟨hc_in (p := 1071) rfl rfl, by decide +kernel, by decide +kernel, hc_in (p := 96) (by decide +kernel) rfl, by decide +kernel, by decide +kernel, by decide +kernel, by decide +kernel, by decide +kernel⟩
set_option maxRecDepth 1000000 in
theorem hm_ok33 : hc_MOK hm_m33 := ⟨hc_in (p := 310) rfl rfl, by decide +kernel, by decide +kernel, hc_in (p := 97) (by decide +kernel) rfl, by decide +kernel, by decide +kernel, by decide +kernel, by decide +kernel, by decide +kernel⟩
set_option maxRecDepth 1000000 in
theorem hm_ok34 : hc_MOK hm_m34 := ⟨hc_in (p := 783) rfl rfl, by decide +kernel, by decide +kernel, hc_in (p := 97) (by decide +kernel) rfl, by decide +kernel, by decide +kernel, by decide +kernel, by decide +kernel, by decide +kernel⟩
set_option maxRecDepth 1000000 in
theorem hm_ok35 : hc_MOK hm_m35 := ⟨hc_in (p := 853) rfl rfl, by decide +kernel, by decide +kernel, hc_in (p := 97) (by decide +kernel) rfl, by decide +kernel, by decide +kernel, by decide +kernel, by decide +kernel, by decide +kernel⟩
set_option maxRecDepth 1000000 in
theorem hm_ok36 : hc_MOK hm_m36 := ⟨hc_in (p := 197) rfl rfl, by decide +kernel, by decide +kernel, hc_in (p := 94) (by decide +kernel) rfl, by decide +kernel, by decide +kernel, by decide +kernel, by decide +kernel, by decide +kernel⟩
set_option maxRecDepth 1000000 in
theorem hm_ok37 : hc_MOK hm_m37 := ⟨hc_in (p := 480) rfl rfl, by decide +kernel, by decide +kernel, hc_in (p := 94) (by decide +kernel) rfl, by decide +kernel, by decide +kernel, by decide +kernel, by decide +kernel, by decide +kernel⟩
set_option maxRecDepth 1000000 in
theorem hm_ok38 : hc_MOK hm_m38 := ⟨hc_in (p := 618) rfl rfl, by decide +kernel, by decide +kernel, hc_in (p := 94) (by decide +kernel) rfl, by decide +kernel, by decide +kernel, by decide +kernel, by decide +kernel, by decide +kernel⟩
set_option maxRecDepth 1000000 in
theorem hm_ok39 : hc_MOK hm_m39 := ⟨hc_in (p := 626) rfl rfl, by decide +kernel, by decide +kernel, hc_in (p := 94) (by decide +kernel) rfl, by decide +kernel, by decide +kernel, by decide +kernel, by decide +kernel, by decide +kernel⟩
