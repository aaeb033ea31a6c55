/-! The instructions of methods 70 to 97 are those of the bytes. -/
set_option maxRecDepth 100000 in
theorem dk_70 : am_okm 70 := am_okm_of (n := 30) (f := cd_70) (by decide +kernel) (fun _ => rfl) (fun _ _ h => am_bd1 h)
set_option maxRecDepth 100000 in
theorem dk_71 : am_okm 71 := am_okm_of (n := 117) (f := cd_71) (by decide +kernel) (fun _ => rfl) (fun _ _ h => am_bd1 h)
set_option maxRecDepth 100000 in
theorem dk_72 : am_okm 72 := am_okm_of (n := 143) (f := cd_72) (by decide +kernel) (fun _ => rfl) (fun _ _ h => am_bd1 h)
set_option maxRecDepth 100000 in
theorem dk_73 : am_okm 73 := am_okm_of (n := 79) (f := cd_73) (by decide +kernel) (fun _ => rfl) (fun _ _ h => am_bd1 h)
set_option maxRecDepth 100000 in
theorem dk_74 : am_okm 74 := am_okm_of (n := 7) (f := cd_74) (by decide +kernel) (fun _ => rfl) (fun _ _ h => am_bd1 h)
set_option maxRecDepth 100000 in
theorem dk_75 : am_okm 75 := am_okm_of (n := 37) (f := cd_75) (by decide +kernel) (fun _ => rfl) (fun _ _ h => am_bd1 h)
set_option maxRecDepth 100000 in
theorem dk_76 : am_okm 76 := am_okm_of (n := 37) (f := cd_76) (by decide +kernel) (fun _ => rfl) (fun _ _ h => am_bd1 h)
set_option maxRecDepth 100000 in
theorem dk_77 : am_okm 77 := am_okm_of (n := 17) (f := cd_77) (by decide +kernel) (fun _ => rfl) (fun _ _ h => am_bd1 h)
set_option maxRecDepth 100000 in
theorem dk_78 : am_okm 78 := am_okm_of (n := 33) (f := cd_78) (by decide +kernel) (fun _ => rfl) (fun _ _ h => am_bd1 h)
set_option maxRecDepth 100000 in
theorem dk_79 : am_okm 79 := am_okm_of (n := 48) (f := cd_79) (by decide +kernel) (fun _ => rfl) (fun _ _ h => am_bd1 h)
set_option maxRecDepth 100000 in
theorem dk_80 : am_okm 80 := am_okm_of (n := 87) (f := cd_80) (by decide +kernel) (fun _ => rfl) (fun _ _ h => am_bd1 h)
set_option maxRecDepth 100000 in
theorem dk_81 : am_okm 81 := am_okm_of (n := 121) (f := cd_81) (by decide +kernel) (fun _ => rfl) (fun _ _ h => am_bd1 h)
set_option maxRecDepth 100000 in
theorem dk_82 : am_okm 82 := am_okm_of (n := 62) (f := cd_82) (by decide +kernel) (fun _ => rfl) (fun _ _ h => am_bd1 h)
set_option maxRecDepth 100000 in
theorem dk_83 : am_okm 83 := am_okm_of (n := 27) (f := cd_83) (by decide +kernel) (fun _ => rfl) (fun _ _ h => am_bd1 h)
set_option maxRecDepth 100000 in
theorem dk_84 : am_okm 84 := am_okm_of (n := 21) (f := cd_84) (by decide +kernel) (fun _ => rfl) (fun _ _ h => am_bd1 h)
set_option maxRecDepth 100000 in
theorem dk_85 : am_okm 85 := am_okm_of (n := 58) (f := cd_85) (by decide +kernel) (fun _ => rfl) (fun _ _ h => am_bd1 h)
set_option maxRecDepth 100000 in
theorem dk_86 : am_okm 86 := am_okm_of (n := 32) (f := cd_86) (by decide +kernel) (fun _ => rfl) (fun _ _ h => am_bd1 h)
set_option maxRecDepth 100000 in
theorem dk_87 : am_okm 87 := am_okm_of (n := 76) (f := cd_87) (by decide +kernel) (fun _ => rfl) (fun _ _ h => am_bd1 h)
set_option maxRecDepth 100000 in
theorem dk_88 : am_okm 88 := am_okm_of (n := 6) (f := cd_88) (by decide +kernel) (fun _ => rfl) (fun _ _ h => am_bd1 h)
set_option maxRecDepth 100000 in
theorem dk_89 : am_okm 89 := am_okm_of (n := 17) (f := cd_89) (by decide +kernel) (fun _ => rfl) (fun _ _ h => am_bd1 h)
set_option maxRecDepth 100000 in
theorem dk_90 : am_okm 90 := am_okm_of (n := 63) (f := cd_90) (by decide +kernel) (fun _ => rfl) (fun _ _ h => am_bd1 h)
set_option maxRecDepth 100000 in
theorem dk_91 : am_okm 91 := am_okm_of (n := 22) (f := cd_91) (by decide +kernel) (fun _ => rfl) (fun _ _ h => am_bd1 h)
set_option maxRecDepth 100000 in
theorem dk_92 : am_okm 92 := am_okm_of (n := 40) (f := cd_92) (by decide +kernel) (fun _ => rfl) (fun _ _ h => am_bd1 h)
set_option maxRecDepth 100000 in
theorem dk_93 : am_okm 93 := am_okm_of (n := 59) (f := cd_93) (by decide +kernel) (fun _ => rfl) (fun _ _ h => am_bd1 h)
set_option maxRecDepth 100000 in
theorem dk_94 : am_okm 94 := am_okm_of (n := 127) (f := cd_94) (by decide +kernel) (fun _ => rfl) (fun _ _ h => am_bd1 h)
set_option maxRecDepth 100000 in
theorem dk_95 : am_okm 95 := am_okm_of (n := 22) (f := cd_95) (by decide +kernel) (fun _ => rfl) (fun _ _ h => am_bd1 h)
set_option maxRecDepth 100000 in
theorem dk_96 : am_okm 96 := am_okm_of (n := 65) (f := cd_96) (by decide +kernel) (fun _ => rfl) (fun _ _ h => am_bd1 h)
set_option maxRecDepth 100000 in
theorem dk_97 : am_okm 97 := am_okm_of (n := 201) (f := cd_97) (by decide +kernel) (fun _ => rfl) (fun _ _ h => am_bd1 h)
