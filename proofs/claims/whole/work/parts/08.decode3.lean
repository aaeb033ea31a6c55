/-! The instructions of methods 98 to 116 are those of the bytes. -/
set_option maxRecDepth 100000 in
theorem dk_98 : am_okm 98 := am_okm_of (n := 31) (f := cd_98) (by decide +kernel) (fun _ => rfl) (fun _ _ h => am_bd1 h)
set_option maxRecDepth 100000 in
theorem dk_99 : am_okm 99 := am_okm_of (n := 158) (f := cd_99) (by decide +kernel) (fun _ => rfl) (fun _ _ h => am_bd1 h)
set_option maxRecDepth 100000 in
theorem dk_100 : am_okm 100 := am_okm_of (n := 32) (f := cd_100) (by decide +kernel) (fun _ => rfl) (fun _ _ h => am_bd1 h)
set_option maxRecDepth 100000 in
theorem dk_101 : am_okm 101 := am_okm_of (n := 135) (f := cd_101) (by decide +kernel) (fun _ => rfl) (fun _ _ h => am_bd1 h)
set_option maxRecDepth 100000 in
theorem dk_102 : am_okm 102 := am_okm_of (n := 42) (f := cd_102) (by decide +kernel) (fun _ => rfl) (fun _ _ h => am_bd1 h)
set_option maxRecDepth 100000 in
theorem dk_103 : am_okm 103 := am_okm_of (n := 99) (f := cd_103) (by decide +kernel) (fun _ => rfl) (fun _ _ h => am_bd1 h)
set_option maxRecDepth 100000 in
theorem dk_104 : am_okm 104 := am_okm_of (n := 118) (f := cd_104) (by decide +kernel) (fun _ => rfl) (fun _ _ h => am_bd1 h)
set_option maxRecDepth 100000 in
theorem dk_105 : am_okm 105 := am_okm_of (n := 68) (f := cd_105) (by decide +kernel) (fun _ => rfl) (fun _ _ h => am_bd1 h)
set_option maxRecDepth 100000 in
theorem dk_106 : am_okm 106 := am_okm_of (n := 176) (f := cd_106) (by decide +kernel) (fun _ => rfl) (fun _ _ h => am_bd1 h)
set_option maxRecDepth 100000 in
theorem dk_107 : am_okm 107 := am_okm_of (n := 22) (f := cd_107) (by decide +kernel) (fun _ => rfl) (fun _ _ h => am_bd1 h)
set_option maxRecDepth 100000 in
theorem dk_108 : am_okm 108 := am_okm_of (n := 53) (f := cd_108) (by decide +kernel) (fun _ => rfl) (fun _ _ h => am_bd1 h)
set_option maxRecDepth 100000 in
theorem dk_109 : am_okm 109 := am_okm_of (n := 59) (f := cd_109) (by decide +kernel) (fun _ => rfl) (fun _ _ h => am_bd1 h)
set_option maxRecDepth 100000 in
theorem dk_110 : am_okm 110 := am_okm_of (n := 79) (f := cd_110) (by decide +kernel) (fun _ => rfl) (fun _ _ h => am_bd1 h)
set_option maxRecDepth 100000 in
theorem dk_111 : am_okm 111 := am_okm_of (n := 107) (f := cd_111) (by decide +kernel) (fun _ => rfl) (fun _ _ h => am_bd1 h)
set_option maxRecDepth 100000 in
theorem dk_112 : am_okm 112 := am_okm_of (n := 174) (f := cd_112) (by decide +kernel) (fun _ => rfl) (fun _ _ h => am_bd1 h)
set_option maxRecDepth 100000 in
theorem dk_113 : am_okm 113 := am_okm_of (n := 43) (f := cd_113) (by decide +kernel) (fun _ => rfl) (fun _ _ h => am_bd1 h)
set_option maxRecDepth 100000 in
theorem dk_114 : am_okm 114 := am_okm_of (n := 6) (f := cd_114) (by decide +kernel) (fun _ => rfl) (fun _ _ h => am_bd1 h)
set_option maxRecDepth 100000 in
theorem dk_115 : am_okm 115 := am_okm_of (n := 6) (f := cd_115) (by decide +kernel) (fun _ => rfl) (fun _ _ h => am_bd1 h)
set_option maxRecDepth 100000 in
theorem dk_116 : am_okm 116 := am_okm_of (n := 318) (f := cd_116) (by decide +kernel) (fun _ => rfl) (fun _ _ h => am_bd1 h)
