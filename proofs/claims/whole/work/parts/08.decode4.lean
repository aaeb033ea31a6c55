/-! The instructions of methods 117 to 139 are those of the bytes. -/
set_option maxRecDepth 100000 in
theorem dk_117 : am_okm 117 := am_okm_of (n := 5) (f := cd_117) (by decide +kernel) (fun _ => rfl) (fun _ _ h => am_bd1 h)
set_option maxRecDepth 100000 in
theorem dk_118 : am_okm 118 := am_okm_of (n := 126) (f := cd_118) (by decide +kernel) (fun _ => rfl) (fun _ _ h => am_bd1 h)
set_option maxRecDepth 100000 in
theorem dk_119 : am_okm 119 := am_okm_of (n := 11) (f := cd_119) (by decide +kernel) (fun _ => rfl) (fun _ _ h => am_bd1 h)
set_option maxRecDepth 100000 in
theorem dk_120 : am_okm 120 := am_okm_of (n := 10) (f := cd_120) (by decide +kernel) (fun _ => rfl) (fun _ _ h => am_bd1 h)
set_option maxRecDepth 100000 in
theorem dk_121 : am_okm 121 := am_okm_of (n := 61) (f := cd_121) (by decide +kernel) (fun _ => rfl) (fun _ _ h => am_bd1 h)
set_option maxRecDepth 100000 in
theorem dk_122 : am_okm 122 := am_okm_of (n := 92) (f := cd_122) (by decide +kernel) (fun _ => rfl) (fun _ _ h => am_bd1 h)
set_option maxRecDepth 100000 in
theorem dk_123 : am_okm 123 := am_okm_of (n := 125) (f := cd_123) (by decide +kernel) (fun _ => rfl) (fun _ _ h => am_bd1 h)
set_option maxRecDepth 100000 in
theorem dk_124 : am_okm 124 := am_okm_of (n := 19) (f := cd_124) (by decide +kernel) (fun _ => rfl) (fun _ _ h => am_bd1 h)
set_option maxRecDepth 100000 in
theorem dk_125 : am_okm 125 := am_okm_of (n := 99) (f := cd_125) (by decide +kernel) (fun _ => rfl) (fun _ _ h => am_bd1 h)
set_option maxRecDepth 100000 in
theorem dk_126 : am_okm 126 := am_okm_of (n := 113) (f := cd_126) (by decide +kernel) (fun _ => rfl) (fun _ _ h => am_bd1 h)
set_option maxRecDepth 100000 in
theorem dk_127 : am_okm 127 := am_okm_of (n := 117) (f := cd_127) (by decide +kernel) (fun _ => rfl) (fun _ _ h => am_bd1 h)
set_option maxRecDepth 100000 in
theorem dk_128 : am_okm 128 := am_okm_of (n := 125) (f := cd_128) (by decide +kernel) (fun _ => rfl) (fun _ _ h => am_bd1 h)
set_option maxRecDepth 100000 in
theorem dk_129 : am_okm 129 := am_okm_of (n := 27) (f := cd_129) (by decide +kernel) (fun _ => rfl) (fun _ _ h => am_bd1 h)
set_option maxRecDepth 100000 in
theorem dk_130 : am_okm 130 := am_okm_of (n := 129) (f := cd_130) (by decide +kernel) (fun _ => rfl) (fun _ _ h => am_bd1 h)
set_option maxRecDepth 100000 in
theorem dk_131 : am_okm 131 := am_okm_of (n := 18) (f := cd_131) (by decide +kernel) (fun _ => rfl) (fun _ _ h => am_bd1 h)
set_option maxRecDepth 100000 in
theorem dk_132 : am_okm 132 := am_okm_of (n := 20) (f := cd_132) (by decide +kernel) (fun _ => rfl) (fun _ _ h => am_bd1 h)
set_option maxRecDepth 100000 in
theorem dk_133 : am_okm 133 := am_okm_of (n := 97) (f := cd_133) (by decide +kernel) (fun _ => rfl) (fun _ _ h => am_bd1 h)
set_option maxRecDepth 100000 in
theorem dk_134 : am_okm 134 := am_okm_of (n := 249) (f := cd_134) (by decide +kernel) (fun _ => rfl) (fun _ _ h => am_bd1 h)
set_option maxRecDepth 100000 in
theorem dk_135 : am_okm 135 := am_okm_of (n := 40) (f := cd_135) (by decide +kernel) (fun _ => rfl) (fun _ _ h => am_bd1 h)
set_option maxRecDepth 100000 in
theorem dk_136 : am_okm 136 := am_okm_of (n := 20) (f := cd_136) (by decide +kernel) (fun _ => rfl) (fun _ _ h => am_bd1 h)
set_option maxRecDepth 100000 in
theorem dk_137 : am_okm 137 := am_okm_of (n := 29) (f := cd_137) (by decide +kernel) (fun _ => rfl) (fun _ _ h => am_bd1 h)
set_option maxRecDepth 100000 in
theorem dk_138 : am_okm 138 := am_okm_of (n := 31) (f := cd_138) (by decide +kernel) (fun _ => rfl) (fun _ _ h => am_bd1 h)
set_option maxRecDepth 100000 in
theorem dk_139 : am_okm 139 := am_okm_of (n := 187) (f := cd_139) (by decide +kernel) (fun _ => rfl) (fun _ _ h => am_bd1 h)
