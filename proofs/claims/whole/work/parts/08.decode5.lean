/-! The instructions of methods 140 to 151 are those of the bytes. -/
set_option maxRecDepth 100000 in
theorem dk_140 : am_okm 140 := am_okm_of (n := 18) (f := cd_140) (by decide +kernel) (fun _ => rfl) (fun _ _ h => am_bd1 h)
set_option maxRecDepth 100000 in
theorem dk_141 : am_okm 141 := am_okm_of (n := 280) (f := cd_141) (by decide +kernel) (fun _ => rfl) (fun _ _ h => am_bd1 h)
set_option maxRecDepth 100000 in
theorem dk_142 : am_okm 142 := am_okm_of (n := 46) (f := cd_142) (by decide +kernel) (fun _ => rfl) (fun _ _ h => am_bd1 h)
set_option maxRecDepth 100000 in
theorem dk_143 : am_okm 143 := am_okm_of (n := 32) (f := cd_143) (by decide +kernel) (fun _ => rfl) (fun _ _ h => am_bd1 h)
set_option maxRecDepth 100000 in
theorem dk_144 : am_okm 144 := am_okm_of (n := 127) (f := cd_144) (by decide +kernel) (fun _ => rfl) (fun _ _ h => am_bd1 h)
set_option maxRecDepth 100000 in
theorem dk_145 : am_okm 145 := am_okm_of (n := 46) (f := cd_145) (by decide +kernel) (fun _ => rfl) (fun _ _ h => am_bd1 h)
set_option maxRecDepth 100000 in
theorem dk_146 : am_okm 146 := am_okm_of (n := 376) (f := cd_146) (by decide +kernel) (fun _ => rfl) (fun _ _ h => am_bd1 h)
set_option maxRecDepth 100000 in
theorem dk_147 : am_okm 147 := am_okm_of (n := 14) (f := cd_147) (by decide +kernel) (fun _ => rfl) (fun _ _ h => am_bd1 h)
set_option maxRecDepth 100000 in
theorem dk_148 : am_okm 148 := am_okm_of (n := 174) (f := cd_148) (by decide +kernel) (fun _ => rfl) (fun _ _ h => am_bd1 h)
set_option maxRecDepth 100000 in
theorem dk_149 : am_okm 149 := am_okm_of (n := 224) (f := cd_149) (by decide +kernel) (fun _ => rfl) (fun _ _ h => am_bd1 h)
set_option maxRecDepth 100000 in
theorem dk_150 : am_okm 150 := am_okm_of (n := 115) (f := cd_150) (by decide +kernel) (fun _ => rfl) (fun _ _ h => am_bd1 h)
set_option maxRecDepth 100000 in
theorem dk_151 : am_okm 151 := am_okm_of (n := 322) (f := cd_151) (by decide +kernel) (fun _ => rfl) (fun _ _ h => am_bd1 h)
