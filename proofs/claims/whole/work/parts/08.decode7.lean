/-! The instructions of methods 168 to 181 are those of the bytes. -/
set_option maxRecDepth 100000 in
theorem dk_168 : am_okm 168 := am_okm_of (n := 70) (f := cd_168) (by decide +kernel) (fun _ => rfl) (fun _ _ h => am_bd1 h)
set_option maxRecDepth 100000 in
theorem dk_169 : am_okm 169 := am_okm_of (n := 244) (f := cd_169) (by decide +kernel) (fun _ => rfl) (fun _ _ h => am_bd1 h)
set_option maxRecDepth 100000 in
theorem dk_170 : am_okm 170 := am_okm_of (n := 186) (f := cd_170) (by decide +kernel) (fun _ => rfl) (fun _ _ h => am_bd1 h)
set_option maxRecDepth 100000 in
theorem dk_171 : am_okm 171 := am_okm_of (n := 73) (f := cd_171) (by decide +kernel) (fun _ => rfl) (fun _ _ h => am_bd1 h)
set_option maxRecDepth 100000 in
theorem dk_172 : am_okm 172 := am_okm_of (n := 124) (f := cd_172) (by decide +kernel) (fun _ => rfl) (fun _ _ h => am_bd1 h)
set_option maxRecDepth 100000 in
theorem dk_173 : am_okm 173 := am_okm_of (n := 52) (f := cd_173) (by decide +kernel) (fun _ => rfl) (fun _ _ h => am_bd1 h)
set_option maxRecDepth 100000 in
theorem dk_174 : am_okm 174 := am_okm_of (n := 58) (f := cd_174) (by decide +kernel) (fun _ => rfl) (fun _ _ h => am_bd1 h)
set_option maxRecDepth 100000 in
theorem dk_175 : am_okm 175 := am_okm_of (n := 45) (f := cd_175) (by decide +kernel) (fun _ => rfl) (fun _ _ h => am_bd1 h)
set_option maxRecDepth 100000 in
theorem dk_176 : am_okm 176 := am_okm_of (n := 106) (f := cd_176) (by decide +kernel) (fun _ => rfl) (fun _ _ h => am_bd1 h)
set_option maxRecDepth 100000 in
theorem dk_177 : am_okm 177 := am_okm_of (n := 171) (f := cd_177) (by decide +kernel) (fun _ => rfl) (fun _ _ h => am_bd1 h)
set_option maxRecDepth 100000 in
theorem dk_178 : am_okm 178 := am_okm_of (n := 45) (f := cd_178) (by decide +kernel) (fun _ => rfl) (fun _ _ h => am_bd1 h)
set_option maxRecDepth 100000 in
theorem dk_179 : am_okm 179 := am_okm_of (n := 10) (f := cd_179) (by decide +kernel) (fun _ => rfl) (fun _ _ h => am_bd1 h)
set_option maxRecDepth 100000 in
theorem dk_180 : am_okm 180 := am_okm_of (n := 28) (f := cd_180) (by decide +kernel) (fun _ => rfl) (fun _ _ h => am_bd1 h)
set_option maxRecDepth 100000 in
theorem dk_181 : am_okm 181 := am_okm_of (n := 705) (f := cd_181) (by decide +kernel) (fun _ => rfl) (fun _ _ h => am_bd1 h)
