/-! The instructions of methods 152 to 167 are those of the bytes. -/
set_option maxRecDepth 100000 in
theorem dk_152 : am_okm 152 := am_okm_of (n := 110) (f := cd_152) (by decide +kernel) (fun _ => rfl) (fun _ _ h => am_bd1 h)
set_option maxRecDepth 100000 in
theorem dk_153 : am_okm 153 := am_okm_of (n := 150) (f := cd_153) (by decide +kernel) (fun _ => rfl) (fun _ _ h => am_bd1 h)
set_option maxRecDepth 100000 in
theorem dk_154 : am_okm 154 := am_okm_of (n := 281) (f := cd_154) (by decide +kernel) (fun _ => rfl) (fun _ _ h => am_bd1 h)
set_option maxRecDepth 100000 in
theorem dk_155 : am_okm 155 := am_okm_of (n := 10) (f := cd_155) (by decide +kernel) (fun _ => rfl) (fun _ _ h => am_bd1 h)
set_option maxRecDepth 100000 in
theorem dk_156 : am_okm 156 := am_okm_of (n := 46) (f := cd_156) (by decide +kernel) (fun _ => rfl) (fun _ _ h => am_bd1 h)
set_option maxRecDepth 100000 in
theorem dk_157 : am_okm 157 := am_okm_of (n := 32) (f := cd_157) (by decide +kernel) (fun _ => rfl) (fun _ _ h => am_bd1 h)
set_option maxRecDepth 100000 in
theorem dk_158 : am_okm 158 := am_okm_of (n := 160) (f := cd_158) (by decide +kernel) (fun _ => rfl) (fun _ _ h => am_bd1 h)
set_option maxRecDepth 100000 in
theorem dk_159 : am_okm 159 := am_okm_of (n := 270) (f := cd_159) (by decide +kernel) (fun _ => rfl) (fun _ _ h => am_bd1 h)
set_option maxRecDepth 100000 in
theorem dk_160 : am_okm 160 := am_okm_of (n := 23) (f := cd_160) (by decide +kernel) (fun _ => rfl) (fun _ _ h => am_bd1 h)
set_option maxRecDepth 100000 in
theorem dk_161 : am_okm 161 := am_okm_of (n := 47) (f := cd_161) (by decide +kernel) (fun _ => rfl) (fun _ _ h => am_bd1 h)
set_option maxRecDepth 100000 in
theorem dk_162 : am_okm 162 := am_okm_of (n := 56) (f := cd_162) (by decide +kernel) (fun _ => rfl) (fun _ _ h => am_bd1 h)
set_option maxRecDepth 100000 in
theorem dk_163 : am_okm 163 := am_okm_of (n := 82) (f := cd_163) (by decide +kernel) (fun _ => rfl) (fun _ _ h => am_bd1 h)
set_option maxRecDepth 100000 in
theorem dk_164 : am_okm 164 := am_okm_of (n := 30) (f := cd_164) (by decide +kernel) (fun _ => rfl) (fun _ _ h => am_bd1 h)
set_option maxRecDepth 100000 in
theorem dk_165 : am_okm 165 := am_okm_of (n := 101) (f := cd_165) (by decide +kernel) (fun _ => rfl) (fun _ _ h => am_bd1 h)
set_option maxRecDepth 100000 in
theorem dk_166 : am_okm 166 := am_okm_of (n := 104) (f := cd_166) (by decide +kernel) (fun _ => rfl) (fun _ _ h => am_bd1 h)
set_option maxRecDepth 100000 in
theorem dk_167 : am_okm 167 := am_okm_of (n := 252) (f := cd_167) (by decide +kernel) (fun _ => rfl) (fun _ _ h => am_bd1 h)
