/-! The instructions of methods 36 to 69 are those of the bytes. -/
set_option maxRecDepth 100000 in
theorem dk_36 : am_okm 36 := am_okm_of (n := 13) (f := cd_36) (by decide +kernel) (fun _ => rfl) (fun _ _ h => am_bd1 h)
set_option maxRecDepth 100000 in
theorem dk_37 : am_okm 37 := am_okm_of (n := 45) (f := cd_37) (by decide +kernel) (fun _ => rfl) (fun _ _ h => am_bd1 h)
set_option maxRecDepth 100000 in
theorem dk_38 : am_okm 38 := am_okm_of (n := 74) (f := cd_38) (by decide +kernel) (fun _ => rfl) (fun _ _ h => am_bd1 h)
set_option maxRecDepth 100000 in
theorem dk_39 : am_okm 39 := am_okm_of (n := 7) (f := cd_39) (by decide +kernel) (fun _ => rfl) (fun _ _ h => am_bd1 h)
set_option maxRecDepth 100000 in
theorem dk_40 : am_okm 40 := am_okm_of (n := 52) (f := cd_40) (by decide +kernel) (fun _ => rfl) (fun _ _ h => am_bd1 h)
set_option maxRecDepth 100000 in
theorem dk_41 : am_okm 41 := am_okm_of (n := 25) (f := cd_41) (by decide +kernel) (fun _ => rfl) (fun _ _ h => am_bd1 h)
set_option maxRecDepth 100000 in
theorem dk_42 : am_okm 42 := am_okm_of (n := 51) (f := cd_42) (by decide +kernel) (fun _ => rfl) (fun _ _ h => am_bd1 h)
set_option maxRecDepth 100000 in
theorem dk_43 : am_okm 43 := am_okm_of (n := 97) (f := cd_43) (by decide +kernel) (fun _ => rfl) (fun _ _ h => am_bd1 h)
set_option maxRecDepth 100000 in
theorem dk_44 : am_okm 44 := am_okm_of (n := 62) (f := cd_44) (by decide +kernel) (fun _ => rfl) (fun _ _ h => am_bd1 h)
set_option maxRecDepth 100000 in
theorem dk_45 : am_okm 45 := am_okm_of (n := 11) (f := cd_45) (by decide +kernel) (fun _ => rfl) (fun _ _ h => am_bd1 h)
set_option maxRecDepth 100000 in
theorem dk_46 : am_okm 46 := am_okm_of (n := 15) (f := cd_46) (by decide +kernel) (fun _ => rfl) (fun _ _ h => am_bd1 h)
set_option maxRecDepth 100000 in
theorem dk_47 : am_okm 47 := am_okm_of (n := 25) (f := cd_47) (by decide +kernel) (fun _ => rfl) (fun _ _ h => am_bd1 h)
set_option maxRecDepth 100000 in
theorem dk_48 : am_okm 48 := am_okm_of (n := 19) (f := cd_48) (by decide +kernel) (fun _ => rfl) (fun _ _ h => am_bd1 h)
set_option maxRecDepth 100000 in
theorem dk_49 : am_okm 49 := am_okm_of (n := 15) (f := cd_49) (by decide +kernel) (fun _ => rfl) (fun _ _ h => am_bd1 h)
set_option maxRecDepth 100000 in
theorem dk_50 : am_okm 50 := am_okm_of (n := 10) (f := cd_50) (by decide +kernel) (fun _ => rfl) (fun _ _ h => am_bd1 h)
set_option maxRecDepth 100000 in
theorem dk_51 : am_okm 51 := am_okm_of (n := 18) (f := cd_51) (by decide +kernel) (fun _ => rfl) (fun _ _ h => am_bd1 h)
set_option maxRecDepth 100000 in
theorem dk_52 : am_okm 52 := am_okm_of (n := 125) (f := cd_52) (by decide +kernel) (fun _ => rfl) (fun _ _ h => am_bd1 h)
set_option maxRecDepth 100000 in
theorem dk_53 : am_okm 53 := am_okm_of (n := 89) (f := cd_53) (by decide +kernel) (fun _ => rfl) (fun _ _ h => am_bd1 h)
set_option maxRecDepth 100000 in
theorem dk_54 : am_okm 54 := am_okm_of (n := 109) (f := cd_54) (by decide +kernel) (fun _ => rfl) (fun _ _ h => am_bd1 h)
set_option maxRecDepth 100000 in
theorem dk_55 : am_okm 55 := am_okm_of (n := 18) (f := cd_55) (by decide +kernel) (fun _ => rfl) (fun _ _ h => am_bd1 h)
set_option maxRecDepth 100000 in
theorem dk_56 : am_okm 56 := am_okm_of (n := 152) (f := cd_56) (by decide +kernel) (fun _ => rfl) (fun _ _ h => am_bd1 h)
set_option maxRecDepth 100000 in
theorem dk_57 : am_okm 57 := am_okm_of (n := 115) (f := cd_57) (by decide +kernel) (fun _ => rfl) (fun _ _ h => am_bd1 h)
set_option maxRecDepth 100000 in
theorem dk_58 : am_okm 58 := am_okm_of (n := 6) (f := cd_58) (by decide +kernel) (fun _ => rfl) (fun _ _ h => am_bd1 h)
set_option maxRecDepth 100000 in
theorem dk_59 : am_okm 59 := am_okm_of (n := 68) (f := cd_59) (by decide +kernel) (fun _ => rfl) (fun _ _ h => am_bd1 h)
set_option maxRecDepth 100000 in
theorem dk_60 : am_okm 60 := am_okm_of (n := 23) (f := cd_60) (by decide +kernel) (fun _ => rfl) (fun _ _ h => am_bd1 h)
set_option maxRecDepth 100000 in
theorem dk_61 : am_okm 61 := am_okm_of (n := 46) (f := cd_61) (by decide +kernel) (fun _ => rfl) (fun _ _ h => am_bd1 h)
set_option maxRecDepth 100000 in
theorem dk_62 : am_okm 62 := am_okm_of (n := 19) (f := cd_62) (by decide +kernel) (fun _ => rfl) (fun _ _ h => am_bd1 h)
set_option maxRecDepth 100000 in
theorem dk_63 : am_okm 63 := am_okm_of (n := 13) (f := cd_63) (by decide +kernel) (fun _ => rfl) (fun _ _ h => am_bd1 h)
set_option maxRecDepth 100000 in
theorem dk_64 : am_okm 64 := am_okm_of (n := 94) (f := cd_64) (by decide +kernel) (fun _ => rfl) (fun _ _ h => am_bd1 h)
set_option maxRecDepth 100000 in
theorem dk_65 : am_okm 65 := am_okm_of (n := 38) (f := cd_65) (by decide +kernel) (fun _ => rfl) (fun _ _ h => am_bd1 h)
set_option maxRecDepth 100000 in
theorem dk_66 : am_okm 66 := am_okm_of (n := 15) (f := cd_66) (by decide +kernel) (fun _ => rfl) (fun _ _ h => am_bd1 h)
set_option maxRecDepth 100000 in
theorem dk_67 : am_okm 67 := am_okm_of (n := 93) (f := cd_67) (by decide +kernel) (fun _ => rfl) (fun _ _ h => am_bd1 h)
set_option maxRecDepth 100000 in
theorem dk_68 : am_okm 68 := am_okm_of (n := 68) (f := cd_68) (by decide +kernel) (fun _ => rfl) (fun _ _ h => am_bd1 h)
set_option maxRecDepth 100000 in
theorem dk_69 : am_okm 69 := am_okm_of (n := 88) (f := cd_69) (by decide +kernel) (fun _ => rfl) (fun _ _ h => am_bd1 h)
