/-! The instructions of methods 0 to 35 are those of the bytes. -/
set_option maxRecDepth 100000 in
theorem dk_0 : am_okm 0 := am_okm_of (n := 132) (f := cd_0) (by decide +kernel) (fun _ => rfl) (fun _ _ h => am_bd1 h)
set_option maxRecDepth 100000 in
theorem dk_1 : am_okm 1 := am_okm_of (n := 28) (f := cd_1) (by decide +kernel) (fun _ => rfl) (fun _ _ h => am_bd1 h)
set_option maxRecDepth 100000 in
theorem dk_2 : am_okm 2 := am_okm_of (n := 79) (f := cd_2) (by decide +kernel) (fun _ => rfl) (fun _ _ h => am_bd1 h)
set_option maxRecDepth 100000 in
theorem dk_3 : am_okm 3 := am_okm_of (n := 25) (f := cd_3) (by decide +kernel) (fun _ => rfl) (fun _ _ h => am_bd1 h)
set_option maxRecDepth 100000 in
theorem dk_4 : am_okm 4 := am_okm_of (n := 84) (f := cd_4) (by decide +kernel) (fun _ => rfl) (fun _ _ h => am_bd1 h)
set_option maxRecDepth 100000 in
theorem dk_5 : am_okm 5 := am_okm_of (n := 104) (f := cd_5) (by decide +kernel) (fun _ => rfl) (fun _ _ h => am_bd1 h)
set_option maxRecDepth 100000 in
theorem dk_6 : am_okm 6 := am_okm_of (n := 18) (f := cd_6) (by decide +kernel) (fun _ => rfl) (fun _ _ h => am_bd1 h)
set_option maxRecDepth 100000 in
theorem dk_7 : am_okm 7 := am_okm_of (n := 19) (f := cd_7) (by decide +kernel) (fun _ => rfl) (fun _ _ h => am_bd1 h)
set_option maxRecDepth 100000 in
theorem dk_8 : am_okm 8 := am_okm_of (n := 31) (f := cd_8) (by decide +kernel) (fun _ => rfl) (fun _ _ h => am_bd1 h)
set_option maxRecDepth 100000 in
theorem dk_9 : am_okm 9 := am_okm_of (n := 56) (f := cd_9) (by decide +kernel) (fun _ => rfl) (fun _ _ h => am_bd1 h)
set_option maxRecDepth 100000 in
theorem dk_10 : am_okm 10 := am_okm_of (n := 109) (f := cd_10) (by decide +kernel) (fun _ => rfl) (fun _ _ h => am_bd1 h)
set_option maxRecDepth 100000 in
theorem dk_11 : am_okm 11 := am_okm_of (n := 9) (f := cd_11) (by decide +kernel) (fun _ => rfl) (fun _ _ h => am_bd1 h)
set_option maxRecDepth 100000 in
theorem dk_12 : am_okm 12 := am_okm_of (n := 8) (f := cd_12) (by decide +kernel) (fun _ => rfl) (fun _ _ h => am_bd1 h)
set_option maxRecDepth 100000 in
theorem dk_13 : am_okm 13 := am_okm_of (n := 5) (f := cd_13) (by decide +kernel) (fun _ => rfl) (fun _ _ h => am_bd1 h)
set_option maxRecDepth 100000 in
theorem dk_14 : am_okm 14 := am_okm_of (n := 27) (f := cd_14) (by decide +kernel) (fun _ => rfl) (fun _ _ h => am_bd1 h)
set_option maxRecDepth 100000 in
theorem dk_15 : am_okm 15 := am_okm_of (n := 19) (f := cd_15) (by decide +kernel) (fun _ => rfl) (fun _ _ h => am_bd1 h)
set_option maxRecDepth 100000 in
theorem dk_16 : am_okm 16 := am_okm_of (n := 57) (f := cd_16) (by decide +kernel) (fun _ => rfl) (fun _ _ h => am_bd1 h)
set_option maxRecDepth 100000 in
theorem dk_17 : am_okm 17 := am_okm_of (n := 39) (f := cd_17) (by decide +kernel) (fun _ => rfl) (fun _ _ h => am_bd1 h)
set_option maxRecDepth 100000 in
theorem dk_18 : am_okm 18 := am_okm_of (n := 8) (f := cd_18) (by decide +kernel) (fun _ => rfl) (fun _ _ h => am_bd1 h)
set_option maxRecDepth 100000 in
theorem dk_19 : am_okm 19 := am_okm_of (n := 29) (f := cd_19) (by decide +kernel) (fun _ => rfl) (fun _ _ h => am_bd1 h)
set_option maxRecDepth 100000 in
theorem dk_20 : am_okm 20 := am_okm_of (n := 14) (f := cd_20) (by decide +kernel) (fun _ => rfl) (fun _ _ h => am_bd1 h)
set_option maxRecDepth 100000 in
theorem dk_21 : am_okm 21 := am_okm_of (n := 120) (f := cd_21) (by decide +kernel) (fun _ => rfl) (fun _ _ h => am_bd1 h)
set_option maxRecDepth 100000 in
theorem dk_22 : am_okm 22 := am_okm_of (n := 15) (f := cd_22) (by decide +kernel) (fun _ => rfl) (fun _ _ h => am_bd1 h)
set_option maxRecDepth 100000 in
theorem dk_23 : am_okm 23 := am_okm_of (n := 6) (f := cd_23) (by decide +kernel) (fun _ => rfl) (fun _ _ h => am_bd1 h)
set_option maxRecDepth 100000 in
theorem dk_24 : am_okm 24 := am_okm_of (n := 6) (f := cd_24) (by decide +kernel) (fun _ => rfl) (fun _ _ h => am_bd1 h)
set_option maxRecDepth 100000 in
theorem dk_25 : am_okm 25 := am_okm_of (n := 6) (f := cd_25) (by decide +kernel) (fun _ => rfl) (fun _ _ h => am_bd1 h)
set_option maxRecDepth 100000 in
theorem dk_26 : am_okm 26 := am_okm_of (n := 11) (f := cd_26) (by decide +kernel) (fun _ => rfl) (fun _ _ h => am_bd1 h)
set_option maxRecDepth 100000 in
theorem dk_27 : am_okm 27 := am_okm_of (n := 11) (f := cd_27) (by decide +kernel) (fun _ => rfl) (fun _ _ h => am_bd1 h)
set_option maxRecDepth 100000 in
theorem dk_28 : am_okm 28 := am_okm_of (n := 20) (f := cd_28) (by decide +kernel) (fun _ => rfl) (fun _ _ h => am_bd1 h)
set_option maxRecDepth 100000 in
theorem dk_29 : am_okm 29 := am_okm_of (n := 122) (f := cd_29) (by decide +kernel) (fun _ => rfl) (fun _ _ h => am_bd1 h)
set_option maxRecDepth 100000 in
theorem dk_30 : am_okm 30 := am_okm_of (n := 23) (f := cd_30) (by decide +kernel) (fun _ => rfl) (fun _ _ h => am_bd1 h)
set_option maxRecDepth 100000 in
theorem dk_31 : am_okm 31 := am_okm_of (n := 109) (f := cd_31) (by decide +kernel) (fun _ => rfl) (fun _ _ h => am_bd1 h)
set_option maxRecDepth 100000 in
theorem dk_32 : am_okm 32 := am_okm_of (n := 59) (f := cd_32) (by decide +kernel) (fun _ => rfl) (fun _ _ h => am_bd1 h)
set_option maxRecDepth 100000 in
theorem dk_33 : am_okm 33 := am_okm_of (n := 78) (f := cd_33) (by decide +kernel) (fun _ => rfl) (fun _ _ h => am_bd1 h)
set_option maxRecDepth 100000 in
theorem dk_34 : am_okm 34 := am_okm_of (n := 45) (f := cd_34) (by decide +kernel) (fun _ => rfl) (fun _ _ h => am_bd1 h)
set_option maxRecDepth 100000 in
theorem dk_35 : am_okm 35 := am_okm_of (n := 146) (f := cd_35) (by decide +kernel) (fun _ => rfl) (fun _ _ h => am_bd1 h)
