/-! The code words, by their places. -/
theorem tc_0 : am_cw 0 ∈ am_ws := List.mem_filter.mpr ⟨(List.mem_append_right _ (List.mem_append_left _ (List.mem_of_getElem? (i := 30) rfl))), rfl⟩
theorem tc_1 : am_cw 1 ∈ am_ws := List.mem_filter.mpr ⟨(List.mem_append_right _ (List.mem_append_left _ (List.mem_of_getElem? (i := 38) rfl))), rfl⟩
theorem tc_2 : am_cw 2 ∈ am_ws := List.mem_filter.mpr ⟨(List.mem_append_right _ (List.mem_append_left _ (List.mem_of_getElem? (i := 62) rfl))), rfl⟩
theorem tc_3 : am_cw 3 ∈ am_ws := List.mem_filter.mpr ⟨(List.mem_append_right _ (List.mem_append_left _ (List.mem_of_getElem? (i := 69) rfl))), rfl⟩
theorem tc_4 : am_cw 4 ∈ am_ws := List.mem_filter.mpr ⟨(List.mem_append_right _ (List.mem_append_left _ (List.mem_of_getElem? (i := 103) rfl))), rfl⟩
theorem tc_5 : am_cw 5 ∈ am_ws := List.mem_filter.mpr ⟨(List.mem_append_right _ (List.mem_append_left _ (List.mem_of_getElem? (i := 156) rfl))), rfl⟩
theorem tc_6 : am_cw 6 ∈ am_ws := List.mem_filter.mpr ⟨(List.mem_append_right _ (List.mem_append_left _ (List.mem_of_getElem? (i := 162) rfl))), rfl⟩
theorem tc_7 : am_cw 7 ∈ am_ws := List.mem_filter.mpr ⟨(List.mem_append_right _ (List.mem_append_left _ (List.mem_of_getElem? (i := 219) rfl))), rfl⟩
theorem tc_8 : am_cw 8 ∈ am_ws := List.mem_filter.mpr ⟨(List.mem_append_right _ (List.mem_append_right _ (List.mem_append_left _ (List.mem_of_getElem? (i := 22) rfl)))), rfl⟩
theorem tc_9 : am_cw 9 ∈ am_ws := List.mem_filter.mpr ⟨(List.mem_append_right _ (List.mem_append_right _ (List.mem_append_left _ (List.mem_of_getElem? (i := 25) rfl)))), rfl⟩
theorem tc_10 : am_cw 10 ∈ am_ws := List.mem_filter.mpr ⟨(List.mem_append_right _ (List.mem_append_right _ (List.mem_append_left _ (List.mem_of_getElem? (i := 29) rfl)))), rfl⟩
theorem tc_11 : am_cw 11 ∈ am_ws := List.mem_filter.mpr ⟨(List.mem_append_right _ (List.mem_append_right _ (List.mem_append_left _ (List.mem_of_getElem? (i := 33) rfl)))), rfl⟩
theorem tc_12 : am_cw 12 ∈ am_ws := List.mem_filter.mpr ⟨(List.mem_append_right _ (List.mem_append_right _ (List.mem_append_left _ (List.mem_of_getElem? (i := 37) rfl)))), rfl⟩
theorem tc_13 : am_cw 13 ∈ am_ws := List.mem_filter.mpr ⟨(List.mem_append_right _ (List.mem_append_right _ (List.mem_append_left _ (List.mem_of_getElem? (i := 41) rfl)))), rfl⟩
theorem tc_14 : am_cw 14 ∈ am_ws := List.mem_filter.mpr ⟨(List.mem_append_right _ (List.mem_append_right _ (List.mem_append_left _ (List.mem_of_getElem? (i := 45) rfl)))), rfl⟩
theorem tc_15 : am_cw 15 ∈ am_ws := List.mem_filter.mpr ⟨(List.mem_append_right _ (List.mem_append_right _ (List.mem_append_left _ (List.mem_of_getElem? (i := 48) rfl)))), rfl⟩
theorem tc_16 : am_cw 16 ∈ am_ws := List.mem_filter.mpr ⟨(List.mem_append_right _ (List.mem_append_right _ (List.mem_append_left _ (List.mem_of_getElem? (i := 52) rfl)))), rfl⟩
theorem tc_17 : am_cw 17 ∈ am_ws := List.mem_filter.mpr ⟨(List.mem_append_right _ (List.mem_append_right _ (List.mem_append_left _ (List.mem_of_getElem? (i := 56) rfl)))), rfl⟩
theorem tc_18 : am_cw 18 ∈ am_ws := List.mem_filter.mpr ⟨(List.mem_append_right _ (List.mem_append_right _ (List.mem_append_left _ (List.mem_of_getElem? (i := 60) rfl)))), rfl⟩
theorem tc_19 : am_cw 19 ∈ am_ws := List.mem_filter.mpr ⟨(List.mem_append_right _ (List.mem_append_right _ (List.mem_append_left _ (List.mem_of_getElem? (i := 64) rfl)))), rfl⟩
theorem tc_20 : am_cw 20 ∈ am_ws := List.mem_filter.mpr ⟨(List.mem_append_right _ (List.mem_append_right _ (List.mem_append_left _ (List.mem_of_getElem? (i := 67) rfl)))), rfl⟩
theorem tc_21 : am_cw 21 ∈ am_ws := List.mem_filter.mpr ⟨(List.mem_append_right _ (List.mem_append_right _ (List.mem_append_left _ (List.mem_of_getElem? (i := 72) rfl)))), rfl⟩
theorem tc_22 : am_cw 22 ∈ am_ws := List.mem_filter.mpr ⟨(List.mem_append_right _ (List.mem_append_right _ (List.mem_append_left _ (List.mem_of_getElem? (i := 75) rfl)))), rfl⟩
theorem tc_23 : am_cw 23 ∈ am_ws := List.mem_filter.mpr ⟨(List.mem_append_right _ (List.mem_append_right _ (List.mem_append_left _ (List.mem_of_getElem? (i := 121) rfl)))), rfl⟩
theorem tc_24 : am_cw 24 ∈ am_ws := List.mem_filter.mpr ⟨(List.mem_append_right _ (List.mem_append_right _ (List.mem_append_left _ (List.mem_of_getElem? (i := 124) rfl)))), rfl⟩
theorem tc_25 : am_cw 25 ∈ am_ws := List.mem_filter.mpr ⟨(List.mem_append_right _ (List.mem_append_right _ (List.mem_append_left _ (List.mem_of_getElem? (i := 127) rfl)))), rfl⟩
theorem tc_26 : am_cw 26 ∈ am_ws := List.mem_filter.mpr ⟨(List.mem_append_right _ (List.mem_append_right _ (List.mem_append_left _ (List.mem_of_getElem? (i := 148) rfl)))), rfl⟩
theorem tc_27 : am_cw 27 ∈ am_ws := List.mem_filter.mpr ⟨(List.mem_append_right _ (List.mem_append_right _ (List.mem_append_left _ (List.mem_of_getElem? (i := 152) rfl)))), rfl⟩
theorem tc_28 : am_cw 28 ∈ am_ws := List.mem_filter.mpr ⟨(List.mem_append_right _ (List.mem_append_right _ (List.mem_append_left _ (List.mem_of_getElem? (i := 157) rfl)))), rfl⟩
theorem tc_29 : am_cw 29 ∈ am_ws := List.mem_filter.mpr ⟨(List.mem_append_right _ (List.mem_append_right _ (List.mem_append_left _ (List.mem_of_getElem? (i := 172) rfl)))), rfl⟩
theorem tc_30 : am_cw 30 ∈ am_ws := List.mem_filter.mpr ⟨(List.mem_append_right _ (List.mem_append_right _ (List.mem_append_left _ (List.mem_of_getElem? (i := 176) rfl)))), rfl⟩
theorem tc_31 : am_cw 31 ∈ am_ws := List.mem_filter.mpr ⟨(List.mem_append_right _ (List.mem_append_right _ (List.mem_append_left _ (List.mem_of_getElem? (i := 180) rfl)))), rfl⟩
theorem tc_32 : am_cw 32 ∈ am_ws := List.mem_filter.mpr ⟨(List.mem_append_right _ (List.mem_append_right _ (List.mem_append_left _ (List.mem_of_getElem? (i := 184) rfl)))), rfl⟩
theorem tc_33 : am_cw 33 ∈ am_ws := List.mem_filter.mpr ⟨(List.mem_append_right _ (List.mem_append_right _ (List.mem_append_left _ (List.mem_of_getElem? (i := 188) rfl)))), rfl⟩
theorem tc_34 : am_cw 34 ∈ am_ws := List.mem_filter.mpr ⟨(List.mem_append_right _ (List.mem_append_right _ (List.mem_append_left _ (List.mem_of_getElem? (i := 192) rfl)))), rfl⟩
theorem tc_35 : am_cw 35 ∈ am_ws := List.mem_filter.mpr ⟨(List.mem_append_right _ (List.mem_append_right _ (List.mem_append_left _ (List.mem_of_getElem? (i := 196) rfl)))), rfl⟩
theorem tc_36 : am_cw 36 ∈ am_ws := List.mem_filter.mpr ⟨(List.mem_append_right _ (List.mem_append_right _ (List.mem_append_left _ (List.mem_of_getElem? (i := 200) rfl)))), rfl⟩
theorem tc_37 : am_cw 37 ∈ am_ws := List.mem_filter.mpr ⟨(List.mem_append_right _ (List.mem_append_right _ (List.mem_append_left _ (List.mem_of_getElem? (i := 204) rfl)))), rfl⟩
theorem tc_38 : am_cw 38 ∈ am_ws := List.mem_filter.mpr ⟨(List.mem_append_right _ (List.mem_append_right _ (List.mem_append_left _ (List.mem_of_getElem? (i := 208) rfl)))), rfl⟩
theorem tc_39 : am_cw 39 ∈ am_ws := List.mem_filter.mpr ⟨(List.mem_append_right _ (List.mem_append_right _ (List.mem_append_left _ (List.mem_of_getElem? (i := 213) rfl)))), rfl⟩
theorem tc_40 : am_cw 40 ∈ am_ws := List.mem_filter.mpr ⟨(List.mem_append_right _ (List.mem_append_right _ (List.mem_append_left _ (List.mem_of_getElem? (i := 217) rfl)))), rfl⟩
theorem tc_41 : am_cw 41 ∈ am_ws := List.mem_filter.mpr ⟨(List.mem_append_right _ (List.mem_append_right _ (List.mem_append_left _ (List.mem_of_getElem? (i := 221) rfl)))), rfl⟩
theorem tc_42 : am_cw 42 ∈ am_ws := List.mem_filter.mpr ⟨(List.mem_append_right _ (List.mem_append_right _ (List.mem_append_left _ (List.mem_of_getElem? (i := 227) rfl)))), rfl⟩
theorem tc_43 : am_cw 43 ∈ am_ws := List.mem_filter.mpr ⟨(List.mem_append_right _ (List.mem_append_right _ (List.mem_append_left _ (List.mem_of_getElem? (i := 231) rfl)))), rfl⟩
theorem tc_44 : am_cw 44 ∈ am_ws := List.mem_filter.mpr ⟨(List.mem_append_right _ (List.mem_append_right _ (List.mem_append_left _ (List.mem_of_getElem? (i := 236) rfl)))), rfl⟩
theorem tc_45 : am_cw 45 ∈ am_ws := List.mem_filter.mpr ⟨(List.mem_append_right _ (List.mem_append_right _ (List.mem_append_right _ (List.mem_append_left _ (List.mem_of_getElem? (i := 0) rfl))))), rfl⟩
theorem tc_46 : am_cw 46 ∈ am_ws := List.mem_filter.mpr ⟨(List.mem_append_right _ (List.mem_append_right _ (List.mem_append_right _ (List.mem_append_left _ (List.mem_of_getElem? (i := 4) rfl))))), rfl⟩
theorem tc_47 : am_cw 47 ∈ am_ws := List.mem_filter.mpr ⟨(List.mem_append_right _ (List.mem_append_right _ (List.mem_append_right _ (List.mem_append_left _ (List.mem_of_getElem? (i := 10) rfl))))), rfl⟩
theorem tc_48 : am_cw 48 ∈ am_ws := List.mem_filter.mpr ⟨(List.mem_append_right _ (List.mem_append_right _ (List.mem_append_right _ (List.mem_append_left _ (List.mem_of_getElem? (i := 14) rfl))))), rfl⟩
theorem tc_49 : am_cw 49 ∈ am_ws := List.mem_filter.mpr ⟨(List.mem_append_right _ (List.mem_append_right _ (List.mem_append_right _ (List.mem_append_left _ (List.mem_of_getElem? (i := 17) rfl))))), rfl⟩
theorem tc_50 : am_cw 50 ∈ am_ws := List.mem_filter.mpr ⟨(List.mem_append_right _ (List.mem_append_right _ (List.mem_append_right _ (List.mem_append_left _ (List.mem_of_getElem? (i := 20) rfl))))), rfl⟩
theorem tc_51 : am_cw 51 ∈ am_ws := List.mem_filter.mpr ⟨(List.mem_append_right _ (List.mem_append_right _ (List.mem_append_right _ (List.mem_append_left _ (List.mem_of_getElem? (i := 25) rfl))))), rfl⟩
theorem tc_52 : am_cw 52 ∈ am_ws := List.mem_filter.mpr ⟨(List.mem_append_right _ (List.mem_append_right _ (List.mem_append_right _ (List.mem_append_left _ (List.mem_of_getElem? (i := 53) rfl))))), rfl⟩
theorem tc_53 : am_cw 53 ∈ am_ws := List.mem_filter.mpr ⟨(List.mem_append_right _ (List.mem_append_right _ (List.mem_append_right _ (List.mem_append_left _ (List.mem_of_getElem? (i := 57) rfl))))), rfl⟩
theorem tc_54 : am_cw 54 ∈ am_ws := List.mem_filter.mpr ⟨(List.mem_append_right _ (List.mem_append_right _ (List.mem_append_right _ (List.mem_append_left _ (List.mem_of_getElem? (i := 62) rfl))))), rfl⟩
theorem tc_55 : am_cw 55 ∈ am_ws := List.mem_filter.mpr ⟨(List.mem_append_right _ (List.mem_append_right _ (List.mem_append_right _ (List.mem_append_left _ (List.mem_of_getElem? (i := 66) rfl))))), rfl⟩
theorem tc_56 : am_cw 56 ∈ am_ws := List.mem_filter.mpr ⟨(List.mem_append_right _ (List.mem_append_right _ (List.mem_append_right _ (List.mem_append_left _ (List.mem_of_getElem? (i := 70) rfl))))), rfl⟩
theorem tc_57 : am_cw 57 ∈ am_ws := List.mem_filter.mpr ⟨(List.mem_append_right _ (List.mem_append_right _ (List.mem_append_right _ (List.mem_append_left _ (List.mem_of_getElem? (i := 74) rfl))))), rfl⟩
theorem tc_58 : am_cw 58 ∈ am_ws := List.mem_filter.mpr ⟨(List.mem_append_right _ (List.mem_append_right _ (List.mem_append_right _ (List.mem_append_left _ (List.mem_of_getElem? (i := 77) rfl))))), rfl⟩
theorem tc_59 : am_cw 59 ∈ am_ws := List.mem_filter.mpr ⟨(List.mem_append_right _ (List.mem_append_right _ (List.mem_append_right _ (List.mem_append_left _ (List.mem_of_getElem? (i := 82) rfl))))), rfl⟩
theorem tc_60 : am_cw 60 ∈ am_ws := List.mem_filter.mpr ⟨(List.mem_append_right _ (List.mem_append_right _ (List.mem_append_right _ (List.mem_append_left _ (List.mem_of_getElem? (i := 87) rfl))))), rfl⟩
theorem tc_61 : am_cw 61 ∈ am_ws := List.mem_filter.mpr ⟨(List.mem_append_right _ (List.mem_append_right _ (List.mem_append_right _ (List.mem_append_left _ (List.mem_of_getElem? (i := 92) rfl))))), rfl⟩
theorem tc_62 : am_cw 62 ∈ am_ws := List.mem_filter.mpr ⟨(List.mem_append_right _ (List.mem_append_right _ (List.mem_append_right _ (List.mem_append_left _ (List.mem_of_getElem? (i := 96) rfl))))), rfl⟩
theorem tc_63 : am_cw 63 ∈ am_ws := List.mem_filter.mpr ⟨(List.mem_append_right _ (List.mem_append_right _ (List.mem_append_right _ (List.mem_append_left _ (List.mem_of_getElem? (i := 101) rfl))))), rfl⟩
theorem tc_64 : am_cw 64 ∈ am_ws := List.mem_filter.mpr ⟨(List.mem_append_right _ (List.mem_append_right _ (List.mem_append_right _ (List.mem_append_left _ (List.mem_of_getElem? (i := 105) rfl))))), rfl⟩
theorem tc_65 : am_cw 65 ∈ am_ws := List.mem_filter.mpr ⟨(List.mem_append_right _ (List.mem_append_right _ (List.mem_append_right _ (List.mem_append_left _ (List.mem_of_getElem? (i := 109) rfl))))), rfl⟩
theorem tc_66 : am_cw 66 ∈ am_ws := List.mem_filter.mpr ⟨(List.mem_append_right _ (List.mem_append_right _ (List.mem_append_right _ (List.mem_append_left _ (List.mem_of_getElem? (i := 114) rfl))))), rfl⟩
theorem tc_67 : am_cw 67 ∈ am_ws := List.mem_filter.mpr ⟨(List.mem_append_right _ (List.mem_append_right _ (List.mem_append_right _ (List.mem_append_left _ (List.mem_of_getElem? (i := 126) rfl))))), rfl⟩
theorem tc_68 : am_cw 68 ∈ am_ws := List.mem_filter.mpr ⟨(List.mem_append_right _ (List.mem_append_right _ (List.mem_append_right _ (List.mem_append_left _ (List.mem_of_getElem? (i := 132) rfl))))), rfl⟩
theorem tc_69 : am_cw 69 ∈ am_ws := List.mem_filter.mpr ⟨(List.mem_append_right _ (List.mem_append_right _ (List.mem_append_right _ (List.mem_append_left _ (List.mem_of_getElem? (i := 136) rfl))))), rfl⟩
theorem tc_70 : am_cw 70 ∈ am_ws := List.mem_filter.mpr ⟨(List.mem_append_right _ (List.mem_append_right _ (List.mem_append_right _ (List.mem_append_left _ (List.mem_of_getElem? (i := 144) rfl))))), rfl⟩
theorem tc_71 : am_cw 71 ∈ am_ws := List.mem_filter.mpr ⟨(List.mem_append_right _ (List.mem_append_right _ (List.mem_append_right _ (List.mem_append_left _ (List.mem_of_getElem? (i := 150) rfl))))), rfl⟩
theorem tc_72 : am_cw 72 ∈ am_ws := List.mem_filter.mpr ⟨(List.mem_append_right _ (List.mem_append_right _ (List.mem_append_right _ (List.mem_append_left _ (List.mem_of_getElem? (i := 154) rfl))))), rfl⟩
theorem tc_73 : am_cw 73 ∈ am_ws := List.mem_filter.mpr ⟨(List.mem_append_right _ (List.mem_append_right _ (List.mem_append_right _ (List.mem_append_left _ (List.mem_of_getElem? (i := 158) rfl))))), rfl⟩
theorem tc_74 : am_cw 74 ∈ am_ws := List.mem_filter.mpr ⟨(List.mem_append_right _ (List.mem_append_right _ (List.mem_append_right _ (List.mem_append_left _ (List.mem_of_getElem? (i := 163) rfl))))), rfl⟩
theorem tc_75 : am_cw 75 ∈ am_ws := List.mem_filter.mpr ⟨(List.mem_append_right _ (List.mem_append_right _ (List.mem_append_right _ (List.mem_append_left _ (List.mem_of_getElem? (i := 167) rfl))))), rfl⟩
theorem tc_76 : am_cw 76 ∈ am_ws := List.mem_filter.mpr ⟨(List.mem_append_right _ (List.mem_append_right _ (List.mem_append_right _ (List.mem_append_left _ (List.mem_of_getElem? (i := 171) rfl))))), rfl⟩
theorem tc_77 : am_cw 77 ∈ am_ws := List.mem_filter.mpr ⟨(List.mem_append_right _ (List.mem_append_right _ (List.mem_append_right _ (List.mem_append_left _ (List.mem_of_getElem? (i := 174) rfl))))), rfl⟩
theorem tc_78 : am_cw 78 ∈ am_ws := List.mem_filter.mpr ⟨(List.mem_append_right _ (List.mem_append_right _ (List.mem_append_right _ (List.mem_append_left _ (List.mem_of_getElem? (i := 183) rfl))))), rfl⟩
theorem tc_79 : am_cw 79 ∈ am_ws := List.mem_filter.mpr ⟨(List.mem_append_right _ (List.mem_append_right _ (List.mem_append_right _ (List.mem_append_left _ (List.mem_of_getElem? (i := 223) rfl))))), rfl⟩
theorem tc_80 : am_cw 80 ∈ am_ws := List.mem_filter.mpr ⟨(List.mem_append_right _ (List.mem_append_right _ (List.mem_append_right _ (List.mem_append_left _ (List.mem_of_getElem? (i := 228) rfl))))), rfl⟩
theorem tc_81 : am_cw 81 ∈ am_ws := List.mem_filter.mpr ⟨(List.mem_append_right _ (List.mem_append_right _ (List.mem_append_right _ (List.mem_append_left _ (List.mem_of_getElem? (i := 232) rfl))))), rfl⟩
theorem tc_82 : am_cw 82 ∈ am_ws := List.mem_filter.mpr ⟨(List.mem_append_right _ (List.mem_append_right _ (List.mem_append_right _ (List.mem_append_left _ (List.mem_of_getElem? (i := 236) rfl))))), rfl⟩
theorem tc_83 : am_cw 83 ∈ am_ws := List.mem_filter.mpr ⟨(List.mem_append_right _ (List.mem_append_right _ (List.mem_append_right _ (List.mem_append_right _ (List.mem_append_left _ (List.mem_of_getElem? (i := 3) rfl)))))), rfl⟩
theorem tc_84 : am_cw 84 ∈ am_ws := List.mem_filter.mpr ⟨(List.mem_append_right _ (List.mem_append_right _ (List.mem_append_right _ (List.mem_append_right _ (List.mem_append_left _ (List.mem_of_getElem? (i := 7) rfl)))))), rfl⟩
theorem tc_85 : am_cw 85 ∈ am_ws := List.mem_filter.mpr ⟨(List.mem_append_right _ (List.mem_append_right _ (List.mem_append_right _ (List.mem_append_right _ (List.mem_append_left _ (List.mem_of_getElem? (i := 12) rfl)))))), rfl⟩
theorem tc_86 : am_cw 86 ∈ am_ws := List.mem_filter.mpr ⟨(List.mem_append_right _ (List.mem_append_right _ (List.mem_append_right _ (List.mem_append_right _ (List.mem_append_left _ (List.mem_of_getElem? (i := 15) rfl)))))), rfl⟩
theorem tc_87 : am_cw 87 ∈ am_ws := List.mem_filter.mpr ⟨(List.mem_append_right _ (List.mem_append_right _ (List.mem_append_right _ (List.mem_append_right _ (List.mem_append_left _ (List.mem_of_getElem? (i := 22) rfl)))))), rfl⟩
theorem tc_88 : am_cw 88 ∈ am_ws := List.mem_filter.mpr ⟨(List.mem_append_right _ (List.mem_append_right _ (List.mem_append_right _ (List.mem_append_right _ (List.mem_append_left _ (List.mem_of_getElem? (i := 35) rfl)))))), rfl⟩
theorem tc_89 : am_cw 89 ∈ am_ws := List.mem_filter.mpr ⟨(List.mem_append_right _ (List.mem_append_right _ (List.mem_append_right _ (List.mem_append_right _ (List.mem_append_left _ (List.mem_of_getElem? (i := 41) rfl)))))), rfl⟩
theorem tc_90 : am_cw 90 ∈ am_ws := List.mem_filter.mpr ⟨(List.mem_append_right _ (List.mem_append_right _ (List.mem_append_right _ (List.mem_append_right _ (List.mem_append_left _ (List.mem_of_getElem? (i := 45) rfl)))))), rfl⟩
theorem tc_91 : am_cw 91 ∈ am_ws := List.mem_filter.mpr ⟨(List.mem_append_right _ (List.mem_append_right _ (List.mem_append_right _ (List.mem_append_right _ (List.mem_append_left _ (List.mem_of_getElem? (i := 49) rfl)))))), rfl⟩
theorem tc_92 : am_cw 92 ∈ am_ws := List.mem_filter.mpr ⟨(List.mem_append_right _ (List.mem_append_right _ (List.mem_append_right _ (List.mem_append_right _ (List.mem_append_left _ (List.mem_of_getElem? (i := 53) rfl)))))), rfl⟩
theorem tc_93 : am_cw 93 ∈ am_ws := List.mem_filter.mpr ⟨(List.mem_append_right _ (List.mem_append_right _ (List.mem_append_right _ (List.mem_append_right _ (List.mem_append_left _ (List.mem_of_getElem? (i := 58) rfl)))))), rfl⟩
theorem tc_94 : am_cw 94 ∈ am_ws := List.mem_filter.mpr ⟨(List.mem_append_right _ (List.mem_append_right _ (List.mem_append_right _ (List.mem_append_right _ (List.mem_append_left _ (List.mem_of_getElem? (i := 62) rfl)))))), rfl⟩
theorem tc_95 : am_cw 95 ∈ am_ws := List.mem_filter.mpr ⟨(List.mem_append_right _ (List.mem_append_right _ (List.mem_append_right _ (List.mem_append_right _ (List.mem_append_left _ (List.mem_of_getElem? (i := 65) rfl)))))), rfl⟩
theorem tc_96 : am_cw 96 ∈ am_ws := List.mem_filter.mpr ⟨(List.mem_append_right _ (List.mem_append_right _ (List.mem_append_right _ (List.mem_append_right _ (List.mem_append_left _ (List.mem_of_getElem? (i := 76) rfl)))))), rfl⟩
theorem tc_97 : am_cw 97 ∈ am_ws := List.mem_filter.mpr ⟨(List.mem_append_right _ (List.mem_append_right _ (List.mem_append_right _ (List.mem_append_right _ (List.mem_append_left _ (List.mem_of_getElem? (i := 80) rfl)))))), rfl⟩
theorem tc_98 : am_cw 98 ∈ am_ws := List.mem_filter.mpr ⟨(List.mem_append_right _ (List.mem_append_right _ (List.mem_append_right _ (List.mem_append_right _ (List.mem_append_left _ (List.mem_of_getElem? (i := 83) rfl)))))), rfl⟩
theorem tc_99 : am_cw 99 ∈ am_ws := List.mem_filter.mpr ⟨(List.mem_append_right _ (List.mem_append_right _ (List.mem_append_right _ (List.mem_append_right _ (List.mem_append_left _ (List.mem_of_getElem? (i := 89) rfl)))))), rfl⟩
theorem tc_100 : am_cw 100 ∈ am_ws := List.mem_filter.mpr ⟨(List.mem_append_right _ (List.mem_append_right _ (List.mem_append_right _ (List.mem_append_right _ (List.mem_append_left _ (List.mem_of_getElem? (i := 95) rfl)))))), rfl⟩
theorem tc_101 : am_cw 101 ∈ am_ws := List.mem_filter.mpr ⟨(List.mem_append_right _ (List.mem_append_right _ (List.mem_append_right _ (List.mem_append_right _ (List.mem_append_left _ (List.mem_of_getElem? (i := 116) rfl)))))), rfl⟩
theorem tc_102 : am_cw 102 ∈ am_ws := List.mem_filter.mpr ⟨(List.mem_append_right _ (List.mem_append_right _ (List.mem_append_right _ (List.mem_append_right _ (List.mem_append_left _ (List.mem_of_getElem? (i := 121) rfl)))))), rfl⟩
theorem tc_103 : am_cw 103 ∈ am_ws := List.mem_filter.mpr ⟨(List.mem_append_right _ (List.mem_append_right _ (List.mem_append_right _ (List.mem_append_right _ (List.mem_append_left _ (List.mem_of_getElem? (i := 125) rfl)))))), rfl⟩
theorem tc_104 : am_cw 104 ∈ am_ws := List.mem_filter.mpr ⟨(List.mem_append_right _ (List.mem_append_right _ (List.mem_append_right _ (List.mem_append_right _ (List.mem_append_left _ (List.mem_of_getElem? (i := 132) rfl)))))), rfl⟩
theorem tc_105 : am_cw 105 ∈ am_ws := List.mem_filter.mpr ⟨(List.mem_append_right _ (List.mem_append_right _ (List.mem_append_right _ (List.mem_append_right _ (List.mem_append_left _ (List.mem_of_getElem? (i := 138) rfl)))))), rfl⟩
theorem tc_106 : am_cw 106 ∈ am_ws := List.mem_filter.mpr ⟨(List.mem_append_right _ (List.mem_append_right _ (List.mem_append_right _ (List.mem_append_right _ (List.mem_append_left _ (List.mem_of_getElem? (i := 142) rfl)))))), rfl⟩
theorem tc_107 : am_cw 107 ∈ am_ws := List.mem_filter.mpr ⟨(List.mem_append_right _ (List.mem_append_right _ (List.mem_append_right _ (List.mem_append_right _ (List.mem_append_left _ (List.mem_of_getElem? (i := 146) rfl)))))), rfl⟩
theorem tc_108 : am_cw 108 ∈ am_ws := List.mem_filter.mpr ⟨(List.mem_append_right _ (List.mem_append_right _ (List.mem_append_right _ (List.mem_append_right _ (List.mem_append_left _ (List.mem_of_getElem? (i := 150) rfl)))))), rfl⟩
theorem tc_109 : am_cw 109 ∈ am_ws := List.mem_filter.mpr ⟨(List.mem_append_right _ (List.mem_append_right _ (List.mem_append_right _ (List.mem_append_right _ (List.mem_append_left _ (List.mem_of_getElem? (i := 156) rfl)))))), rfl⟩
theorem tc_110 : am_cw 110 ∈ am_ws := List.mem_filter.mpr ⟨(List.mem_append_right _ (List.mem_append_right _ (List.mem_append_right _ (List.mem_append_right _ (List.mem_append_left _ (List.mem_of_getElem? (i := 161) rfl)))))), rfl⟩
theorem tc_111 : am_cw 111 ∈ am_ws := List.mem_filter.mpr ⟨(List.mem_append_right _ (List.mem_append_right _ (List.mem_append_right _ (List.mem_append_right _ (List.mem_append_left _ (List.mem_of_getElem? (i := 165) rfl)))))), rfl⟩
theorem tc_112 : am_cw 112 ∈ am_ws := List.mem_filter.mpr ⟨(List.mem_append_right _ (List.mem_append_right _ (List.mem_append_right _ (List.mem_append_right _ (List.mem_append_left _ (List.mem_of_getElem? (i := 169) rfl)))))), rfl⟩
theorem tc_113 : am_cw 113 ∈ am_ws := List.mem_filter.mpr ⟨(List.mem_append_right _ (List.mem_append_right _ (List.mem_append_right _ (List.mem_append_right _ (List.mem_append_left _ (List.mem_of_getElem? (i := 177) rfl)))))), rfl⟩
theorem tc_114 : am_cw 114 ∈ am_ws := List.mem_filter.mpr ⟨(List.mem_append_right _ (List.mem_append_right _ (List.mem_append_right _ (List.mem_append_right _ (List.mem_append_left _ (List.mem_of_getElem? (i := 190) rfl)))))), rfl⟩
theorem tc_115 : am_cw 115 ∈ am_ws := List.mem_filter.mpr ⟨(List.mem_append_right _ (List.mem_append_right _ (List.mem_append_right _ (List.mem_append_right _ (List.mem_append_left _ (List.mem_of_getElem? (i := 207) rfl)))))), rfl⟩
theorem tc_116 : am_cw 116 ∈ am_ws := List.mem_filter.mpr ⟨(List.mem_append_right _ (List.mem_append_right _ (List.mem_append_right _ (List.mem_append_right _ (List.mem_append_left _ (List.mem_of_getElem? (i := 215) rfl)))))), rfl⟩
theorem tc_117 : am_cw 117 ∈ am_ws := List.mem_filter.mpr ⟨(List.mem_append_right _ (List.mem_append_right _ (List.mem_append_right _ (List.mem_append_right _ (List.mem_append_right _ (List.mem_append_left _ (List.mem_of_getElem? (i := 143) rfl))))))), rfl⟩
theorem tc_118 : am_cw 118 ∈ am_ws := List.mem_filter.mpr ⟨(List.mem_append_right _ (List.mem_append_right _ (List.mem_append_right _ (List.mem_append_right _ (List.mem_append_right _ (List.mem_append_left _ (List.mem_of_getElem? (i := 147) rfl))))))), rfl⟩
theorem tc_119 : am_cw 119 ∈ am_ws := List.mem_filter.mpr ⟨(List.mem_append_right _ (List.mem_append_right _ (List.mem_append_right _ (List.mem_append_right _ (List.mem_append_right _ (List.mem_append_left _ (List.mem_of_getElem? (i := 151) rfl))))))), rfl⟩
theorem tc_120 : am_cw 120 ∈ am_ws := List.mem_filter.mpr ⟨(List.mem_append_right _ (List.mem_append_right _ (List.mem_append_right _ (List.mem_append_right _ (List.mem_append_right _ (List.mem_append_left _ (List.mem_of_getElem? (i := 155) rfl))))))), rfl⟩
theorem tc_121 : am_cw 121 ∈ am_ws := List.mem_filter.mpr ⟨(List.mem_append_right _ (List.mem_append_right _ (List.mem_append_right _ (List.mem_append_right _ (List.mem_append_right _ (List.mem_append_left _ (List.mem_of_getElem? (i := 159) rfl))))))), rfl⟩
theorem tc_122 : am_cw 122 ∈ am_ws := List.mem_filter.mpr ⟨(List.mem_append_right _ (List.mem_append_right _ (List.mem_append_right _ (List.mem_append_right _ (List.mem_append_right _ (List.mem_append_left _ (List.mem_of_getElem? (i := 163) rfl))))))), rfl⟩
theorem tc_123 : am_cw 123 ∈ am_ws := List.mem_filter.mpr ⟨(List.mem_append_right _ (List.mem_append_right _ (List.mem_append_right _ (List.mem_append_right _ (List.mem_append_right _ (List.mem_append_left _ (List.mem_of_getElem? (i := 167) rfl))))))), rfl⟩
theorem tc_124 : am_cw 124 ∈ am_ws := List.mem_filter.mpr ⟨(List.mem_append_right _ (List.mem_append_right _ (List.mem_append_right _ (List.mem_append_right _ (List.mem_append_right _ (List.mem_append_left _ (List.mem_of_getElem? (i := 171) rfl))))))), rfl⟩
theorem tc_125 : am_cw 125 ∈ am_ws := List.mem_filter.mpr ⟨(List.mem_append_right _ (List.mem_append_right _ (List.mem_append_right _ (List.mem_append_right _ (List.mem_append_right _ (List.mem_append_left _ (List.mem_of_getElem? (i := 175) rfl))))))), rfl⟩
theorem tc_126 : am_cw 126 ∈ am_ws := List.mem_filter.mpr ⟨(List.mem_append_right _ (List.mem_append_right _ (List.mem_append_right _ (List.mem_append_right _ (List.mem_append_right _ (List.mem_append_left _ (List.mem_of_getElem? (i := 179) rfl))))))), rfl⟩
theorem tc_127 : am_cw 127 ∈ am_ws := List.mem_filter.mpr ⟨(List.mem_append_right _ (List.mem_append_right _ (List.mem_append_right _ (List.mem_append_right _ (List.mem_append_right _ (List.mem_append_left _ (List.mem_of_getElem? (i := 183) rfl))))))), rfl⟩
theorem tc_128 : am_cw 128 ∈ am_ws := List.mem_filter.mpr ⟨(List.mem_append_right _ (List.mem_append_right _ (List.mem_append_right _ (List.mem_append_right _ (List.mem_append_right _ (List.mem_append_left _ (List.mem_of_getElem? (i := 187) rfl))))))), rfl⟩
theorem tc_129 : am_cw 129 ∈ am_ws := List.mem_filter.mpr ⟨(List.mem_append_right _ (List.mem_append_right _ (List.mem_append_right _ (List.mem_append_right _ (List.mem_append_right _ (List.mem_append_left _ (List.mem_of_getElem? (i := 191) rfl))))))), rfl⟩
theorem tc_130 : am_cw 130 ∈ am_ws := List.mem_filter.mpr ⟨(List.mem_append_right _ (List.mem_append_right _ (List.mem_append_right _ (List.mem_append_right _ (List.mem_append_right _ (List.mem_append_left _ (List.mem_of_getElem? (i := 195) rfl))))))), rfl⟩
theorem tc_131 : am_cw 131 ∈ am_ws := List.mem_filter.mpr ⟨(List.mem_append_right _ (List.mem_append_right _ (List.mem_append_right _ (List.mem_append_right _ (List.mem_append_right _ (List.mem_append_left _ (List.mem_of_getElem? (i := 198) rfl))))))), rfl⟩
theorem tc_132 : am_cw 132 ∈ am_ws := List.mem_filter.mpr ⟨(List.mem_append_right _ (List.mem_append_right _ (List.mem_append_right _ (List.mem_append_right _ (List.mem_append_right _ (List.mem_append_left _ (List.mem_of_getElem? (i := 205) rfl))))))), rfl⟩
theorem tc_133 : am_cw 133 ∈ am_ws := List.mem_filter.mpr ⟨(List.mem_append_right _ (List.mem_append_right _ (List.mem_append_right _ (List.mem_append_right _ (List.mem_append_right _ (List.mem_append_left _ (List.mem_of_getElem? (i := 209) rfl))))))), rfl⟩
theorem tc_134 : am_cw 134 ∈ am_ws := List.mem_filter.mpr ⟨(List.mem_append_right _ (List.mem_append_right _ (List.mem_append_right _ (List.mem_append_right _ (List.mem_append_right _ (List.mem_append_left _ (List.mem_of_getElem? (i := 213) rfl))))))), rfl⟩
theorem tc_135 : am_cw 135 ∈ am_ws := List.mem_filter.mpr ⟨(List.mem_append_right _ (List.mem_append_right _ (List.mem_append_right _ (List.mem_append_right _ (List.mem_append_right _ (List.mem_append_left _ (List.mem_of_getElem? (i := 217) rfl))))))), rfl⟩
theorem tc_136 : am_cw 136 ∈ am_ws := List.mem_filter.mpr ⟨(List.mem_append_right _ (List.mem_append_right _ (List.mem_append_right _ (List.mem_append_right _ (List.mem_append_right _ (List.mem_append_left _ (List.mem_of_getElem? (i := 221) rfl))))))), rfl⟩
theorem tc_137 : am_cw 137 ∈ am_ws := List.mem_filter.mpr ⟨(List.mem_append_right _ (List.mem_append_right _ (List.mem_append_right _ (List.mem_append_right _ (List.mem_append_right _ (List.mem_append_left _ (List.mem_of_getElem? (i := 224) rfl))))))), rfl⟩
theorem tc_138 : am_cw 138 ∈ am_ws := List.mem_filter.mpr ⟨(List.mem_append_right _ (List.mem_append_right _ (List.mem_append_right _ (List.mem_append_right _ (List.mem_append_right _ (List.mem_append_left _ (List.mem_of_getElem? (i := 232) rfl))))))), rfl⟩
theorem tc_139 : am_cw 139 ∈ am_ws := List.mem_filter.mpr ⟨(List.mem_append_right _ (List.mem_append_right _ (List.mem_append_right _ (List.mem_append_right _ (List.mem_append_right _ (List.mem_append_left _ (List.mem_of_getElem? (i := 236) rfl))))))), rfl⟩
theorem tc_140 : am_cw 140 ∈ am_ws := List.mem_filter.mpr ⟨(List.mem_append_right _ (List.mem_append_right _ (List.mem_append_right _ (List.mem_append_right _ (List.mem_append_right _ (List.mem_append_left _ (List.mem_of_getElem? (i := 239) rfl))))))), rfl⟩
theorem tc_141 : am_cw 141 ∈ am_ws := List.mem_filter.mpr ⟨(List.mem_append_right _ (List.mem_append_right _ (List.mem_append_right _ (List.mem_append_right _ (List.mem_append_right _ (List.mem_append_right _ (List.mem_of_getElem? (i := 3) rfl))))))), rfl⟩
theorem tc_142 : am_cw 142 ∈ am_ws := List.mem_filter.mpr ⟨(List.mem_append_right _ (List.mem_append_right _ (List.mem_append_right _ (List.mem_append_right _ (List.mem_append_right _ (List.mem_append_right _ (List.mem_of_getElem? (i := 7) rfl))))))), rfl⟩
theorem tc_143 : am_cw 143 ∈ am_ws := List.mem_filter.mpr ⟨(List.mem_append_right _ (List.mem_append_right _ (List.mem_append_right _ (List.mem_append_right _ (List.mem_append_right _ (List.mem_append_right _ (List.mem_of_getElem? (i := 10) rfl))))))), rfl⟩
theorem tc_144 : am_cw 144 ∈ am_ws := List.mem_filter.mpr ⟨(List.mem_append_right _ (List.mem_append_right _ (List.mem_append_right _ (List.mem_append_right _ (List.mem_append_right _ (List.mem_append_right _ (List.mem_of_getElem? (i := 14) rfl))))))), rfl⟩
theorem tc_145 : am_cw 145 ∈ am_ws := List.mem_filter.mpr ⟨(List.mem_append_right _ (List.mem_append_right _ (List.mem_append_right _ (List.mem_append_right _ (List.mem_append_right _ (List.mem_append_right _ (List.mem_of_getElem? (i := 20) rfl))))))), rfl⟩
theorem tc_146 : am_cw 146 ∈ am_ws := List.mem_filter.mpr ⟨(List.mem_append_right _ (List.mem_append_right _ (List.mem_append_right _ (List.mem_append_right _ (List.mem_append_right _ (List.mem_append_right _ (List.mem_of_getElem? (i := 24) rfl))))))), rfl⟩
theorem tc_147 : am_cw 147 ∈ am_ws := List.mem_filter.mpr ⟨(List.mem_append_right _ (List.mem_append_right _ (List.mem_append_right _ (List.mem_append_right _ (List.mem_append_right _ (List.mem_append_right _ (List.mem_of_getElem? (i := 27) rfl))))))), rfl⟩
theorem tc_148 : am_cw 148 ∈ am_ws := List.mem_filter.mpr ⟨(List.mem_append_right _ (List.mem_append_right _ (List.mem_append_right _ (List.mem_append_right _ (List.mem_append_right _ (List.mem_append_right _ (List.mem_of_getElem? (i := 31) rfl))))))), rfl⟩
theorem tc_149 : am_cw 149 ∈ am_ws := List.mem_filter.mpr ⟨(List.mem_append_right _ (List.mem_append_right _ (List.mem_append_right _ (List.mem_append_right _ (List.mem_append_right _ (List.mem_append_right _ (List.mem_of_getElem? (i := 35) rfl))))))), rfl⟩
theorem tc_150 : am_cw 150 ∈ am_ws := List.mem_filter.mpr ⟨(List.mem_append_right _ (List.mem_append_right _ (List.mem_append_right _ (List.mem_append_right _ (List.mem_append_right _ (List.mem_append_right _ (List.mem_of_getElem? (i := 39) rfl))))))), rfl⟩
theorem tc_151 : am_cw 151 ∈ am_ws := List.mem_filter.mpr ⟨(List.mem_append_right _ (List.mem_append_right _ (List.mem_append_right _ (List.mem_append_right _ (List.mem_append_right _ (List.mem_append_right _ (List.mem_of_getElem? (i := 45) rfl))))))), rfl⟩
theorem tc_152 : am_cw 152 ∈ am_ws := List.mem_filter.mpr ⟨(List.mem_append_right _ (List.mem_append_right _ (List.mem_append_right _ (List.mem_append_right _ (List.mem_append_right _ (List.mem_append_right _ (List.mem_of_getElem? (i := 50) rfl))))))), rfl⟩
theorem tc_153 : am_cw 153 ∈ am_ws := List.mem_filter.mpr ⟨(List.mem_append_right _ (List.mem_append_right _ (List.mem_append_right _ (List.mem_append_right _ (List.mem_append_right _ (List.mem_append_right _ (List.mem_of_getElem? (i := 55) rfl))))))), rfl⟩
theorem tc_154 : am_cw 154 ∈ am_ws := List.mem_filter.mpr ⟨(List.mem_append_right _ (List.mem_append_right _ (List.mem_append_right _ (List.mem_append_right _ (List.mem_append_right _ (List.mem_append_right _ (List.mem_of_getElem? (i := 60) rfl))))))), rfl⟩
theorem tc_155 : am_cw 155 ∈ am_ws := List.mem_filter.mpr ⟨(List.mem_append_right _ (List.mem_append_right _ (List.mem_append_right _ (List.mem_append_right _ (List.mem_append_right _ (List.mem_append_right _ (List.mem_of_getElem? (i := 64) rfl))))))), rfl⟩
theorem tc_156 : am_cw 156 ∈ am_ws := List.mem_filter.mpr ⟨(List.mem_append_right _ (List.mem_append_right _ (List.mem_append_right _ (List.mem_append_right _ (List.mem_append_right _ (List.mem_append_right _ (List.mem_of_getElem? (i := 68) rfl))))))), rfl⟩
theorem tc_157 : am_cw 157 ∈ am_ws := List.mem_filter.mpr ⟨(List.mem_append_right _ (List.mem_append_right _ (List.mem_append_right _ (List.mem_append_right _ (List.mem_append_right _ (List.mem_append_right _ (List.mem_of_getElem? (i := 71) rfl))))))), rfl⟩
theorem tc_158 : am_cw 158 ∈ am_ws := List.mem_filter.mpr ⟨(List.mem_append_right _ (List.mem_append_right _ (List.mem_append_right _ (List.mem_append_right _ (List.mem_append_right _ (List.mem_append_right _ (List.mem_of_getElem? (i := 77) rfl))))))), rfl⟩
theorem tc_159 : am_cw 159 ∈ am_ws := List.mem_filter.mpr ⟨(List.mem_append_right _ (List.mem_append_right _ (List.mem_append_right _ (List.mem_append_right _ (List.mem_append_right _ (List.mem_append_right _ (List.mem_of_getElem? (i := 81) rfl))))))), rfl⟩
theorem tc_160 : am_cw 160 ∈ am_ws := List.mem_filter.mpr ⟨(List.mem_append_right _ (List.mem_append_right _ (List.mem_append_right _ (List.mem_append_right _ (List.mem_append_right _ (List.mem_append_right _ (List.mem_of_getElem? (i := 84) rfl))))))), rfl⟩
theorem tc_161 : am_cw 161 ∈ am_ws := List.mem_filter.mpr ⟨(List.mem_append_right _ (List.mem_append_right _ (List.mem_append_right _ (List.mem_append_right _ (List.mem_append_right _ (List.mem_append_right _ (List.mem_of_getElem? (i := 88) rfl))))))), rfl⟩
theorem tc_162 : am_cw 162 ∈ am_ws := List.mem_filter.mpr ⟨(List.mem_append_right _ (List.mem_append_right _ (List.mem_append_right _ (List.mem_append_right _ (List.mem_append_right _ (List.mem_append_right _ (List.mem_of_getElem? (i := 91) rfl))))))), rfl⟩
theorem tc_163 : am_cw 163 ∈ am_ws := List.mem_filter.mpr ⟨(List.mem_append_right _ (List.mem_append_right _ (List.mem_append_right _ (List.mem_append_right _ (List.mem_append_right _ (List.mem_append_right _ (List.mem_of_getElem? (i := 95) rfl))))))), rfl⟩
theorem tc_164 : am_cw 164 ∈ am_ws := List.mem_filter.mpr ⟨(List.mem_append_right _ (List.mem_append_right _ (List.mem_append_right _ (List.mem_append_right _ (List.mem_append_right _ (List.mem_append_right _ (List.mem_of_getElem? (i := 99) rfl))))))), rfl⟩
theorem tc_165 : am_cw 165 ∈ am_ws := List.mem_filter.mpr ⟨(List.mem_append_right _ (List.mem_append_right _ (List.mem_append_right _ (List.mem_append_right _ (List.mem_append_right _ (List.mem_append_right _ (List.mem_of_getElem? (i := 103) rfl))))))), rfl⟩
theorem tc_166 : am_cw 166 ∈ am_ws := List.mem_filter.mpr ⟨(List.mem_append_right _ (List.mem_append_right _ (List.mem_append_right _ (List.mem_append_right _ (List.mem_append_right _ (List.mem_append_right _ (List.mem_of_getElem? (i := 107) rfl))))))), rfl⟩
theorem tc_167 : am_cw 167 ∈ am_ws := List.mem_filter.mpr ⟨(List.mem_append_right _ (List.mem_append_right _ (List.mem_append_right _ (List.mem_append_right _ (List.mem_append_right _ (List.mem_append_right _ (List.mem_of_getElem? (i := 111) rfl))))))), rfl⟩
theorem tc_168 : am_cw 168 ∈ am_ws := List.mem_filter.mpr ⟨(List.mem_append_right _ (List.mem_append_right _ (List.mem_append_right _ (List.mem_append_right _ (List.mem_append_right _ (List.mem_append_right _ (List.mem_of_getElem? (i := 115) rfl))))))), rfl⟩
theorem tc_169 : am_cw 169 ∈ am_ws := List.mem_filter.mpr ⟨(List.mem_append_right _ (List.mem_append_right _ (List.mem_append_right _ (List.mem_append_right _ (List.mem_append_right _ (List.mem_append_right _ (List.mem_of_getElem? (i := 119) rfl))))))), rfl⟩
theorem tc_170 : am_cw 170 ∈ am_ws := List.mem_filter.mpr ⟨(List.mem_append_right _ (List.mem_append_right _ (List.mem_append_right _ (List.mem_append_right _ (List.mem_append_right _ (List.mem_append_right _ (List.mem_of_getElem? (i := 123) rfl))))))), rfl⟩
theorem tc_171 : am_cw 171 ∈ am_ws := List.mem_filter.mpr ⟨(List.mem_append_right _ (List.mem_append_right _ (List.mem_append_right _ (List.mem_append_right _ (List.mem_append_right _ (List.mem_append_right _ (List.mem_of_getElem? (i := 126) rfl))))))), rfl⟩
theorem tc_172 : am_cw 172 ∈ am_ws := List.mem_filter.mpr ⟨(List.mem_append_right _ (List.mem_append_right _ (List.mem_append_right _ (List.mem_append_right _ (List.mem_append_right _ (List.mem_append_right _ (List.mem_of_getElem? (i := 130) rfl))))))), rfl⟩
theorem tc_173 : am_cw 173 ∈ am_ws := List.mem_filter.mpr ⟨(List.mem_append_right _ (List.mem_append_right _ (List.mem_append_right _ (List.mem_append_right _ (List.mem_append_right _ (List.mem_append_right _ (List.mem_of_getElem? (i := 134) rfl))))))), rfl⟩
theorem tc_174 : am_cw 174 ∈ am_ws := List.mem_filter.mpr ⟨(List.mem_append_right _ (List.mem_append_right _ (List.mem_append_right _ (List.mem_append_right _ (List.mem_append_right _ (List.mem_append_right _ (List.mem_of_getElem? (i := 138) rfl))))))), rfl⟩
theorem tc_175 : am_cw 175 ∈ am_ws := List.mem_filter.mpr ⟨(List.mem_append_right _ (List.mem_append_right _ (List.mem_append_right _ (List.mem_append_right _ (List.mem_append_right _ (List.mem_append_right _ (List.mem_of_getElem? (i := 142) rfl))))))), rfl⟩
theorem tc_176 : am_cw 176 ∈ am_ws := List.mem_filter.mpr ⟨(List.mem_append_right _ (List.mem_append_right _ (List.mem_append_right _ (List.mem_append_right _ (List.mem_append_right _ (List.mem_append_right _ (List.mem_of_getElem? (i := 146) rfl))))))), rfl⟩
theorem tc_177 : am_cw 177 ∈ am_ws := List.mem_filter.mpr ⟨(List.mem_append_right _ (List.mem_append_right _ (List.mem_append_right _ (List.mem_append_right _ (List.mem_append_right _ (List.mem_append_right _ (List.mem_of_getElem? (i := 150) rfl))))))), rfl⟩
theorem tc_178 : am_cw 178 ∈ am_ws := List.mem_filter.mpr ⟨(List.mem_append_right _ (List.mem_append_right _ (List.mem_append_right _ (List.mem_append_right _ (List.mem_append_right _ (List.mem_append_right _ (List.mem_of_getElem? (i := 154) rfl))))))), rfl⟩
theorem tc_179 : am_cw 179 ∈ am_ws := List.mem_filter.mpr ⟨(List.mem_append_right _ (List.mem_append_right _ (List.mem_append_right _ (List.mem_append_right _ (List.mem_append_right _ (List.mem_append_right _ (List.mem_of_getElem? (i := 158) rfl))))))), rfl⟩
theorem tc_180 : am_cw 180 ∈ am_ws := List.mem_filter.mpr ⟨(List.mem_append_right _ (List.mem_append_right _ (List.mem_append_right _ (List.mem_append_right _ (List.mem_append_right _ (List.mem_append_right _ (List.mem_of_getElem? (i := 162) rfl))))))), rfl⟩
theorem te_0 : ∀ a, a < 1 → am_cw a ∈ am_ws := lt_s lt_0 tc_0
theorem te_1 : ∀ a, a < 2 → am_cw a ∈ am_ws := lt_s te_0 tc_1
theorem te_2 : ∀ a, a < 3 → am_cw a ∈ am_ws := lt_s te_1 tc_2
theorem te_3 : ∀ a, a < 4 → am_cw a ∈ am_ws := lt_s te_2 tc_3
theorem te_4 : ∀ a, a < 5 → am_cw a ∈ am_ws := lt_s te_3 tc_4
theorem te_5 : ∀ a, a < 6 → am_cw a ∈ am_ws := lt_s te_4 tc_5
theorem te_6 : ∀ a, a < 7 → am_cw a ∈ am_ws := lt_s te_5 tc_6
theorem te_7 : ∀ a, a < 8 → am_cw a ∈ am_ws := lt_s te_6 tc_7
theorem te_8 : ∀ a, a < 9 → am_cw a ∈ am_ws := lt_s te_7 tc_8
theorem te_9 : ∀ a, a < 10 → am_cw a ∈ am_ws := lt_s te_8 tc_9
theorem te_10 : ∀ a, a < 11 → am_cw a ∈ am_ws := lt_s te_9 tc_10
theorem te_11 : ∀ a, a < 12 → am_cw a ∈ am_ws := lt_s te_10 tc_11
theorem te_12 : ∀ a, a < 13 → am_cw a ∈ am_ws := lt_s te_11 tc_12
theorem te_13 : ∀ a, a < 14 → am_cw a ∈ am_ws := lt_s te_12 tc_13
theorem te_14 : ∀ a, a < 15 → am_cw a ∈ am_ws := lt_s te_13 tc_14
theorem te_15 : ∀ a, a < 16 → am_cw a ∈ am_ws := lt_s te_14 tc_15
theorem te_16 : ∀ a, a < 17 → am_cw a ∈ am_ws := lt_s te_15 tc_16
theorem te_17 : ∀ a, a < 18 → am_cw a ∈ am_ws := lt_s te_16 tc_17
theorem te_18 : ∀ a, a < 19 → am_cw a ∈ am_ws := lt_s te_17 tc_18
theorem te_19 : ∀ a, a < 20 → am_cw a ∈ am_ws := lt_s te_18 tc_19
theorem te_20 : ∀ a, a < 21 → am_cw a ∈ am_ws := lt_s te_19 tc_20
theorem te_21 : ∀ a, a < 22 → am_cw a ∈ am_ws := lt_s te_20 tc_21
theorem te_22 : ∀ a, a < 23 → am_cw a ∈ am_ws := lt_s te_21 tc_22
theorem te_23 : ∀ a, a < 24 → am_cw a ∈ am_ws := lt_s te_22 tc_23
theorem te_24 : ∀ a, a < 25 → am_cw a ∈ am_ws := lt_s te_23 tc_24
theorem te_25 : ∀ a, a < 26 → am_cw a ∈ am_ws := lt_s te_24 tc_25
theorem te_26 : ∀ a, a < 27 → am_cw a ∈ am_ws := lt_s te_25 tc_26
theorem te_27 : ∀ a, a < 28 → am_cw a ∈ am_ws := lt_s te_26 tc_27
theorem te_28 : ∀ a, a < 29 → am_cw a ∈ am_ws := lt_s te_27 tc_28
theorem te_29 : ∀ a, a < 30 → am_cw a ∈ am_ws := lt_s te_28 tc_29
theorem te_30 : ∀ a, a < 31 → am_cw a ∈ am_ws := lt_s te_29 tc_30
theorem te_31 : ∀ a, a < 32 → am_cw a ∈ am_ws := lt_s te_30 tc_31
theorem te_32 : ∀ a, a < 33 → am_cw a ∈ am_ws := lt_s te_31 tc_32
theorem te_33 : ∀ a, a < 34 → am_cw a ∈ am_ws := lt_s te_32 tc_33
theorem te_34 : ∀ a, a < 35 → am_cw a ∈ am_ws := lt_s te_33 tc_34
theorem te_35 : ∀ a, a < 36 → am_cw a ∈ am_ws := lt_s te_34 tc_35
theorem te_36 : ∀ a, a < 37 → am_cw a ∈ am_ws := lt_s te_35 tc_36
theorem te_37 : ∀ a, a < 38 → am_cw a ∈ am_ws := lt_s te_36 tc_37
theorem te_38 : ∀ a, a < 39 → am_cw a ∈ am_ws := lt_s te_37 tc_38
theorem te_39 : ∀ a, a < 40 → am_cw a ∈ am_ws := lt_s te_38 tc_39
theorem te_40 : ∀ a, a < 41 → am_cw a ∈ am_ws := lt_s te_39 tc_40
theorem te_41 : ∀ a, a < 42 → am_cw a ∈ am_ws := lt_s te_40 tc_41
theorem te_42 : ∀ a, a < 43 → am_cw a ∈ am_ws := lt_s te_41 tc_42
theorem te_43 : ∀ a, a < 44 → am_cw a ∈ am_ws := lt_s te_42 tc_43
theorem te_44 : ∀ a, a < 45 → am_cw a ∈ am_ws := lt_s te_43 tc_44
theorem te_45 : ∀ a, a < 46 → am_cw a ∈ am_ws := lt_s te_44 tc_45
theorem te_46 : ∀ a, a < 47 → am_cw a ∈ am_ws := lt_s te_45 tc_46
theorem te_47 : ∀ a, a < 48 → am_cw a ∈ am_ws := lt_s te_46 tc_47
theorem te_48 : ∀ a, a < 49 → am_cw a ∈ am_ws := lt_s te_47 tc_48
theorem te_49 : ∀ a, a < 50 → am_cw a ∈ am_ws := lt_s te_48 tc_49
theorem te_50 : ∀ a, a < 51 → am_cw a ∈ am_ws := lt_s te_49 tc_50
theorem te_51 : ∀ a, a < 52 → am_cw a ∈ am_ws := lt_s te_50 tc_51
theorem te_52 : ∀ a, a < 53 → am_cw a ∈ am_ws := lt_s te_51 tc_52
theorem te_53 : ∀ a, a < 54 → am_cw a ∈ am_ws := lt_s te_52 tc_53
theorem te_54 : ∀ a, a < 55 → am_cw a ∈ am_ws := lt_s te_53 tc_54
theorem te_55 : ∀ a, a < 56 → am_cw a ∈ am_ws := lt_s te_54 tc_55
theorem te_56 : ∀ a, a < 57 → am_cw a ∈ am_ws := lt_s te_55 tc_56
theorem te_57 : ∀ a, a < 58 → am_cw a ∈ am_ws := lt_s te_56 tc_57
theorem te_58 : ∀ a, a < 59 → am_cw a ∈ am_ws := lt_s te_57 tc_58
theorem te_59 : ∀ a, a < 60 → am_cw a ∈ am_ws := lt_s te_58 tc_59
theorem te_60 : ∀ a, a < 61 → am_cw a ∈ am_ws := lt_s te_59 tc_60
theorem te_61 : ∀ a, a < 62 → am_cw a ∈ am_ws := lt_s te_60 tc_61
theorem te_62 : ∀ a, a < 63 → am_cw a ∈ am_ws := lt_s te_61 tc_62
theorem te_63 : ∀ a, a < 64 → am_cw a ∈ am_ws := lt_s te_62 tc_63
theorem te_64 : ∀ a, a < 65 → am_cw a ∈ am_ws := lt_s te_63 tc_64
theorem te_65 : ∀ a, a < 66 → am_cw a ∈ am_ws := lt_s te_64 tc_65
theorem te_66 : ∀ a, a < 67 → am_cw a ∈ am_ws := lt_s te_65 tc_66
theorem te_67 : ∀ a, a < 68 → am_cw a ∈ am_ws := lt_s te_66 tc_67
theorem te_68 : ∀ a, a < 69 → am_cw a ∈ am_ws := lt_s te_67 tc_68
theorem te_69 : ∀ a, a < 70 → am_cw a ∈ am_ws := lt_s te_68 tc_69
theorem te_70 : ∀ a, a < 71 → am_cw a ∈ am_ws := lt_s te_69 tc_70
theorem te_71 : ∀ a, a < 72 → am_cw a ∈ am_ws := lt_s te_70 tc_71
theorem te_72 : ∀ a, a < 73 → am_cw a ∈ am_ws := lt_s te_71 tc_72
theorem te_73 : ∀ a, a < 74 → am_cw a ∈ am_ws := lt_s te_72 tc_73
theorem te_74 : ∀ a, a < 75 → am_cw a ∈ am_ws := lt_s te_73 tc_74
theorem te_75 : ∀ a, a < 76 → am_cw a ∈ am_ws := lt_s te_74 tc_75
theorem te_76 : ∀ a, a < 77 → am_cw a ∈ am_ws := lt_s te_75 tc_76
theorem te_77 : ∀ a, a < 78 → am_cw a ∈ am_ws := lt_s te_76 tc_77
theorem te_78 : ∀ a, a < 79 → am_cw a ∈ am_ws := lt_s te_77 tc_78
theorem te_79 : ∀ a, a < 80 → am_cw a ∈ am_ws := lt_s te_78 tc_79
theorem te_80 : ∀ a, a < 81 → am_cw a ∈ am_ws := lt_s te_79 tc_80
theorem te_81 : ∀ a, a < 82 → am_cw a ∈ am_ws := lt_s te_80 tc_81
theorem te_82 : ∀ a, a < 83 → am_cw a ∈ am_ws := lt_s te_81 tc_82
theorem te_83 : ∀ a, a < 84 → am_cw a ∈ am_ws := lt_s te_82 tc_83
theorem te_84 : ∀ a, a < 85 → am_cw a ∈ am_ws := lt_s te_83 tc_84
theorem te_85 : ∀ a, a < 86 → am_cw a ∈ am_ws := lt_s te_84 tc_85
theorem te_86 : ∀ a, a < 87 → am_cw a ∈ am_ws := lt_s te_85 tc_86
theorem te_87 : ∀ a, a < 88 → am_cw a ∈ am_ws := lt_s te_86 tc_87
theorem te_88 : ∀ a, a < 89 → am_cw a ∈ am_ws := lt_s te_87 tc_88
theorem te_89 : ∀ a, a < 90 → am_cw a ∈ am_ws := lt_s te_88 tc_89
theorem te_90 : ∀ a, a < 91 → am_cw a ∈ am_ws := lt_s te_89 tc_90
theorem te_91 : ∀ a, a < 92 → am_cw a ∈ am_ws := lt_s te_90 tc_91
theorem te_92 : ∀ a, a < 93 → am_cw a ∈ am_ws := lt_s te_91 tc_92
theorem te_93 : ∀ a, a < 94 → am_cw a ∈ am_ws := lt_s te_92 tc_93
theorem te_94 : ∀ a, a < 95 → am_cw a ∈ am_ws := lt_s te_93 tc_94
theorem te_95 : ∀ a, a < 96 → am_cw a ∈ am_ws := lt_s te_94 tc_95
theorem te_96 : ∀ a, a < 97 → am_cw a ∈ am_ws := lt_s te_95 tc_96
theorem te_97 : ∀ a, a < 98 → am_cw a ∈ am_ws := lt_s te_96 tc_97
theorem te_98 : ∀ a, a < 99 → am_cw a ∈ am_ws := lt_s te_97 tc_98
theorem te_99 : ∀ a, a < 100 → am_cw a ∈ am_ws := lt_s te_98 tc_99
theorem te_100 : ∀ a, a < 101 → am_cw a ∈ am_ws := lt_s te_99 tc_100
theorem te_101 : ∀ a, a < 102 → am_cw a ∈ am_ws := lt_s te_100 tc_101
theorem te_102 : ∀ a, a < 103 → am_cw a ∈ am_ws := lt_s te_101 tc_102
theorem te_103 : ∀ a, a < 104 → am_cw a ∈ am_ws := lt_s te_102 tc_103
theorem te_104 : ∀ a, a < 105 → am_cw a ∈ am_ws := lt_s te_103 tc_104
theorem te_105 : ∀ a, a < 106 → am_cw a ∈ am_ws := lt_s te_104 tc_105
theorem te_106 : ∀ a, a < 107 → am_cw a ∈ am_ws := lt_s te_105 tc_106
theorem te_107 : ∀ a, a < 108 → am_cw a ∈ am_ws := lt_s te_106 tc_107
theorem te_108 : ∀ a, a < 109 → am_cw a ∈ am_ws := lt_s te_107 tc_108
theorem te_109 : ∀ a, a < 110 → am_cw a ∈ am_ws := lt_s te_108 tc_109
theorem te_110 : ∀ a, a < 111 → am_cw a ∈ am_ws := lt_s te_109 tc_110
theorem te_111 : ∀ a, a < 112 → am_cw a ∈ am_ws := lt_s te_110 tc_111
theorem te_112 : ∀ a, a < 113 → am_cw a ∈ am_ws := lt_s te_111 tc_112
theorem te_113 : ∀ a, a < 114 → am_cw a ∈ am_ws := lt_s te_112 tc_113
theorem te_114 : ∀ a, a < 115 → am_cw a ∈ am_ws := lt_s te_113 tc_114
theorem te_115 : ∀ a, a < 116 → am_cw a ∈ am_ws := lt_s te_114 tc_115
theorem te_116 : ∀ a, a < 117 → am_cw a ∈ am_ws := lt_s te_115 tc_116
theorem te_117 : ∀ a, a < 118 → am_cw a ∈ am_ws := lt_s te_116 tc_117
theorem te_118 : ∀ a, a < 119 → am_cw a ∈ am_ws := lt_s te_117 tc_118
theorem te_119 : ∀ a, a < 120 → am_cw a ∈ am_ws := lt_s te_118 tc_119
theorem te_120 : ∀ a, a < 121 → am_cw a ∈ am_ws := lt_s te_119 tc_120
theorem te_121 : ∀ a, a < 122 → am_cw a ∈ am_ws := lt_s te_120 tc_121
theorem te_122 : ∀ a, a < 123 → am_cw a ∈ am_ws := lt_s te_121 tc_122
theorem te_123 : ∀ a, a < 124 → am_cw a ∈ am_ws := lt_s te_122 tc_123
theorem te_124 : ∀ a, a < 125 → am_cw a ∈ am_ws := lt_s te_123 tc_124
theorem te_125 : ∀ a, a < 126 → am_cw a ∈ am_ws := lt_s te_124 tc_125
theorem te_126 : ∀ a, a < 127 → am_cw a ∈ am_ws := lt_s te_125 tc_126
theorem te_127 : ∀ a, a < 128 → am_cw a ∈ am_ws := lt_s te_126 tc_127
theorem te_128 : ∀ a, a < 129 → am_cw a ∈ am_ws := lt_s te_127 tc_128
theorem te_129 : ∀ a, a < 130 → am_cw a ∈ am_ws := lt_s te_128 tc_129
theorem te_130 : ∀ a, a < 131 → am_cw a ∈ am_ws := lt_s te_129 tc_130
theorem te_131 : ∀ a, a < 132 → am_cw a ∈ am_ws := lt_s te_130 tc_131
theorem te_132 : ∀ a, a < 133 → am_cw a ∈ am_ws := lt_s te_131 tc_132
theorem te_133 : ∀ a, a < 134 → am_cw a ∈ am_ws := lt_s te_132 tc_133
theorem te_134 : ∀ a, a < 135 → am_cw a ∈ am_ws := lt_s te_133 tc_134
theorem te_135 : ∀ a, a < 136 → am_cw a ∈ am_ws := lt_s te_134 tc_135
theorem te_136 : ∀ a, a < 137 → am_cw a ∈ am_ws := lt_s te_135 tc_136
theorem te_137 : ∀ a, a < 138 → am_cw a ∈ am_ws := lt_s te_136 tc_137
theorem te_138 : ∀ a, a < 139 → am_cw a ∈ am_ws := lt_s te_137 tc_138
theorem te_139 : ∀ a, a < 140 → am_cw a ∈ am_ws := lt_s te_138 tc_139
theorem te_140 : ∀ a, a < 141 → am_cw a ∈ am_ws := lt_s te_139 tc_140
theorem te_141 : ∀ a, a < 142 → am_cw a ∈ am_ws := lt_s te_140 tc_141
theorem te_142 : ∀ a, a < 143 → am_cw a ∈ am_ws := lt_s te_141 tc_142
theorem te_143 : ∀ a, a < 144 → am_cw a ∈ am_ws := lt_s te_142 tc_143
theorem te_144 : ∀ a, a < 145 → am_cw a ∈ am_ws := lt_s te_143 tc_144
theorem te_145 : ∀ a, a < 146 → am_cw a ∈ am_ws := lt_s te_144 tc_145
theorem te_146 : ∀ a, a < 147 → am_cw a ∈ am_ws := lt_s te_145 tc_146
theorem te_147 : ∀ a, a < 148 → am_cw a ∈ am_ws := lt_s te_146 tc_147
theorem te_148 : ∀ a, a < 149 → am_cw a ∈ am_ws := lt_s te_147 tc_148
theorem te_149 : ∀ a, a < 150 → am_cw a ∈ am_ws := lt_s te_148 tc_149
theorem te_150 : ∀ a, a < 151 → am_cw a ∈ am_ws := lt_s te_149 tc_150
theorem te_151 : ∀ a, a < 152 → am_cw a ∈ am_ws := lt_s te_150 tc_151
theorem te_152 : ∀ a, a < 153 → am_cw a ∈ am_ws := lt_s te_151 tc_152
theorem te_153 : ∀ a, a < 154 → am_cw a ∈ am_ws := lt_s te_152 tc_153
theorem te_154 : ∀ a, a < 155 → am_cw a ∈ am_ws := lt_s te_153 tc_154
theorem te_155 : ∀ a, a < 156 → am_cw a ∈ am_ws := lt_s te_154 tc_155
theorem te_156 : ∀ a, a < 157 → am_cw a ∈ am_ws := lt_s te_155 tc_156
theorem te_157 : ∀ a, a < 158 → am_cw a ∈ am_ws := lt_s te_156 tc_157
theorem te_158 : ∀ a, a < 159 → am_cw a ∈ am_ws := lt_s te_157 tc_158
theorem te_159 : ∀ a, a < 160 → am_cw a ∈ am_ws := lt_s te_158 tc_159
theorem te_160 : ∀ a, a < 161 → am_cw a ∈ am_ws := lt_s te_159 tc_160
theorem te_161 : ∀ a, a < 162 → am_cw a ∈ am_ws := lt_s te_160 tc_161
theorem te_162 : ∀ a, a < 163 → am_cw a ∈ am_ws := lt_s te_161 tc_162
theorem te_163 : ∀ a, a < 164 → am_cw a ∈ am_ws := lt_s te_162 tc_163
theorem te_164 : ∀ a, a < 165 → am_cw a ∈ am_ws := lt_s te_163 tc_164
theorem te_165 : ∀ a, a < 166 → am_cw a ∈ am_ws := lt_s te_164 tc_165
theorem te_166 : ∀ a, a < 167 → am_cw a ∈ am_ws := lt_s te_165 tc_166
theorem te_167 : ∀ a, a < 168 → am_cw a ∈ am_ws := lt_s te_166 tc_167
theorem te_168 : ∀ a, a < 169 → am_cw a ∈ am_ws := lt_s te_167 tc_168
theorem te_169 : ∀ a, a < 170 → am_cw a ∈ am_ws := lt_s te_168 tc_169
theorem te_170 : ∀ a, a < 171 → am_cw a ∈ am_ws := lt_s te_169 tc_170
theorem te_171 : ∀ a, a < 172 → am_cw a ∈ am_ws := lt_s te_170 tc_171
theorem te_172 : ∀ a, a < 173 → am_cw a ∈ am_ws := lt_s te_171 tc_172
theorem te_173 : ∀ a, a < 174 → am_cw a ∈ am_ws := lt_s te_172 tc_173
theorem te_174 : ∀ a, a < 175 → am_cw a ∈ am_ws := lt_s te_173 tc_174
theorem te_175 : ∀ a, a < 176 → am_cw a ∈ am_ws := lt_s te_174 tc_175
theorem te_176 : ∀ a, a < 177 → am_cw a ∈ am_ws := lt_s te_175 tc_176
theorem te_177 : ∀ a, a < 178 → am_cw a ∈ am_ws := lt_s te_176 tc_177
theorem te_178 : ∀ a, a < 179 → am_cw a ∈ am_ws := lt_s te_177 tc_178
theorem te_179 : ∀ a, a < 180 → am_cw a ∈ am_ws := lt_s te_178 tc_179
theorem te_180 : ∀ a, a < 181 → am_cw a ∈ am_ws := lt_s te_179 tc_180
theorem tc_all (m : Nat) (h : m < am_nM - 1) : am_cw m ∈ am_ws := te_180 m h
theorem tc_mxl : Cond.code Lib.MathLoose.max_long.x Lib.MathLoose.max_long.code 4 (some .long) ∈ am_ws := List.mem_filter.mpr ⟨(List.mem_append_right _ (List.mem_append_right _ (List.mem_append_right _ (List.mem_append_right _ (List.mem_append_left _ (List.mem_of_getElem? (i := 70) rfl)))))), rfl⟩
theorem tc_mxi : Cond.code Lib.Math.max.name Lib.Math.max.code 2 (some .int) ∈ am_ws := List.mem_filter.mpr ⟨(List.mem_append_right _ (List.mem_append_right _ (List.mem_append_right _ (List.mem_append_left _ (List.mem_of_getElem? (i := 177) rfl))))), rfl⟩
theorem tc_mni : Cond.code Lib.Math.min.name Lib.Math.min.code 2 (some .int) ∈ am_ws := List.mem_filter.mpr ⟨(List.mem_append_right _ (List.mem_append_right _ (List.mem_append_right _ (List.mem_append_left _ (List.mem_of_getElem? (i := 180) rfl))))), rfl⟩
theorem ts_mxl : Cond.static Lib.MathLoose.max_long.x ∈ am_ws := List.mem_filter.mpr ⟨(List.mem_append_right _ (List.mem_append_right _ (List.mem_append_right _ (List.mem_append_right _ (List.mem_append_left _ (List.mem_of_getElem? (i := 69) rfl)))))), rfl⟩
theorem ts_mxi : Cond.static Lib.Math.max.name ∈ am_ws := List.mem_filter.mpr ⟨(List.mem_append_right _ (List.mem_append_right _ (List.mem_append_right _ (List.mem_append_left _ (List.mem_of_getElem? (i := 176) rfl))))), rfl⟩
theorem ts_mni : Cond.static Lib.Math.min.name ∈ am_ws := List.mem_filter.mpr ⟨(List.mem_append_right _ (List.mem_append_right _ (List.mem_append_right _ (List.mem_append_left _ (List.mem_of_getElem? (i := 179) rfl))))), rfl⟩
theorem ts_mth : Cond.initialized "java/lang/Math" ∈ am_ws := List.mem_filter.mpr ⟨(List.mem_append_right _ (List.mem_append_left _ (List.mem_of_getElem? (i := 20) rfl))), rfl⟩
theorem ts_obi : Cond.instanceMethod objectInit ∈ am_ws := List.mem_filter.mpr ⟨(List.mem_append_right _ (List.mem_append_left _ (List.mem_of_getElem? (i := 32) rfl))), rfl⟩
theorem ts_obc : Cond.code objectInit ⟨#[0xb1]⟩ 1 none ∈ am_ws := List.mem_filter.mpr ⟨(List.mem_append_right _ (List.mem_append_left _ (List.mem_of_getElem? (i := 33) rfl))), rfl⟩
