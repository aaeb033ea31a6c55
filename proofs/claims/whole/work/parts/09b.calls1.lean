/-! Calls, the rest. -/
set_option maxRecDepth 100000 in
theorem ek_91 : am_clm 91 := am_clm_of (n := 22) (f := cd_91) (by decide +kernel) (fun _ => rfl) (fun _ _ h => am_bd1 h)
set_option maxRecDepth 100000 in
theorem ek_92 : am_clm 92 := am_clm_of (n := 40) (f := cd_92) (by decide +kernel) (fun _ => rfl) (fun _ _ h => am_bd1 h)
set_option maxRecDepth 100000 in
theorem ek_93 : am_clm 93 := am_clm_of (n := 59) (f := cd_93) (by decide +kernel) (fun _ => rfl) (fun _ _ h => am_bd1 h)
set_option maxRecDepth 100000 in
theorem ek_94 : am_clm 94 := am_clm_of (n := 127) (f := cd_94) (by decide +kernel) (fun _ => rfl) (fun _ _ h => am_bd1 h)
set_option maxRecDepth 100000 in
theorem ek_95 : am_clm 95 := am_clm_of (n := 22) (f := cd_95) (by decide +kernel) (fun _ => rfl) (fun _ _ h => am_bd1 h)
set_option maxRecDepth 100000 in
theorem ek_96 : am_clm 96 := am_clm_of (n := 65) (f := cd_96) (by decide +kernel) (fun _ => rfl) (fun _ _ h => am_bd1 h)
set_option maxRecDepth 100000 in
theorem ek_97 : am_clm 97 := am_clm_of (n := 201) (f := cd_97) (by decide +kernel) (fun _ => rfl) (fun _ _ h => am_bd1 h)
set_option maxRecDepth 100000 in
theorem ek_98 : am_clm 98 := am_clm_of (n := 31) (f := cd_98) (by decide +kernel) (fun _ => rfl) (fun _ _ h => am_bd1 h)
set_option maxRecDepth 100000 in
theorem ek_99 : am_clm 99 := am_clm_of (n := 158) (f := cd_99) (by decide +kernel) (fun _ => rfl) (fun _ _ h => am_bd1 h)
set_option maxRecDepth 100000 in
theorem ek_100 : am_clm 100 := am_clm_of (n := 32) (f := cd_100) (by decide +kernel) (fun _ => rfl) (fun _ _ h => am_bd1 h)
set_option maxRecDepth 100000 in
theorem ek_101 : am_clm 101 := am_clm_of (n := 135) (f := cd_101) (by decide +kernel) (fun _ => rfl) (fun _ _ h => am_bd1 h)
set_option maxRecDepth 100000 in
theorem ek_102 : am_clm 102 := am_clm_of (n := 42) (f := cd_102) (by decide +kernel) (fun _ => rfl) (fun _ _ h => am_bd1 h)
set_option maxRecDepth 100000 in
theorem ek_103 : am_clm 103 := am_clm_of (n := 99) (f := cd_103) (by decide +kernel) (fun _ => rfl) (fun _ _ h => am_bd1 h)
set_option maxRecDepth 100000 in
theorem ek_104 : am_clm 104 := am_clm_of (n := 118) (f := cd_104) (by decide +kernel) (fun _ => rfl) (fun _ _ h => am_bd1 h)
set_option maxRecDepth 100000 in
theorem ek_105 : am_clm 105 := am_clm_of (n := 68) (f := cd_105) (by decide +kernel) (fun _ => rfl) (fun _ _ h => am_bd1 h)
set_option maxRecDepth 100000 in
theorem ek_106 : am_clm 106 := am_clm_of (n := 176) (f := cd_106) (by decide +kernel) (fun _ => rfl) (fun _ _ h => am_bd1 h)
set_option maxRecDepth 100000 in
theorem ek_107 : am_clm 107 := am_clm_of (n := 22) (f := cd_107) (by decide +kernel) (fun _ => rfl) (fun _ _ h => am_bd1 h)
set_option maxRecDepth 100000 in
theorem ek_108 : am_clm 108 := am_clm_of (n := 53) (f := cd_108) (by decide +kernel) (fun _ => rfl) (fun _ _ h => am_bd1 h)
set_option maxRecDepth 100000 in
theorem ek_109 : am_clm 109 := am_clm_of (n := 59) (f := cd_109) (by decide +kernel) (fun _ => rfl) (fun _ _ h => am_bd1 h)
set_option maxRecDepth 100000 in
theorem ek_110 : am_clm 110 := am_clm_of (n := 79) (f := cd_110) (by decide +kernel) (fun _ => rfl) (fun _ _ h => am_bd1 h)
set_option maxRecDepth 100000 in
theorem ek_111 : am_clm 111 := am_clm_of (n := 107) (f := cd_111) (by decide +kernel) (fun _ => rfl) (fun _ _ h => am_bd1 h)
set_option maxRecDepth 100000 in
theorem ek_112 : am_clm 112 := am_clm_of (n := 174) (f := cd_112) (by decide +kernel) (fun _ => rfl) (fun _ _ h => am_bd1 h)
set_option maxRecDepth 100000 in
theorem ek_113 : am_clm 113 := am_clm_of (n := 43) (f := cd_113) (by decide +kernel) (fun _ => rfl) (fun _ _ h => am_bd1 h)
set_option maxRecDepth 100000 in
theorem ek_114 : am_clm 114 := am_clm_of (n := 6) (f := cd_114) (by decide +kernel) (fun _ => rfl) (fun _ _ h => am_bd1 h)
set_option maxRecDepth 100000 in
theorem ek_115 : am_clm 115 := am_clm_of (n := 6) (f := cd_115) (by decide +kernel) (fun _ => rfl) (fun _ _ h => am_bd1 h)
set_option maxRecDepth 100000 in
theorem ek_116 : am_clm 116 := am_clm_of (n := 318) (f := cd_116) (by decide +kernel) (fun _ => rfl) (fun _ _ h => am_bd1 h)
set_option maxRecDepth 100000 in
theorem ek_117 : am_clm 117 := am_clm_of (n := 5) (f := cd_117) (by decide +kernel) (fun _ => rfl) (fun _ _ h => am_bd1 h)
set_option maxRecDepth 100000 in
theorem ek_118 : am_clm 118 := am_clm_of (n := 126) (f := cd_118) (by decide +kernel) (fun _ => rfl) (fun _ _ h => am_bd1 h)
set_option maxRecDepth 100000 in
theorem ek_119 : am_clm 119 := am_clm_of (n := 11) (f := cd_119) (by decide +kernel) (fun _ => rfl) (fun _ _ h => am_bd1 h)
set_option maxRecDepth 100000 in
theorem ek_120 : am_clm 120 := am_clm_of (n := 10) (f := cd_120) (by decide +kernel) (fun _ => rfl) (fun _ _ h => am_bd1 h)
set_option maxRecDepth 100000 in
theorem ek_121 : am_clm 121 := am_clm_of (n := 61) (f := cd_121) (by decide +kernel) (fun _ => rfl) (fun _ _ h => am_bd1 h)
set_option maxRecDepth 100000 in
theorem ek_122 : am_clm 122 := am_clm_of (n := 92) (f := cd_122) (by decide +kernel) (fun _ => rfl) (fun _ _ h => am_bd1 h)
set_option maxRecDepth 100000 in
theorem ek_123 : am_clm 123 := am_clm_of (n := 125) (f := cd_123) (by decide +kernel) (fun _ => rfl) (fun _ _ h => am_bd1 h)
set_option maxRecDepth 100000 in
theorem ek_124 : am_clm 124 := am_clm_of (n := 19) (f := cd_124) (by decide +kernel) (fun _ => rfl) (fun _ _ h => am_bd1 h)
set_option maxRecDepth 100000 in
theorem ek_125 : am_clm 125 := am_clm_of (n := 99) (f := cd_125) (by decide +kernel) (fun _ => rfl) (fun _ _ h => am_bd1 h)
set_option maxRecDepth 100000 in
theorem ek_126 : am_clm 126 := am_clm_of (n := 113) (f := cd_126) (by decide +kernel) (fun _ => rfl) (fun _ _ h => am_bd1 h)
set_option maxRecDepth 100000 in
theorem ek_127 : am_clm 127 := am_clm_of (n := 117) (f := cd_127) (by decide +kernel) (fun _ => rfl) (fun _ _ h => am_bd1 h)
set_option maxRecDepth 100000 in
theorem ek_128 : am_clm 128 := am_clm_of (n := 125) (f := cd_128) (by decide +kernel) (fun _ => rfl) (fun _ _ h => am_bd1 h)
set_option maxRecDepth 100000 in
theorem ek_129 : am_clm 129 := am_clm_of (n := 27) (f := cd_129) (by decide +kernel) (fun _ => rfl) (fun _ _ h => am_bd1 h)
set_option maxRecDepth 100000 in
theorem ek_130 : am_clm 130 := am_clm_of (n := 129) (f := cd_130) (by decide +kernel) (fun _ => rfl) (fun _ _ h => am_bd1 h)
set_option maxRecDepth 100000 in
theorem ek_131 : am_clm 131 := am_clm_of (n := 18) (f := cd_131) (by decide +kernel) (fun _ => rfl) (fun _ _ h => am_bd1 h)
set_option maxRecDepth 100000 in
theorem ek_132 : am_clm 132 := am_clm_of (n := 20) (f := cd_132) (by decide +kernel) (fun _ => rfl) (fun _ _ h => am_bd1 h)
set_option maxRecDepth 100000 in
theorem ek_133 : am_clm 133 := am_clm_of (n := 97) (f := cd_133) (by decide +kernel) (fun _ => rfl) (fun _ _ h => am_bd1 h)
set_option maxRecDepth 100000 in
theorem ek_134 : am_clm 134 := am_clm_of (n := 249) (f := cd_134) (by decide +kernel) (fun _ => rfl) (fun _ _ h => am_bd1 h)
set_option maxRecDepth 100000 in
theorem ek_135 : am_clm 135 := am_clm_of (n := 40) (f := cd_135) (by decide +kernel) (fun _ => rfl) (fun _ _ h => am_bd1 h)
set_option maxRecDepth 100000 in
theorem ek_136 : am_clm 136 := am_clm_of (n := 20) (f := cd_136) (by decide +kernel) (fun _ => rfl) (fun _ _ h => am_bd1 h)
set_option maxRecDepth 100000 in
theorem ek_137 : am_clm 137 := am_clm_of (n := 29) (f := cd_137) (by decide +kernel) (fun _ => rfl) (fun _ _ h => am_bd1 h)
set_option maxRecDepth 100000 in
theorem ek_138 : am_clm 138 := am_clm_of (n := 31) (f := cd_138) (by decide +kernel) (fun _ => rfl) (fun _ _ h => am_bd1 h)
set_option maxRecDepth 100000 in
theorem ek_139 : am_clm 139 := am_clm_of (n := 187) (f := cd_139) (by decide +kernel) (fun _ => rfl) (fun _ _ h => am_bd1 h)
set_option maxRecDepth 100000 in
theorem ek_140 : am_clm 140 := am_clm_of (n := 18) (f := cd_140) (by decide +kernel) (fun _ => rfl) (fun _ _ h => am_bd1 h)
set_option maxRecDepth 100000 in
theorem ek_141 : am_clm 141 := am_clm_of (n := 280) (f := cd_141) (by decide +kernel) (fun _ => rfl) (fun _ _ h => am_bd1 h)
set_option maxRecDepth 100000 in
theorem ek_142 : am_clm 142 := am_clm_of (n := 46) (f := cd_142) (by decide +kernel) (fun _ => rfl) (fun _ _ h => am_bd1 h)
set_option maxRecDepth 100000 in
theorem ek_143 : am_clm 143 := am_clm_of (n := 32) (f := cd_143) (by decide +kernel) (fun _ => rfl) (fun _ _ h => am_bd1 h)
set_option maxRecDepth 100000 in
theorem ek_144 : am_clm 144 := am_clm_of (n := 127) (f := cd_144) (by decide +kernel) (fun _ => rfl) (fun _ _ h => am_bd1 h)
set_option maxRecDepth 100000 in
theorem ek_145 : am_clm 145 := am_clm_of (n := 46) (f := cd_145) (by decide +kernel) (fun _ => rfl) (fun _ _ h => am_bd1 h)
set_option maxRecDepth 100000 in
theorem ek_146 : am_clm 146 := am_clm_of (n := 376) (f := cd_146) (by decide +kernel) (fun _ => rfl) (fun _ _ h => am_bd1 h)
set_option maxRecDepth 100000 in
theorem ek_147 : am_clm 147 := am_clm_of (n := 14) (f := cd_147) (by decide +kernel) (fun _ => rfl) (fun _ _ h => am_bd1 h)
set_option maxRecDepth 100000 in
theorem ek_148 : am_clm 148 := am_clm_of (n := 174) (f := cd_148) (by decide +kernel) (fun _ => rfl) (fun _ _ h => am_bd1 h)
set_option maxRecDepth 100000 in
theorem ek_149 : am_clm 149 := am_clm_of (n := 224) (f := cd_149) (by decide +kernel) (fun _ => rfl) (fun _ _ h => am_bd1 h)
set_option maxRecDepth 100000 in
theorem ek_150 : am_clm 150 := am_clm_of (n := 115) (f := cd_150) (by decide +kernel) (fun _ => rfl) (fun _ _ h => am_bd1 h)
set_option maxRecDepth 100000 in
theorem ek_151 : am_clm 151 := am_clm_of (n := 322) (f := cd_151) (by decide +kernel) (fun _ => rfl) (fun _ _ h => am_bd1 h)
set_option maxRecDepth 100000 in
theorem ek_152 : am_clm 152 := am_clm_of (n := 110) (f := cd_152) (by decide +kernel) (fun _ => rfl) (fun _ _ h => am_bd1 h)
set_option maxRecDepth 100000 in
theorem ek_153 : am_clm 153 := am_clm_of (n := 150) (f := cd_153) (by decide +kernel) (fun _ => rfl) (fun _ _ h => am_bd1 h)
set_option maxRecDepth 100000 in
theorem ek_154 : am_clm 154 := am_clm_of (n := 281) (f := cd_154) (by decide +kernel) (fun _ => rfl) (fun _ _ h => am_bd1 h)
set_option maxRecDepth 100000 in
theorem ek_155 : am_clm 155 := am_clm_of (n := 10) (f := cd_155) (by decide +kernel) (fun _ => rfl) (fun _ _ h => am_bd1 h)
set_option maxRecDepth 100000 in
theorem ek_156 : am_clm 156 := am_clm_of (n := 46) (f := cd_156) (by decide +kernel) (fun _ => rfl) (fun _ _ h => am_bd1 h)
set_option maxRecDepth 100000 in
theorem ek_157 : am_clm 157 := am_clm_of (n := 32) (f := cd_157) (by decide +kernel) (fun _ => rfl) (fun _ _ h => am_bd1 h)
set_option maxRecDepth 100000 in
theorem ek_158 : am_clm 158 := am_clm_of (n := 160) (f := cd_158) (by decide +kernel) (fun _ => rfl) (fun _ _ h => am_bd1 h)
set_option maxRecDepth 100000 in
theorem ek_159 : am_clm 159 := am_clm_of (n := 270) (f := cd_159) (by decide +kernel) (fun _ => rfl) (fun _ _ h => am_bd1 h)
set_option maxRecDepth 100000 in
theorem ek_160 : am_clm 160 := am_clm_of (n := 23) (f := cd_160) (by decide +kernel) (fun _ => rfl) (fun _ _ h => am_bd1 h)
set_option maxRecDepth 100000 in
theorem ek_161 : am_clm 161 := am_clm_of (n := 47) (f := cd_161) (by decide +kernel) (fun _ => rfl) (fun _ _ h => am_bd1 h)
set_option maxRecDepth 100000 in
theorem ek_162 : am_clm 162 := am_clm_of (n := 56) (f := cd_162) (by decide +kernel) (fun _ => rfl) (fun _ _ h => am_bd1 h)
set_option maxRecDepth 100000 in
theorem ek_163 : am_clm 163 := am_clm_of (n := 82) (f := cd_163) (by decide +kernel) (fun _ => rfl) (fun _ _ h => am_bd1 h)
set_option maxRecDepth 100000 in
theorem ek_164 : am_clm 164 := am_clm_of (n := 30) (f := cd_164) (by decide +kernel) (fun _ => rfl) (fun _ _ h => am_bd1 h)
set_option maxRecDepth 100000 in
theorem ek_165 : am_clm 165 := am_clm_of (n := 101) (f := cd_165) (by decide +kernel) (fun _ => rfl) (fun _ _ h => am_bd1 h)
set_option maxRecDepth 100000 in
theorem ek_166 : am_clm 166 := am_clm_of (n := 104) (f := cd_166) (by decide +kernel) (fun _ => rfl) (fun _ _ h => am_bd1 h)
set_option maxRecDepth 100000 in
theorem ek_167 : am_clm 167 := am_clm_of (n := 252) (f := cd_167) (by decide +kernel) (fun _ => rfl) (fun _ _ h => am_bd1 h)
set_option maxRecDepth 100000 in
theorem ek_168 : am_clm 168 := am_clm_of (n := 70) (f := cd_168) (by decide +kernel) (fun _ => rfl) (fun _ _ h => am_bd1 h)
set_option maxRecDepth 100000 in
theorem ek_169 : am_clm 169 := am_clm_of (n := 244) (f := cd_169) (by decide +kernel) (fun _ => rfl) (fun _ _ h => am_bd1 h)
set_option maxRecDepth 100000 in
theorem ek_170 : am_clm 170 := am_clm_of (n := 186) (f := cd_170) (by decide +kernel) (fun _ => rfl) (fun _ _ h => am_bd1 h)
set_option maxRecDepth 100000 in
theorem ek_171 : am_clm 171 := am_clm_of (n := 73) (f := cd_171) (by decide +kernel) (fun _ => rfl) (fun _ _ h => am_bd1 h)
set_option maxRecDepth 100000 in
theorem ek_172 : am_clm 172 := am_clm_of (n := 124) (f := cd_172) (by decide +kernel) (fun _ => rfl) (fun _ _ h => am_bd1 h)
set_option maxRecDepth 100000 in
theorem ek_173 : am_clm 173 := am_clm_of (n := 52) (f := cd_173) (by decide +kernel) (fun _ => rfl) (fun _ _ h => am_bd1 h)
set_option maxRecDepth 100000 in
theorem ek_174 : am_clm 174 := am_clm_of (n := 58) (f := cd_174) (by decide +kernel) (fun _ => rfl) (fun _ _ h => am_bd1 h)
set_option maxRecDepth 100000 in
theorem ek_175 : am_clm 175 := am_clm_of (n := 45) (f := cd_175) (by decide +kernel) (fun _ => rfl) (fun _ _ h => am_bd1 h)
set_option maxRecDepth 100000 in
theorem ek_176 : am_clm 176 := am_clm_of (n := 106) (f := cd_176) (by decide +kernel) (fun _ => rfl) (fun _ _ h => am_bd1 h)
set_option maxRecDepth 100000 in
theorem ek_177 : am_clm 177 := am_clm_of (n := 171) (f := cd_177) (by decide +kernel) (fun _ => rfl) (fun _ _ h => am_bd1 h)
set_option maxRecDepth 100000 in
theorem ek_178 : am_clm 178 := am_clm_of (n := 45) (f := cd_178) (by decide +kernel) (fun _ => rfl) (fun _ _ h => am_bd1 h)
set_option maxRecDepth 100000 in
theorem ek_179 : am_clm 179 := am_clm_of (n := 10) (f := cd_179) (by decide +kernel) (fun _ => rfl) (fun _ _ h => am_bd1 h)
set_option maxRecDepth 100000 in
theorem ek_180 : am_clm 180 := am_clm_of (n := 28) (f := cd_180) (by decide +kernel) (fun _ => rfl) (fun _ _ h => am_bd1 h)
set_option maxRecDepth 100000 in
theorem ek_181 : am_clm 181 := am_clm_of (n := 705) (f := cd_181) (by decide +kernel) (fun _ => rfl) (fun _ _ h => am_bd1 h)
theorem el_0 : ∀ a, a < 1 → am_clm a := lt_s lt_0 ek_0
theorem el_1 : ∀ a, a < 2 → am_clm a := lt_s el_0 ek_1
theorem el_2 : ∀ a, a < 3 → am_clm a := lt_s el_1 ek_2
theorem el_3 : ∀ a, a < 4 → am_clm a := lt_s el_2 ek_3
theorem el_4 : ∀ a, a < 5 → am_clm a := lt_s el_3 ek_4
theorem el_5 : ∀ a, a < 6 → am_clm a := lt_s el_4 ek_5
theorem el_6 : ∀ a, a < 7 → am_clm a := lt_s el_5 ek_6
theorem el_7 : ∀ a, a < 8 → am_clm a := lt_s el_6 ek_7
theorem el_8 : ∀ a, a < 9 → am_clm a := lt_s el_7 ek_8
theorem el_9 : ∀ a, a < 10 → am_clm a := lt_s el_8 ek_9
theorem el_10 : ∀ a, a < 11 → am_clm a := lt_s el_9 ek_10
theorem el_11 : ∀ a, a < 12 → am_clm a := lt_s el_10 ek_11
theorem el_12 : ∀ a, a < 13 → am_clm a := lt_s el_11 ek_12
theorem el_13 : ∀ a, a < 14 → am_clm a := lt_s el_12 ek_13
theorem el_14 : ∀ a, a < 15 → am_clm a := lt_s el_13 ek_14
theorem el_15 : ∀ a, a < 16 → am_clm a := lt_s el_14 ek_15
theorem el_16 : ∀ a, a < 17 → am_clm a := lt_s el_15 ek_16
theorem el_17 : ∀ a, a < 18 → am_clm a := lt_s el_16 ek_17
theorem el_18 : ∀ a, a < 19 → am_clm a := lt_s el_17 ek_18
theorem el_19 : ∀ a, a < 20 → am_clm a := lt_s el_18 ek_19
theorem el_20 : ∀ a, a < 21 → am_clm a := lt_s el_19 ek_20
theorem el_21 : ∀ a, a < 22 → am_clm a := lt_s el_20 ek_21
theorem el_22 : ∀ a, a < 23 → am_clm a := lt_s el_21 ek_22
theorem el_23 : ∀ a, a < 24 → am_clm a := lt_s el_22 ek_23
theorem el_24 : ∀ a, a < 25 → am_clm a := lt_s el_23 ek_24
theorem el_25 : ∀ a, a < 26 → am_clm a := lt_s el_24 ek_25
theorem el_26 : ∀ a, a < 27 → am_clm a := lt_s el_25 ek_26
theorem el_27 : ∀ a, a < 28 → am_clm a := lt_s el_26 ek_27
theorem el_28 : ∀ a, a < 29 → am_clm a := lt_s el_27 ek_28
theorem el_29 : ∀ a, a < 30 → am_clm a := lt_s el_28 ek_29
theorem el_30 : ∀ a, a < 31 → am_clm a := lt_s el_29 ek_30
theorem el_31 : ∀ a, a < 32 → am_clm a := lt_s el_30 ek_31
theorem el_32 : ∀ a, a < 33 → am_clm a := lt_s el_31 ek_32
theorem el_33 : ∀ a, a < 34 → am_clm a := lt_s el_32 ek_33
theorem el_34 : ∀ a, a < 35 → am_clm a := lt_s el_33 ek_34
theorem el_35 : ∀ a, a < 36 → am_clm a := lt_s el_34 ek_35
theorem el_36 : ∀ a, a < 37 → am_clm a := lt_s el_35 ek_36
theorem el_37 : ∀ a, a < 38 → am_clm a := lt_s el_36 ek_37
theorem el_38 : ∀ a, a < 39 → am_clm a := lt_s el_37 ek_38
theorem el_39 : ∀ a, a < 40 → am_clm a := lt_s el_38 ek_39
theorem el_40 : ∀ a, a < 41 → am_clm a := lt_s el_39 ek_40
theorem el_41 : ∀ a, a < 42 → am_clm a := lt_s el_40 ek_41
theorem el_42 : ∀ a, a < 43 → am_clm a := lt_s el_41 ek_42
theorem el_43 : ∀ a, a < 44 → am_clm a := lt_s el_42 ek_43
theorem el_44 : ∀ a, a < 45 → am_clm a := lt_s el_43 ek_44
theorem el_45 : ∀ a, a < 46 → am_clm a := lt_s el_44 ek_45
theorem el_46 : ∀ a, a < 47 → am_clm a := lt_s el_45 ek_46
theorem el_47 : ∀ a, a < 48 → am_clm a := lt_s el_46 ek_47
theorem el_48 : ∀ a, a < 49 → am_clm a := lt_s el_47 ek_48
theorem el_49 : ∀ a, a < 50 → am_clm a := lt_s el_48 ek_49
theorem el_50 : ∀ a, a < 51 → am_clm a := lt_s el_49 ek_50
theorem el_51 : ∀ a, a < 52 → am_clm a := lt_s el_50 ek_51
theorem el_52 : ∀ a, a < 53 → am_clm a := lt_s el_51 ek_52
theorem el_53 : ∀ a, a < 54 → am_clm a := lt_s el_52 ek_53
theorem el_54 : ∀ a, a < 55 → am_clm a := lt_s el_53 ek_54
theorem el_55 : ∀ a, a < 56 → am_clm a := lt_s el_54 ek_55
theorem el_56 : ∀ a, a < 57 → am_clm a := lt_s el_55 ek_56
theorem el_57 : ∀ a, a < 58 → am_clm a := lt_s el_56 ek_57
theorem el_58 : ∀ a, a < 59 → am_clm a := lt_s el_57 ek_58
theorem el_59 : ∀ a, a < 60 → am_clm a := lt_s el_58 ek_59
theorem el_60 : ∀ a, a < 61 → am_clm a := lt_s el_59 ek_60
theorem el_61 : ∀ a, a < 62 → am_clm a := lt_s el_60 ek_61
theorem el_62 : ∀ a, a < 63 → am_clm a := lt_s el_61 ek_62
theorem el_63 : ∀ a, a < 64 → am_clm a := lt_s el_62 ek_63
theorem el_64 : ∀ a, a < 65 → am_clm a := lt_s el_63 ek_64
theorem el_65 : ∀ a, a < 66 → am_clm a := lt_s el_64 ek_65
theorem el_66 : ∀ a, a < 67 → am_clm a := lt_s el_65 ek_66
theorem el_67 : ∀ a, a < 68 → am_clm a := lt_s el_66 ek_67
theorem el_68 : ∀ a, a < 69 → am_clm a := lt_s el_67 ek_68
theorem el_69 : ∀ a, a < 70 → am_clm a := lt_s el_68 ek_69
theorem el_70 : ∀ a, a < 71 → am_clm a := lt_s el_69 ek_70
theorem el_71 : ∀ a, a < 72 → am_clm a := lt_s el_70 ek_71
theorem el_72 : ∀ a, a < 73 → am_clm a := lt_s el_71 ek_72
theorem el_73 : ∀ a, a < 74 → am_clm a := lt_s el_72 ek_73
theorem el_74 : ∀ a, a < 75 → am_clm a := lt_s el_73 ek_74
theorem el_75 : ∀ a, a < 76 → am_clm a := lt_s el_74 ek_75
theorem el_76 : ∀ a, a < 77 → am_clm a := lt_s el_75 ek_76
theorem el_77 : ∀ a, a < 78 → am_clm a := lt_s el_76 ek_77
theorem el_78 : ∀ a, a < 79 → am_clm a := lt_s el_77 ek_78
theorem el_79 : ∀ a, a < 80 → am_clm a := lt_s el_78 ek_79
theorem el_80 : ∀ a, a < 81 → am_clm a := lt_s el_79 ek_80
theorem el_81 : ∀ a, a < 82 → am_clm a := lt_s el_80 ek_81
theorem el_82 : ∀ a, a < 83 → am_clm a := lt_s el_81 ek_82
theorem el_83 : ∀ a, a < 84 → am_clm a := lt_s el_82 ek_83
theorem el_84 : ∀ a, a < 85 → am_clm a := lt_s el_83 ek_84
theorem el_85 : ∀ a, a < 86 → am_clm a := lt_s el_84 ek_85
theorem el_86 : ∀ a, a < 87 → am_clm a := lt_s el_85 ek_86
theorem el_87 : ∀ a, a < 88 → am_clm a := lt_s el_86 ek_87
theorem el_88 : ∀ a, a < 89 → am_clm a := lt_s el_87 ek_88
theorem el_89 : ∀ a, a < 90 → am_clm a := lt_s el_88 ek_89
theorem el_90 : ∀ a, a < 91 → am_clm a := lt_s el_89 ek_90
theorem el_91 : ∀ a, a < 92 → am_clm a := lt_s el_90 ek_91
theorem el_92 : ∀ a, a < 93 → am_clm a := lt_s el_91 ek_92
theorem el_93 : ∀ a, a < 94 → am_clm a := lt_s el_92 ek_93
theorem el_94 : ∀ a, a < 95 → am_clm a := lt_s el_93 ek_94
theorem el_95 : ∀ a, a < 96 → am_clm a := lt_s el_94 ek_95
theorem el_96 : ∀ a, a < 97 → am_clm a := lt_s el_95 ek_96
theorem el_97 : ∀ a, a < 98 → am_clm a := lt_s el_96 ek_97
theorem el_98 : ∀ a, a < 99 → am_clm a := lt_s el_97 ek_98
theorem el_99 : ∀ a, a < 100 → am_clm a := lt_s el_98 ek_99
theorem el_100 : ∀ a, a < 101 → am_clm a := lt_s el_99 ek_100
theorem el_101 : ∀ a, a < 102 → am_clm a := lt_s el_100 ek_101
theorem el_102 : ∀ a, a < 103 → am_clm a := lt_s el_101 ek_102
theorem el_103 : ∀ a, a < 104 → am_clm a := lt_s el_102 ek_103
theorem el_104 : ∀ a, a < 105 → am_clm a := lt_s el_103 ek_104
theorem el_105 : ∀ a, a < 106 → am_clm a := lt_s el_104 ek_105
theorem el_106 : ∀ a, a < 107 → am_clm a := lt_s el_105 ek_106
theorem el_107 : ∀ a, a < 108 → am_clm a := lt_s el_106 ek_107
theorem el_108 : ∀ a, a < 109 → am_clm a := lt_s el_107 ek_108
theorem el_109 : ∀ a, a < 110 → am_clm a := lt_s el_108 ek_109
theorem el_110 : ∀ a, a < 111 → am_clm a := lt_s el_109 ek_110
theorem el_111 : ∀ a, a < 112 → am_clm a := lt_s el_110 ek_111
theorem el_112 : ∀ a, a < 113 → am_clm a := lt_s el_111 ek_112
theorem el_113 : ∀ a, a < 114 → am_clm a := lt_s el_112 ek_113
theorem el_114 : ∀ a, a < 115 → am_clm a := lt_s el_113 ek_114
theorem el_115 : ∀ a, a < 116 → am_clm a := lt_s el_114 ek_115
theorem el_116 : ∀ a, a < 117 → am_clm a := lt_s el_115 ek_116
theorem el_117 : ∀ a, a < 118 → am_clm a := lt_s el_116 ek_117
theorem el_118 : ∀ a, a < 119 → am_clm a := lt_s el_117 ek_118
theorem el_119 : ∀ a, a < 120 → am_clm a := lt_s el_118 ek_119
theorem el_120 : ∀ a, a < 121 → am_clm a := lt_s el_119 ek_120
theorem el_121 : ∀ a, a < 122 → am_clm a := lt_s el_120 ek_121
theorem el_122 : ∀ a, a < 123 → am_clm a := lt_s el_121 ek_122
theorem el_123 : ∀ a, a < 124 → am_clm a := lt_s el_122 ek_123
theorem el_124 : ∀ a, a < 125 → am_clm a := lt_s el_123 ek_124
theorem el_125 : ∀ a, a < 126 → am_clm a := lt_s el_124 ek_125
theorem el_126 : ∀ a, a < 127 → am_clm a := lt_s el_125 ek_126
theorem el_127 : ∀ a, a < 128 → am_clm a := lt_s el_126 ek_127
theorem el_128 : ∀ a, a < 129 → am_clm a := lt_s el_127 ek_128
theorem el_129 : ∀ a, a < 130 → am_clm a := lt_s el_128 ek_129
theorem el_130 : ∀ a, a < 131 → am_clm a := lt_s el_129 ek_130
theorem el_131 : ∀ a, a < 132 → am_clm a := lt_s el_130 ek_131
theorem el_132 : ∀ a, a < 133 → am_clm a := lt_s el_131 ek_132
theorem el_133 : ∀ a, a < 134 → am_clm a := lt_s el_132 ek_133
theorem el_134 : ∀ a, a < 135 → am_clm a := lt_s el_133 ek_134
theorem el_135 : ∀ a, a < 136 → am_clm a := lt_s el_134 ek_135
theorem el_136 : ∀ a, a < 137 → am_clm a := lt_s el_135 ek_136
theorem el_137 : ∀ a, a < 138 → am_clm a := lt_s el_136 ek_137
theorem el_138 : ∀ a, a < 139 → am_clm a := lt_s el_137 ek_138
theorem el_139 : ∀ a, a < 140 → am_clm a := lt_s el_138 ek_139
theorem el_140 : ∀ a, a < 141 → am_clm a := lt_s el_139 ek_140
theorem el_141 : ∀ a, a < 142 → am_clm a := lt_s el_140 ek_141
theorem el_142 : ∀ a, a < 143 → am_clm a := lt_s el_141 ek_142
theorem el_143 : ∀ a, a < 144 → am_clm a := lt_s el_142 ek_143
theorem el_144 : ∀ a, a < 145 → am_clm a := lt_s el_143 ek_144
theorem el_145 : ∀ a, a < 146 → am_clm a := lt_s el_144 ek_145
theorem el_146 : ∀ a, a < 147 → am_clm a := lt_s el_145 ek_146
theorem el_147 : ∀ a, a < 148 → am_clm a := lt_s el_146 ek_147
theorem el_148 : ∀ a, a < 149 → am_clm a := lt_s el_147 ek_148
theorem el_149 : ∀ a, a < 150 → am_clm a := lt_s el_148 ek_149
theorem el_150 : ∀ a, a < 151 → am_clm a := lt_s el_149 ek_150
theorem el_151 : ∀ a, a < 152 → am_clm a := lt_s el_150 ek_151
theorem el_152 : ∀ a, a < 153 → am_clm a := lt_s el_151 ek_152
theorem el_153 : ∀ a, a < 154 → am_clm a := lt_s el_152 ek_153
theorem el_154 : ∀ a, a < 155 → am_clm a := lt_s el_153 ek_154
theorem el_155 : ∀ a, a < 156 → am_clm a := lt_s el_154 ek_155
theorem el_156 : ∀ a, a < 157 → am_clm a := lt_s el_155 ek_156
theorem el_157 : ∀ a, a < 158 → am_clm a := lt_s el_156 ek_157
theorem el_158 : ∀ a, a < 159 → am_clm a := lt_s el_157 ek_158
theorem el_159 : ∀ a, a < 160 → am_clm a := lt_s el_158 ek_159
theorem el_160 : ∀ a, a < 161 → am_clm a := lt_s el_159 ek_160
theorem el_161 : ∀ a, a < 162 → am_clm a := lt_s el_160 ek_161
theorem el_162 : ∀ a, a < 163 → am_clm a := lt_s el_161 ek_162
theorem el_163 : ∀ a, a < 164 → am_clm a := lt_s el_162 ek_163
theorem el_164 : ∀ a, a < 165 → am_clm a := lt_s el_163 ek_164
theorem el_165 : ∀ a, a < 166 → am_clm a := lt_s el_164 ek_165
theorem el_166 : ∀ a, a < 167 → am_clm a := lt_s el_165 ek_166
theorem el_167 : ∀ a, a < 168 → am_clm a := lt_s el_166 ek_167
theorem el_168 : ∀ a, a < 169 → am_clm a := lt_s el_167 ek_168
theorem el_169 : ∀ a, a < 170 → am_clm a := lt_s el_168 ek_169
theorem el_170 : ∀ a, a < 171 → am_clm a := lt_s el_169 ek_170
theorem el_171 : ∀ a, a < 172 → am_clm a := lt_s el_170 ek_171
theorem el_172 : ∀ a, a < 173 → am_clm a := lt_s el_171 ek_172
theorem el_173 : ∀ a, a < 174 → am_clm a := lt_s el_172 ek_173
theorem el_174 : ∀ a, a < 175 → am_clm a := lt_s el_173 ek_174
theorem el_175 : ∀ a, a < 176 → am_clm a := lt_s el_174 ek_175
theorem el_176 : ∀ a, a < 177 → am_clm a := lt_s el_175 ek_176
theorem el_177 : ∀ a, a < 178 → am_clm a := lt_s el_176 ek_177
theorem el_178 : ∀ a, a < 179 → am_clm a := lt_s el_177 ek_178
theorem el_179 : ∀ a, a < 180 → am_clm a := lt_s el_178 ek_179
theorem el_180 : ∀ a, a < 181 → am_clm a := lt_s el_179 ek_180
theorem el_181 : ∀ a, a < 182 → am_clm a := lt_s el_180 ek_181
theorem am_code_cl {m pc : Nat} {i : Instr} {len : Nat} (h : am_code m pc = some (i, len)) : am_clk m i = true := el_181 m (am_code_lt h) pc i len h
