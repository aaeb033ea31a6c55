/-! All methods together. -/
theorem am_cbf {α : Sort _} {m k n : Nat} (a b : α) (hm : n ≤ m) (hk : k < n) : cond (Nat.ble m k) a b = b := by
  rw [show Nat.ble m k = false from by
    cases h : Nat.ble m k with
    | false => rfl
    | true => exact absurd (Nat.le_of_ble_eq_true h) (by omega)]
  rfl
theorem am_cbe {α : Sort _} {m k n : Nat} (a b : α) (hm : n ≤ m) (hk : k < n) : cond (Nat.beq m k) a b = b := by
  rw [show Nat.beq m k = false from by
    cases h : Nat.beq m k with
    | false => rfl
    | true => exact absurd (Nat.eq_of_beq_eq_true h) (by omega)]
  rfl
theorem am_code_out {m : Nat} (hm : 182 ≤ m) : am_code m = fun _ => none := by
  unfold am_code
  rw [am_cbf _ _ hm (show 90 < 182 by decide)]
  rw [am_cbf _ _ hm (show 135 < 182 by decide)]
  rw [am_cbf _ _ hm (show 158 < 182 by decide)]
  rw [am_cbf _ _ hm (show 169 < 182 by decide)]
  rw [am_cbf _ _ hm (show 175 < 182 by decide)]
  rw [am_cbf _ _ hm (show 178 < 182 by decide)]
  rw [am_cbf _ _ hm (show 179 < 182 by decide)]
  rw [am_cbf _ _ hm (show 180 < 182 by decide)]
  rw [am_cbe _ _ hm (show 181 < 182 by decide)]
theorem dl_0 : ∀ a, a < 1 → am_okm a := lt_s lt_0 dk_0
theorem dl_1 : ∀ a, a < 2 → am_okm a := lt_s dl_0 dk_1
theorem dl_2 : ∀ a, a < 3 → am_okm a := lt_s dl_1 dk_2
theorem dl_3 : ∀ a, a < 4 → am_okm a := lt_s dl_2 dk_3
theorem dl_4 : ∀ a, a < 5 → am_okm a := lt_s dl_3 dk_4
theorem dl_5 : ∀ a, a < 6 → am_okm a := lt_s dl_4 dk_5
theorem dl_6 : ∀ a, a < 7 → am_okm a := lt_s dl_5 dk_6
theorem dl_7 : ∀ a, a < 8 → am_okm a := lt_s dl_6 dk_7
theorem dl_8 : ∀ a, a < 9 → am_okm a := lt_s dl_7 dk_8
theorem dl_9 : ∀ a, a < 10 → am_okm a := lt_s dl_8 dk_9
theorem dl_10 : ∀ a, a < 11 → am_okm a := lt_s dl_9 dk_10
theorem dl_11 : ∀ a, a < 12 → am_okm a := lt_s dl_10 dk_11
theorem dl_12 : ∀ a, a < 13 → am_okm a := lt_s dl_11 dk_12
theorem dl_13 : ∀ a, a < 14 → am_okm a := lt_s dl_12 dk_13
theorem dl_14 : ∀ a, a < 15 → am_okm a := lt_s dl_13 dk_14
theorem dl_15 : ∀ a, a < 16 → am_okm a := lt_s dl_14 dk_15
theorem dl_16 : ∀ a, a < 17 → am_okm a := lt_s dl_15 dk_16
theorem dl_17 : ∀ a, a < 18 → am_okm a := lt_s dl_16 dk_17
theorem dl_18 : ∀ a, a < 19 → am_okm a := lt_s dl_17 dk_18
theorem dl_19 : ∀ a, a < 20 → am_okm a := lt_s dl_18 dk_19
theorem dl_20 : ∀ a, a < 21 → am_okm a := lt_s dl_19 dk_20
theorem dl_21 : ∀ a, a < 22 → am_okm a := lt_s dl_20 dk_21
theorem dl_22 : ∀ a, a < 23 → am_okm a := lt_s dl_21 dk_22
theorem dl_23 : ∀ a, a < 24 → am_okm a := lt_s dl_22 dk_23
theorem dl_24 : ∀ a, a < 25 → am_okm a := lt_s dl_23 dk_24
theorem dl_25 : ∀ a, a < 26 → am_okm a := lt_s dl_24 dk_25
theorem dl_26 : ∀ a, a < 27 → am_okm a := lt_s dl_25 dk_26
theorem dl_27 : ∀ a, a < 28 → am_okm a := lt_s dl_26 dk_27
theorem dl_28 : ∀ a, a < 29 → am_okm a := lt_s dl_27 dk_28
theorem dl_29 : ∀ a, a < 30 → am_okm a := lt_s dl_28 dk_29
theorem dl_30 : ∀ a, a < 31 → am_okm a := lt_s dl_29 dk_30
theorem dl_31 : ∀ a, a < 32 → am_okm a := lt_s dl_30 dk_31
theorem dl_32 : ∀ a, a < 33 → am_okm a := lt_s dl_31 dk_32
theorem dl_33 : ∀ a, a < 34 → am_okm a := lt_s dl_32 dk_33
theorem dl_34 : ∀ a, a < 35 → am_okm a := lt_s dl_33 dk_34
theorem dl_35 : ∀ a, a < 36 → am_okm a := lt_s dl_34 dk_35
theorem dl_36 : ∀ a, a < 37 → am_okm a := lt_s dl_35 dk_36
theorem dl_37 : ∀ a, a < 38 → am_okm a := lt_s dl_36 dk_37
theorem dl_38 : ∀ a, a < 39 → am_okm a := lt_s dl_37 dk_38
theorem dl_39 : ∀ a, a < 40 → am_okm a := lt_s dl_38 dk_39
theorem dl_40 : ∀ a, a < 41 → am_okm a := lt_s dl_39 dk_40
theorem dl_41 : ∀ a, a < 42 → am_okm a := lt_s dl_40 dk_41
theorem dl_42 : ∀ a, a < 43 → am_okm a := lt_s dl_41 dk_42
theorem dl_43 : ∀ a, a < 44 → am_okm a := lt_s dl_42 dk_43
theorem dl_44 : ∀ a, a < 45 → am_okm a := lt_s dl_43 dk_44
theorem dl_45 : ∀ a, a < 46 → am_okm a := lt_s dl_44 dk_45
theorem dl_46 : ∀ a, a < 47 → am_okm a := lt_s dl_45 dk_46
theorem dl_47 : ∀ a, a < 48 → am_okm a := lt_s dl_46 dk_47
theorem dl_48 : ∀ a, a < 49 → am_okm a := lt_s dl_47 dk_48
theorem dl_49 : ∀ a, a < 50 → am_okm a := lt_s dl_48 dk_49
theorem dl_50 : ∀ a, a < 51 → am_okm a := lt_s dl_49 dk_50
theorem dl_51 : ∀ a, a < 52 → am_okm a := lt_s dl_50 dk_51
theorem dl_52 : ∀ a, a < 53 → am_okm a := lt_s dl_51 dk_52
theorem dl_53 : ∀ a, a < 54 → am_okm a := lt_s dl_52 dk_53
theorem dl_54 : ∀ a, a < 55 → am_okm a := lt_s dl_53 dk_54
theorem dl_55 : ∀ a, a < 56 → am_okm a := lt_s dl_54 dk_55
theorem dl_56 : ∀ a, a < 57 → am_okm a := lt_s dl_55 dk_56
theorem dl_57 : ∀ a, a < 58 → am_okm a := lt_s dl_56 dk_57
theorem dl_58 : ∀ a, a < 59 → am_okm a := lt_s dl_57 dk_58
theorem dl_59 : ∀ a, a < 60 → am_okm a := lt_s dl_58 dk_59
theorem dl_60 : ∀ a, a < 61 → am_okm a := lt_s dl_59 dk_60
theorem dl_61 : ∀ a, a < 62 → am_okm a := lt_s dl_60 dk_61
theorem dl_62 : ∀ a, a < 63 → am_okm a := lt_s dl_61 dk_62
theorem dl_63 : ∀ a, a < 64 → am_okm a := lt_s dl_62 dk_63
theorem dl_64 : ∀ a, a < 65 → am_okm a := lt_s dl_63 dk_64
theorem dl_65 : ∀ a, a < 66 → am_okm a := lt_s dl_64 dk_65
theorem dl_66 : ∀ a, a < 67 → am_okm a := lt_s dl_65 dk_66
theorem dl_67 : ∀ a, a < 68 → am_okm a := lt_s dl_66 dk_67
theorem dl_68 : ∀ a, a < 69 → am_okm a := lt_s dl_67 dk_68
theorem dl_69 : ∀ a, a < 70 → am_okm a := lt_s dl_68 dk_69
theorem dl_70 : ∀ a, a < 71 → am_okm a := lt_s dl_69 dk_70
theorem dl_71 : ∀ a, a < 72 → am_okm a := lt_s dl_70 dk_71
theorem dl_72 : ∀ a, a < 73 → am_okm a := lt_s dl_71 dk_72
theorem dl_73 : ∀ a, a < 74 → am_okm a := lt_s dl_72 dk_73
theorem dl_74 : ∀ a, a < 75 → am_okm a := lt_s dl_73 dk_74
theorem dl_75 : ∀ a, a < 76 → am_okm a := lt_s dl_74 dk_75
theorem dl_76 : ∀ a, a < 77 → am_okm a := lt_s dl_75 dk_76
theorem dl_77 : ∀ a, a < 78 → am_okm a := lt_s dl_76 dk_77
theorem dl_78 : ∀ a, a < 79 → am_okm a := lt_s dl_77 dk_78
theorem dl_79 : ∀ a, a < 80 → am_okm a := lt_s dl_78 dk_79
theorem dl_80 : ∀ a, a < 81 → am_okm a := lt_s dl_79 dk_80
theorem dl_81 : ∀ a, a < 82 → am_okm a := lt_s dl_80 dk_81
theorem dl_82 : ∀ a, a < 83 → am_okm a := lt_s dl_81 dk_82
theorem dl_83 : ∀ a, a < 84 → am_okm a := lt_s dl_82 dk_83
theorem dl_84 : ∀ a, a < 85 → am_okm a := lt_s dl_83 dk_84
theorem dl_85 : ∀ a, a < 86 → am_okm a := lt_s dl_84 dk_85
theorem dl_86 : ∀ a, a < 87 → am_okm a := lt_s dl_85 dk_86
theorem dl_87 : ∀ a, a < 88 → am_okm a := lt_s dl_86 dk_87
theorem dl_88 : ∀ a, a < 89 → am_okm a := lt_s dl_87 dk_88
theorem dl_89 : ∀ a, a < 90 → am_okm a := lt_s dl_88 dk_89
theorem dl_90 : ∀ a, a < 91 → am_okm a := lt_s dl_89 dk_90
theorem dl_91 : ∀ a, a < 92 → am_okm a := lt_s dl_90 dk_91
theorem dl_92 : ∀ a, a < 93 → am_okm a := lt_s dl_91 dk_92
theorem dl_93 : ∀ a, a < 94 → am_okm a := lt_s dl_92 dk_93
theorem dl_94 : ∀ a, a < 95 → am_okm a := lt_s dl_93 dk_94
theorem dl_95 : ∀ a, a < 96 → am_okm a := lt_s dl_94 dk_95
theorem dl_96 : ∀ a, a < 97 → am_okm a := lt_s dl_95 dk_96
theorem dl_97 : ∀ a, a < 98 → am_okm a := lt_s dl_96 dk_97
theorem dl_98 : ∀ a, a < 99 → am_okm a := lt_s dl_97 dk_98
theorem dl_99 : ∀ a, a < 100 → am_okm a := lt_s dl_98 dk_99
theorem dl_100 : ∀ a, a < 101 → am_okm a := lt_s dl_99 dk_100
theorem dl_101 : ∀ a, a < 102 → am_okm a := lt_s dl_100 dk_101
theorem dl_102 : ∀ a, a < 103 → am_okm a := lt_s dl_101 dk_102
theorem dl_103 : ∀ a, a < 104 → am_okm a := lt_s dl_102 dk_103
theorem dl_104 : ∀ a, a < 105 → am_okm a := lt_s dl_103 dk_104
theorem dl_105 : ∀ a, a < 106 → am_okm a := lt_s dl_104 dk_105
theorem dl_106 : ∀ a, a < 107 → am_okm a := lt_s dl_105 dk_106
theorem dl_107 : ∀ a, a < 108 → am_okm a := lt_s dl_106 dk_107
theorem dl_108 : ∀ a, a < 109 → am_okm a := lt_s dl_107 dk_108
theorem dl_109 : ∀ a, a < 110 → am_okm a := lt_s dl_108 dk_109
theorem dl_110 : ∀ a, a < 111 → am_okm a := lt_s dl_109 dk_110
theorem dl_111 : ∀ a, a < 112 → am_okm a := lt_s dl_110 dk_111
theorem dl_112 : ∀ a, a < 113 → am_okm a := lt_s dl_111 dk_112
theorem dl_113 : ∀ a, a < 114 → am_okm a := lt_s dl_112 dk_113
theorem dl_114 : ∀ a, a < 115 → am_okm a := lt_s dl_113 dk_114
theorem dl_115 : ∀ a, a < 116 → am_okm a := lt_s dl_114 dk_115
theorem dl_116 : ∀ a, a < 117 → am_okm a := lt_s dl_115 dk_116
theorem dl_117 : ∀ a, a < 118 → am_okm a := lt_s dl_116 dk_117
theorem dl_118 : ∀ a, a < 119 → am_okm a := lt_s dl_117 dk_118
theorem dl_119 : ∀ a, a < 120 → am_okm a := lt_s dl_118 dk_119
theorem dl_120 : ∀ a, a < 121 → am_okm a := lt_s dl_119 dk_120
theorem dl_121 : ∀ a, a < 122 → am_okm a := lt_s dl_120 dk_121
theorem dl_122 : ∀ a, a < 123 → am_okm a := lt_s dl_121 dk_122
theorem dl_123 : ∀ a, a < 124 → am_okm a := lt_s dl_122 dk_123
theorem dl_124 : ∀ a, a < 125 → am_okm a := lt_s dl_123 dk_124
theorem dl_125 : ∀ a, a < 126 → am_okm a := lt_s dl_124 dk_125
theorem dl_126 : ∀ a, a < 127 → am_okm a := lt_s dl_125 dk_126
theorem dl_127 : ∀ a, a < 128 → am_okm a := lt_s dl_126 dk_127
theorem dl_128 : ∀ a, a < 129 → am_okm a := lt_s dl_127 dk_128
theorem dl_129 : ∀ a, a < 130 → am_okm a := lt_s dl_128 dk_129
theorem dl_130 : ∀ a, a < 131 → am_okm a := lt_s dl_129 dk_130
theorem dl_131 : ∀ a, a < 132 → am_okm a := lt_s dl_130 dk_131
theorem dl_132 : ∀ a, a < 133 → am_okm a := lt_s dl_131 dk_132
theorem dl_133 : ∀ a, a < 134 → am_okm a := lt_s dl_132 dk_133
theorem dl_134 : ∀ a, a < 135 → am_okm a := lt_s dl_133 dk_134
theorem dl_135 : ∀ a, a < 136 → am_okm a := lt_s dl_134 dk_135
theorem dl_136 : ∀ a, a < 137 → am_okm a := lt_s dl_135 dk_136
theorem dl_137 : ∀ a, a < 138 → am_okm a := lt_s dl_136 dk_137
theorem dl_138 : ∀ a, a < 139 → am_okm a := lt_s dl_137 dk_138
theorem dl_139 : ∀ a, a < 140 → am_okm a := lt_s dl_138 dk_139
theorem dl_140 : ∀ a, a < 141 → am_okm a := lt_s dl_139 dk_140
theorem dl_141 : ∀ a, a < 142 → am_okm a := lt_s dl_140 dk_141
theorem dl_142 : ∀ a, a < 143 → am_okm a := lt_s dl_141 dk_142
theorem dl_143 : ∀ a, a < 144 → am_okm a := lt_s dl_142 dk_143
theorem dl_144 : ∀ a, a < 145 → am_okm a := lt_s dl_143 dk_144
theorem dl_145 : ∀ a, a < 146 → am_okm a := lt_s dl_144 dk_145
theorem dl_146 : ∀ a, a < 147 → am_okm a := lt_s dl_145 dk_146
theorem dl_147 : ∀ a, a < 148 → am_okm a := lt_s dl_146 dk_147
theorem dl_148 : ∀ a, a < 149 → am_okm a := lt_s dl_147 dk_148
theorem dl_149 : ∀ a, a < 150 → am_okm a := lt_s dl_148 dk_149
theorem dl_150 : ∀ a, a < 151 → am_okm a := lt_s dl_149 dk_150
theorem dl_151 : ∀ a, a < 152 → am_okm a := lt_s dl_150 dk_151
theorem dl_152 : ∀ a, a < 153 → am_okm a := lt_s dl_151 dk_152
theorem dl_153 : ∀ a, a < 154 → am_okm a := lt_s dl_152 dk_153
theorem dl_154 : ∀ a, a < 155 → am_okm a := lt_s dl_153 dk_154
theorem dl_155 : ∀ a, a < 156 → am_okm a := lt_s dl_154 dk_155
theorem dl_156 : ∀ a, a < 157 → am_okm a := lt_s dl_155 dk_156
theorem dl_157 : ∀ a, a < 158 → am_okm a := lt_s dl_156 dk_157
theorem dl_158 : ∀ a, a < 159 → am_okm a := lt_s dl_157 dk_158
theorem dl_159 : ∀ a, a < 160 → am_okm a := lt_s dl_158 dk_159
theorem dl_160 : ∀ a, a < 161 → am_okm a := lt_s dl_159 dk_160
theorem dl_161 : ∀ a, a < 162 → am_okm a := lt_s dl_160 dk_161
theorem dl_162 : ∀ a, a < 163 → am_okm a := lt_s dl_161 dk_162
theorem dl_163 : ∀ a, a < 164 → am_okm a := lt_s dl_162 dk_163
theorem dl_164 : ∀ a, a < 165 → am_okm a := lt_s dl_163 dk_164
theorem dl_165 : ∀ a, a < 166 → am_okm a := lt_s dl_164 dk_165
theorem dl_166 : ∀ a, a < 167 → am_okm a := lt_s dl_165 dk_166
theorem dl_167 : ∀ a, a < 168 → am_okm a := lt_s dl_166 dk_167
theorem dl_168 : ∀ a, a < 169 → am_okm a := lt_s dl_167 dk_168
theorem dl_169 : ∀ a, a < 170 → am_okm a := lt_s dl_168 dk_169
theorem dl_170 : ∀ a, a < 171 → am_okm a := lt_s dl_169 dk_170
theorem dl_171 : ∀ a, a < 172 → am_okm a := lt_s dl_170 dk_171
theorem dl_172 : ∀ a, a < 173 → am_okm a := lt_s dl_171 dk_172
theorem dl_173 : ∀ a, a < 174 → am_okm a := lt_s dl_172 dk_173
theorem dl_174 : ∀ a, a < 175 → am_okm a := lt_s dl_173 dk_174
theorem dl_175 : ∀ a, a < 176 → am_okm a := lt_s dl_174 dk_175
theorem dl_176 : ∀ a, a < 177 → am_okm a := lt_s dl_175 dk_176
theorem dl_177 : ∀ a, a < 178 → am_okm a := lt_s dl_176 dk_177
theorem dl_178 : ∀ a, a < 179 → am_okm a := lt_s dl_177 dk_178
theorem dl_179 : ∀ a, a < 180 → am_okm a := lt_s dl_178 dk_179
theorem dl_180 : ∀ a, a < 181 → am_okm a := lt_s dl_179 dk_180
theorem dl_181 : ∀ a, a < 182 → am_okm a := lt_s dl_180 dk_181
theorem am_code_lt {m pc : Nat} {q : Instr × Nat} (h : am_code m pc = some q) : m < 182 := by
  refine Nat.lt_of_not_le fun hm => ?_
  have h1 : am_code m = fun _ => none := am_code_out hm
  rw [h1] at h
  cases h
theorem am_code_ok {m pc : Nat} {i : Instr} {len : Nat} (h : am_code m pc = some (i, len)) : decode (am_by m) pc = .ok (i, len) ∧ am_chk m pc i len = true := dl_181 m (am_code_lt h) pc i len h
