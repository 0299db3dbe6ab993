/-! kinds and lengths of the cells -/
theorem qt_1 : q_ty 1 = 0 := by decide +kernel
theorem ql_1 : q_ln 1 = 400 := by decide +kernel
theorem qt_2 : q_ty 2 = 0 := by decide +kernel
theorem ql_2 : q_ln 2 = 3 := by decide +kernel
theorem qt_3 : q_ty 3 = 0 := by decide +kernel
theorem ql_3 : q_ln 3 = 3 := by decide +kernel
theorem qt_6 : q_ty 6 = 0 := by decide +kernel
theorem ql_6 : q_ln 6 = 401 := by decide +kernel
theorem qt_7 : q_ty 7 = 0 := by decide +kernel
theorem ql_7 : q_ln 7 = 401 := by decide +kernel
theorem qt_8 : q_ty 8 = 0 := by decide +kernel
theorem ql_8 : q_ln 8 = 401 := by decide +kernel
theorem qt_10 : q_ty 10 = 0 := by decide +kernel
theorem ql_10 : q_ln 10 = 240 := by decide +kernel
theorem qt_11 : q_ty 11 = 0 := by decide +kernel
theorem ql_11 : q_ln 11 = 240 := by decide +kernel
theorem qt_12 : q_ty 12 = 0 := by decide +kernel
theorem ql_12 : q_ln 12 = 240 := by decide +kernel
theorem qt_13 : q_ty 13 = 0 := by decide +kernel
theorem ql_13 : q_ln 13 = 240 := by decide +kernel
theorem qt_14 : q_ty 14 = 0 := by decide +kernel
theorem ql_14 : q_ln 14 = 240 := by decide +kernel
theorem qt_15 : q_ty 15 = 0 := by decide +kernel
theorem ql_15 : q_ln 15 = 240 := by decide +kernel
theorem qt_16 : q_ty 16 = 0 := by decide +kernel
theorem ql_16 : q_ln 16 = 240 := by decide +kernel
theorem qt_17 : q_ty 17 = 0 := by decide +kernel
theorem ql_17 : q_ln 17 = 240 := by decide +kernel
theorem qt_18 : q_ty 18 = 4 := by decide +kernel
theorem ql_18 : q_ln 18 = 2 := by decide +kernel
theorem qt_19 : q_ty 19 = 0 := by decide +kernel
theorem ql_19 : q_ln 19 = 240 := by decide +kernel
theorem qt_20 : q_ty 20 = 0 := by decide +kernel
theorem ql_20 : q_ln 20 = 240 := by decide +kernel
theorem qt_21 : q_ty 21 = 4 := by decide +kernel
theorem ql_21 : q_ln 21 = 2 := by decide +kernel
theorem qt_22 : q_ty 22 = 0 := by decide +kernel
theorem ql_22 : q_ln 22 = 240 := by decide +kernel
theorem qt_23 : q_ty 23 = 0 := by decide +kernel
theorem ql_23 : q_ln 23 = 240 := by decide +kernel
theorem qt_24 : q_ty 24 = 4 := by decide +kernel
theorem ql_24 : q_ln 24 = 2 := by decide +kernel
theorem qt_25 : q_ty 25 = 0 := by decide +kernel
theorem ql_25 : q_ln 25 = 240 := by decide +kernel
theorem qt_26 : q_ty 26 = 0 := by decide +kernel
theorem ql_26 : q_ln 26 = 240 := by decide +kernel
theorem qt_28 : q_ty 28 = 0 := by decide +kernel
theorem ql_28 : q_ln 28 = 40 := by decide +kernel
theorem qt_29 : q_ty 29 = 0 := by decide +kernel
theorem ql_29 : q_ln 29 = 40 := by decide +kernel
theorem qt_30 : q_ty 30 = 0 := by decide +kernel
theorem ql_30 : q_ln 30 = 40 := by decide +kernel
theorem qt_31 : q_ty 31 = 0 := by decide +kernel
theorem ql_31 : q_ln 31 = 40 := by decide +kernel
theorem qt_32 : q_ty 32 = 0 := by decide +kernel
theorem ql_32 : q_ln 32 = 40 := by decide +kernel
theorem qt_33 : q_ty 33 = 0 := by decide +kernel
theorem ql_33 : q_ln 33 = 40 := by decide +kernel
theorem qt_34 : q_ty 34 = 0 := by decide +kernel
theorem ql_34 : q_ln 34 = 40 := by decide +kernel
theorem qt_35 : q_ty 35 = 0 := by decide +kernel
theorem ql_35 : q_ln 35 = 40 := by decide +kernel
theorem qt_36 : q_ty 36 = 4 := by decide +kernel
theorem ql_36 : q_ln 36 = 2 := by decide +kernel
theorem qt_37 : q_ty 37 = 0 := by decide +kernel
theorem ql_37 : q_ln 37 = 40 := by decide +kernel
theorem qt_38 : q_ty 38 = 0 := by decide +kernel
theorem ql_38 : q_ln 38 = 40 := by decide +kernel
theorem qt_40 : q_ty 40 = 0 := by decide +kernel
theorem ql_40 : q_ln 40 = 8 := by decide +kernel
theorem qt_41 : q_ty 41 = 4 := by decide +kernel
theorem ql_41 : q_ln 41 = 6 := by decide +kernel
theorem qt_42 : q_ty 42 = 0 := by decide +kernel
theorem ql_42 : q_ln 42 = 8 := by decide +kernel
theorem qt_43 : q_ty 43 = 0 := by decide +kernel
theorem ql_43 : q_ln 43 = 8 := by decide +kernel
theorem qt_44 : q_ty 44 = 0 := by decide +kernel
theorem ql_44 : q_ln 44 = 8 := by decide +kernel
theorem qt_45 : q_ty 45 = 0 := by decide +kernel
theorem ql_45 : q_ln 45 = 8 := by decide +kernel
theorem qt_46 : q_ty 46 = 0 := by decide +kernel
theorem ql_46 : q_ln 46 = 8 := by decide +kernel
theorem qt_47 : q_ty 47 = 0 := by decide +kernel
theorem ql_47 : q_ln 47 = 8 := by decide +kernel
theorem qt_48 : q_ty 48 = 4 := by decide +kernel
theorem ql_48 : q_ln 48 = 6 := by decide +kernel
theorem qt_49 : q_ty 49 = 0 := by decide +kernel
theorem ql_49 : q_ln 49 = 8 := by decide +kernel
theorem qt_50 : q_ty 50 = 0 := by decide +kernel
theorem ql_50 : q_ln 50 = 8 := by decide +kernel
theorem qt_51 : q_ty 51 = 0 := by decide +kernel
theorem ql_51 : q_ln 51 = 8 := by decide +kernel
theorem qt_52 : q_ty 52 = 0 := by decide +kernel
theorem ql_52 : q_ln 52 = 8 := by decide +kernel
theorem qt_53 : q_ty 53 = 0 := by decide +kernel
theorem ql_53 : q_ln 53 = 8 := by decide +kernel
theorem qt_54 : q_ty 54 = 0 := by decide +kernel
theorem ql_54 : q_ln 54 = 8 := by decide +kernel
theorem qt_56 : q_ty 56 = 4 := by decide +kernel
theorem ql_56 : q_ln 56 = 4 := by decide +kernel
theorem qt_57 : q_ty 57 = 0 := by decide +kernel
theorem ql_57 : q_ln 57 = 240 := by decide +kernel
theorem qt_58 : q_ty 58 = 0 := by decide +kernel
theorem ql_58 : q_ln 58 = 240 := by decide +kernel
theorem qt_59 : q_ty 59 = 0 := by decide +kernel
theorem ql_59 : q_ln 59 = 240 := by decide +kernel
theorem qt_60 : q_ty 60 = 0 := by decide +kernel
theorem ql_60 : q_ln 60 = 240 := by decide +kernel
theorem qt_61 : q_ty 61 = 4 := by decide +kernel
theorem ql_61 : q_ln 61 = 4 := by decide +kernel
theorem qt_62 : q_ty 62 = 0 := by decide +kernel
theorem ql_62 : q_ln 62 = 240 := by decide +kernel
theorem qt_63 : q_ty 63 = 0 := by decide +kernel
theorem ql_63 : q_ln 63 = 240 := by decide +kernel
theorem qt_64 : q_ty 64 = 0 := by decide +kernel
theorem ql_64 : q_ln 64 = 240 := by decide +kernel
theorem qt_65 : q_ty 65 = 0 := by decide +kernel
theorem ql_65 : q_ln 65 = 240 := by decide +kernel
theorem qt_67 : q_ty 67 = 0 := by decide +kernel
theorem ql_67 : q_ln 67 = 240 := by decide +kernel
theorem qt_68 : q_ty 68 = 0 := by decide +kernel
theorem ql_68 : q_ln 68 = 40 := by decide +kernel
theorem qt_69 : q_ty 69 = 4 := by decide +kernel
theorem ql_69 : q_ln 69 = 2 := by decide +kernel
theorem qt_70 : q_ty 70 = 0 := by decide +kernel
theorem ql_70 : q_ln 70 = 40 := by decide +kernel
theorem qt_71 : q_ty 71 = 0 := by decide +kernel
theorem ql_71 : q_ln 71 = 40 := by decide +kernel
theorem qt_73 : q_ty 73 = 0 := by decide +kernel
theorem ql_73 : q_ln 73 = 40 := by decide +kernel
theorem qt_74 : q_ty 74 = 0 := by decide +kernel
theorem ql_74 : q_ln 74 = 40 := by decide +kernel
theorem qt_75 : q_ty 75 = 0 := by decide +kernel
theorem ql_75 : q_ln 75 = 40 := by decide +kernel
theorem qt_76 : q_ty 76 = 0 := by decide +kernel
theorem ql_76 : q_ln 76 = 40 := by decide +kernel
theorem qt_78 : q_ty 78 = 0 := by decide +kernel
theorem ql_78 : q_ln 78 = 8 := by decide +kernel
theorem qt_79 : q_ty 79 = 0 := by decide +kernel
theorem ql_79 : q_ln 79 = 40 := by decide +kernel
theorem qt_80 : q_ty 80 = 0 := by decide +kernel
theorem ql_80 : q_ln 80 = 240 := by decide +kernel
theorem qt_81 : q_ty 81 = 4 := by decide +kernel
theorem ql_81 : q_ln 81 = 3 := by decide +kernel
theorem qt_82 : q_ty 82 = 0 := by decide +kernel
theorem ql_82 : q_ln 82 = 40 := by decide +kernel
theorem qt_83 : q_ty 83 = 0 := by decide +kernel
theorem ql_83 : q_ln 83 = 40 := by decide +kernel
theorem qt_84 : q_ty 84 = 0 := by decide +kernel
theorem ql_84 : q_ln 84 = 40 := by decide +kernel
theorem qt_85 : q_ty 85 = 0 := by decide +kernel
theorem ql_85 : q_ln 85 = 3 := by decide +kernel
theorem qt_86 : q_ty 86 = 0 := by decide +kernel
theorem ql_86 : q_ln 86 = 300 := by decide +kernel
theorem qt_87 : q_ty 87 = 0 := by decide +kernel
theorem ql_87 : q_ln 87 = 7 := by decide +kernel
theorem qt_89 : q_ty 89 = 0 := by decide +kernel
theorem ql_89 : q_ln 89 = 3 := by decide +kernel
theorem qt_90 : q_ty 90 = 0 := by decide +kernel
theorem ql_90 : q_ln 90 = 40 := by decide +kernel
theorem qt_91 : q_ty 91 = 0 := by decide +kernel
theorem ql_91 : q_ln 91 = 40 := by decide +kernel
theorem qt_92 : q_ty 92 = 0 := by decide +kernel
theorem ql_92 : q_ln 92 = 40 := by decide +kernel
theorem qt_93 : q_ty 93 = 0 := by decide +kernel
theorem ql_93 : q_ln 93 = 40 := by decide +kernel
theorem qt_94 : q_ty 94 = 0 := by decide +kernel
theorem ql_94 : q_ln 94 = 40 := by decide +kernel
theorem qt_95 : q_ty 95 = 0 := by decide +kernel
theorem ql_95 : q_ln 95 = 40 := by decide +kernel
theorem qt_96 : q_ty 96 = 0 := by decide +kernel
theorem ql_96 : q_ln 96 = 40 := by decide +kernel
theorem qt_97 : q_ty 97 = 0 := by decide +kernel
theorem ql_97 : q_ln 97 = 40 := by decide +kernel
theorem qt_98 : q_ty 98 = 0 := by decide +kernel
theorem ql_98 : q_ln 98 = 40 := by decide +kernel
theorem qt_99 : q_ty 99 = 0 := by decide +kernel
theorem ql_99 : q_ln 99 = 40 := by decide +kernel
theorem qt_100 : q_ty 100 = 0 := by decide +kernel
theorem ql_100 : q_ln 100 = 40 := by decide +kernel
theorem qt_101 : q_ty 101 = 0 := by decide +kernel
theorem ql_101 : q_ln 101 = 40 := by decide +kernel
theorem qt_102 : q_ty 102 = 0 := by decide +kernel
theorem ql_102 : q_ln 102 = 40 := by decide +kernel
theorem qt_103 : q_ty 103 = 0 := by decide +kernel
theorem ql_103 : q_ln 103 = 40 := by decide +kernel
theorem qt_105 : q_ty 105 = 0 := by decide +kernel
theorem ql_105 : q_ln 105 = 40 := by decide +kernel
theorem qt_106 : q_ty 106 = 4 := by decide +kernel
theorem ql_106 : q_ln 106 = 2 := by decide +kernel
theorem qt_107 : q_ty 107 = 0 := by decide +kernel
theorem ql_107 : q_ln 107 = 40 := by decide +kernel
theorem qt_108 : q_ty 108 = 0 := by decide +kernel
theorem ql_108 : q_ln 108 = 40 := by decide +kernel
theorem qt_109 : q_ty 109 = 4 := by decide +kernel
theorem ql_109 : q_ln 109 = 2 := by decide +kernel
theorem qt_110 : q_ty 110 = 0 := by decide +kernel
theorem ql_110 : q_ln 110 = 40 := by decide +kernel
theorem qt_111 : q_ty 111 = 0 := by decide +kernel
theorem ql_111 : q_ln 111 = 40 := by decide +kernel
theorem qt_113 : q_ty 113 = 0 := by decide +kernel
theorem ql_113 : q_ln 113 = 3 := by decide +kernel
theorem qt_114 : q_ty 114 = 0 := by decide +kernel
theorem ql_114 : q_ln 114 = 40 := by decide +kernel
theorem qt_115 : q_ty 115 = 0 := by decide +kernel
theorem ql_115 : q_ln 115 = 40 := by decide +kernel
theorem qt_116 : q_ty 116 = 0 := by decide +kernel
theorem ql_116 : q_ln 116 = 40 := by decide +kernel
theorem qt_117 : q_ty 117 = 0 := by decide +kernel
theorem ql_117 : q_ln 117 = 40 := by decide +kernel
theorem qt_118 : q_ty 118 = 0 := by decide +kernel
theorem ql_118 : q_ln 118 = 40 := by decide +kernel
theorem qt_119 : q_ty 119 = 0 := by decide +kernel
theorem ql_119 : q_ln 119 = 40 := by decide +kernel
theorem qt_120 : q_ty 120 = 0 := by decide +kernel
theorem ql_120 : q_ln 120 = 40 := by decide +kernel
theorem qt_121 : q_ty 121 = 0 := by decide +kernel
theorem ql_121 : q_ln 121 = 40 := by decide +kernel
theorem qt_122 : q_ty 122 = 0 := by decide +kernel
theorem ql_122 : q_ln 122 = 40 := by decide +kernel
theorem qt_123 : q_ty 123 = 0 := by decide +kernel
theorem ql_123 : q_ln 123 = 40 := by decide +kernel
theorem qt_124 : q_ty 124 = 0 := by decide +kernel
theorem ql_124 : q_ln 124 = 40 := by decide +kernel
theorem qt_125 : q_ty 125 = 0 := by decide +kernel
theorem ql_125 : q_ln 125 = 40 := by decide +kernel
theorem qt_126 : q_ty 126 = 0 := by decide +kernel
theorem ql_126 : q_ln 126 = 40 := by decide +kernel
theorem qt_127 : q_ty 127 = 0 := by decide +kernel
theorem ql_127 : q_ln 127 = 40 := by decide +kernel
theorem qt_129 : q_ty 129 = 0 := by decide +kernel
theorem ql_129 : q_ln 129 = 40 := by decide +kernel
theorem qt_130 : q_ty 130 = 4 := by decide +kernel
theorem ql_130 : q_ln 130 = 2 := by decide +kernel
theorem qt_131 : q_ty 131 = 0 := by decide +kernel
theorem ql_131 : q_ln 131 = 40 := by decide +kernel
theorem qt_132 : q_ty 132 = 0 := by decide +kernel
theorem ql_132 : q_ln 132 = 40 := by decide +kernel
theorem qt_133 : q_ty 133 = 4 := by decide +kernel
theorem ql_133 : q_ln 133 = 2 := by decide +kernel
theorem qt_134 : q_ty 134 = 0 := by decide +kernel
theorem ql_134 : q_ln 134 = 40 := by decide +kernel
theorem qt_135 : q_ty 135 = 0 := by decide +kernel
theorem ql_135 : q_ln 135 = 40 := by decide +kernel
theorem qt_137 : q_ty 137 = 1 := by decide +kernel
theorem ql_137 : q_ln 137 = 400 := by decide +kernel
theorem qt_138 : q_ty 138 = 0 := by decide +kernel
theorem ql_138 : q_ln 138 = 5 := by decide +kernel
theorem qt_139 : q_ty 139 = 1 := by decide +kernel
theorem ql_139 : q_ln 139 = 400 := by decide +kernel
theorem qt_140 : q_ty 140 = 1 := by decide +kernel
theorem ql_140 : q_ln 140 = 400 := by decide +kernel
theorem qt_141 : q_ty 141 = 0 := by decide +kernel
theorem ql_141 : q_ln 141 = 3 := by decide +kernel
theorem qt_142 : q_ty 142 = 0 := by decide +kernel
theorem ql_142 : q_ln 142 = 40 := by decide +kernel
theorem qt_143 : q_ty 143 = 0 := by decide +kernel
theorem ql_143 : q_ln 143 = 40 := by decide +kernel
theorem qt_144 : q_ty 144 = 0 := by decide +kernel
theorem ql_144 : q_ln 144 = 40 := by decide +kernel
theorem qt_145 : q_ty 145 = 0 := by decide +kernel
theorem ql_145 : q_ln 145 = 40 := by decide +kernel
theorem qt_146 : q_ty 146 = 0 := by decide +kernel
theorem ql_146 : q_ln 146 = 40 := by decide +kernel
theorem qt_147 : q_ty 147 = 0 := by decide +kernel
theorem ql_147 : q_ln 147 = 700 := by decide +kernel
theorem qt_148 : q_ty 148 = 0 := by decide +kernel
theorem ql_148 : q_ln 148 = 700 := by decide +kernel
theorem qt_149 : q_ty 149 = 0 := by decide +kernel
theorem ql_149 : q_ln 149 = 700 := by decide +kernel
theorem qt_150 : q_ty 150 = 0 := by decide +kernel
theorem ql_150 : q_ln 150 = 700 := by decide +kernel
theorem qt_151 : q_ty 151 = 0 := by decide +kernel
theorem ql_151 : q_ln 151 = 700 := by decide +kernel
theorem qt_152 : q_ty 152 = 0 := by decide +kernel
theorem ql_152 : q_ln 152 = 700 := by decide +kernel
theorem qt_153 : q_ty 153 = 0 := by decide +kernel
theorem ql_153 : q_ln 153 = 700 := by decide +kernel
theorem qt_154 : q_ty 154 = 0 := by decide +kernel
theorem ql_154 : q_ln 154 = 700 := by decide +kernel
theorem qt_155 : q_ty 155 = 0 := by decide +kernel
theorem ql_155 : q_ln 155 = 40 := by decide +kernel
theorem qt_156 : q_ty 156 = 0 := by decide +kernel
theorem ql_156 : q_ln 156 = 40 := by decide +kernel
theorem qt_157 : q_ty 157 = 0 := by decide +kernel
theorem ql_157 : q_ln 157 = 40 := by decide +kernel
theorem qt_158 : q_ty 158 = 0 := by decide +kernel
theorem ql_158 : q_ln 158 = 40 := by decide +kernel
theorem qt_159 : q_ty 159 = 0 := by decide +kernel
theorem ql_159 : q_ln 159 = 40 := by decide +kernel
theorem qt_160 : q_ty 160 = 0 := by decide +kernel
theorem ql_160 : q_ln 160 = 40 := by decide +kernel
theorem qt_161 : q_ty 161 = 0 := by decide +kernel
theorem ql_161 : q_ln 161 = 40 := by decide +kernel
theorem qt_162 : q_ty 162 = 0 := by decide +kernel
theorem ql_162 : q_ln 162 = 40 := by decide +kernel
theorem qt_163 : q_ty 163 = 0 := by decide +kernel
theorem ql_163 : q_ln 163 = 40 := by decide +kernel
theorem qt_164 : q_ty 164 = 0 := by decide +kernel
theorem ql_164 : q_ln 164 = 40 := by decide +kernel
theorem qt_165 : q_ty 165 = 0 := by decide +kernel
theorem ql_165 : q_ln 165 = 80 := by decide +kernel
theorem qt_166 : q_ty 166 = 0 := by decide +kernel
theorem ql_166 : q_ln 166 = 80 := by decide +kernel
theorem qt_167 : q_ty 167 = 0 := by decide +kernel
theorem ql_167 : q_ln 167 = 80 := by decide +kernel
theorem qt_168 : q_ty 168 = 0 := by decide +kernel
theorem ql_168 : q_ln 168 = 3000 := by decide +kernel
theorem qt_169 : q_ty 169 = 0 := by decide +kernel
theorem ql_169 : q_ln 169 = 3000 := by decide +kernel
theorem qt_170 : q_ty 170 = 0 := by decide +kernel
theorem ql_170 : q_ln 170 = 3000 := by decide +kernel
theorem qt_171 : q_ty 171 = 0 := by decide +kernel
theorem ql_171 : q_ln 171 = 8 := by decide +kernel
theorem qt_172 : q_ty 172 = 0 := by decide +kernel
theorem ql_172 : q_ln 172 = 512 := by decide +kernel
theorem qt_173 : q_ty 173 = 0 := by decide +kernel
theorem ql_173 : q_ln 173 = 2800 := by decide +kernel
theorem qt_174 : q_ty 174 = 0 := by decide +kernel
theorem ql_174 : q_ln 174 = 700 := by decide +kernel
theorem qt_175 : q_ty 175 = 0 := by decide +kernel
theorem ql_175 : q_ln 175 = 700 := by decide +kernel
theorem qt_176 : q_ty 176 = 0 := by decide +kernel
theorem ql_176 : q_ln 176 = 40 := by decide +kernel
theorem qt_177 : q_ty 177 = 0 := by decide +kernel
theorem ql_177 : q_ln 177 = 40 := by decide +kernel
theorem qt_178 : q_ty 178 = 2 := by decide +kernel
theorem ql_178 : q_ln 178 = 40 := by decide +kernel
theorem qt_179 : q_ty 179 = 2 := by decide +kernel
theorem ql_179 : q_ln 179 = 40 := by decide +kernel
theorem qt_180 : q_ty 180 = 0 := by decide +kernel
theorem ql_180 : q_ln 180 = 702 := by decide +kernel
theorem qt_181 : q_ty 181 = 0 := by decide +kernel
theorem ql_181 : q_ln 181 = 3 := by decide +kernel
theorem qt_182 : q_ty 182 = 0 := by decide +kernel
theorem ql_182 : q_ln 182 = 3 := by decide +kernel
theorem qt_183 : q_ty 183 = 0 := by decide +kernel
theorem ql_183 : q_ln 183 = 8 := by decide +kernel
theorem qt_184 : q_ty 184 = 0 := by decide +kernel
theorem ql_184 : q_ln 184 = 123 := by decide +kernel
theorem qt_185 : q_ty 185 = 0 := by decide +kernel
theorem ql_185 : q_ln 185 = 700 := by decide +kernel
theorem qt_186 : q_ty 186 = 0 := by decide +kernel
theorem ql_186 : q_ln 186 = 301 := by decide +kernel
theorem qt_187 : q_ty 187 = 2 := by decide +kernel
theorem ql_187 : q_ln 187 = 40 := by decide +kernel
theorem qt_188 : q_ty 188 = 3 := by decide +kernel
theorem ql_188 : q_ln 188 = 1 := by decide +kernel
section QZ
variable {c : Nat}
theorem qtc_1 (hc : q_C c) : q_ty (c + 1) = 0 := by rcases hc with rfl | rfl <;> decide +kernel
theorem qlc_1 (hc : q_C c) : q_ln (c + 1) = 3 := by rcases hc with rfl | rfl <;> decide +kernel
theorem qtc_2 (hc : q_C c) : q_ty (c + 2) = 0 := by rcases hc with rfl | rfl <;> decide +kernel
theorem qlc_2 (hc : q_C c) : q_ln (c + 2) = 40 := by rcases hc with rfl | rfl <;> decide +kernel
theorem qtc_3 (hc : q_C c) : q_ty (c + 3) = 0 := by rcases hc with rfl | rfl <;> decide +kernel
theorem qlc_3 (hc : q_C c) : q_ln (c + 3) = 40 := by rcases hc with rfl | rfl <;> decide +kernel
theorem qtc_4 (hc : q_C c) : q_ty (c + 4) = 0 := by rcases hc with rfl | rfl <;> decide +kernel
theorem qlc_4 (hc : q_C c) : q_ln (c + 4) = 40 := by rcases hc with rfl | rfl <;> decide +kernel
theorem qtc_5 (hc : q_C c) : q_ty (c + 5) = 0 := by rcases hc with rfl | rfl <;> decide +kernel
theorem qlc_5 (hc : q_C c) : q_ln (c + 5) = 40 := by rcases hc with rfl | rfl <;> decide +kernel
theorem qtc_6 (hc : q_C c) : q_ty (c + 6) = 0 := by rcases hc with rfl | rfl <;> decide +kernel
theorem qlc_6 (hc : q_C c) : q_ln (c + 6) = 40 := by rcases hc with rfl | rfl <;> decide +kernel
theorem qtc_7 (hc : q_C c) : q_ty (c + 7) = 0 := by rcases hc with rfl | rfl <;> decide +kernel
theorem qlc_7 (hc : q_C c) : q_ln (c + 7) = 40 := by rcases hc with rfl | rfl <;> decide +kernel
theorem qtc_8 (hc : q_C c) : q_ty (c + 8) = 0 := by rcases hc with rfl | rfl <;> decide +kernel
theorem qlc_8 (hc : q_C c) : q_ln (c + 8) = 40 := by rcases hc with rfl | rfl <;> decide +kernel
theorem qtc_9 (hc : q_C c) : q_ty (c + 9) = 0 := by rcases hc with rfl | rfl <;> decide +kernel
theorem qlc_9 (hc : q_C c) : q_ln (c + 9) = 40 := by rcases hc with rfl | rfl <;> decide +kernel
theorem qtc_10 (hc : q_C c) : q_ty (c + 10) = 0 := by rcases hc with rfl | rfl <;> decide +kernel
theorem qlc_10 (hc : q_C c) : q_ln (c + 10) = 40 := by rcases hc with rfl | rfl <;> decide +kernel
theorem qtc_11 (hc : q_C c) : q_ty (c + 11) = 0 := by rcases hc with rfl | rfl <;> decide +kernel
theorem qlc_11 (hc : q_C c) : q_ln (c + 11) = 40 := by rcases hc with rfl | rfl <;> decide +kernel
theorem qtc_12 (hc : q_C c) : q_ty (c + 12) = 0 := by rcases hc with rfl | rfl <;> decide +kernel
theorem qlc_12 (hc : q_C c) : q_ln (c + 12) = 40 := by rcases hc with rfl | rfl <;> decide +kernel
theorem qtc_13 (hc : q_C c) : q_ty (c + 13) = 0 := by rcases hc with rfl | rfl <;> decide +kernel
theorem qlc_13 (hc : q_C c) : q_ln (c + 13) = 40 := by rcases hc with rfl | rfl <;> decide +kernel
theorem qtc_14 (hc : q_C c) : q_ty (c + 14) = 0 := by rcases hc with rfl | rfl <;> decide +kernel
theorem qlc_14 (hc : q_C c) : q_ln (c + 14) = 40 := by rcases hc with rfl | rfl <;> decide +kernel
theorem qtc_15 (hc : q_C c) : q_ty (c + 15) = 0 := by rcases hc with rfl | rfl <;> decide +kernel
theorem qlc_15 (hc : q_C c) : q_ln (c + 15) = 40 := by rcases hc with rfl | rfl <;> decide +kernel
theorem qtc_17 (hc : q_C c) : q_ty (c + 17) = 0 := by rcases hc with rfl | rfl <;> decide +kernel
theorem qlc_17 (hc : q_C c) : q_ln (c + 17) = 40 := by rcases hc with rfl | rfl <;> decide +kernel
theorem qtc_18 (hc : q_C c) : q_ty (c + 18) = 4 := by rcases hc with rfl | rfl <;> decide +kernel
theorem qlc_18 (hc : q_C c) : q_ln (c + 18) = 2 := by rcases hc with rfl | rfl <;> decide +kernel
theorem qtc_19 (hc : q_C c) : q_ty (c + 19) = 0 := by rcases hc with rfl | rfl <;> decide +kernel
theorem qlc_19 (hc : q_C c) : q_ln (c + 19) = 40 := by rcases hc with rfl | rfl <;> decide +kernel
theorem qtc_20 (hc : q_C c) : q_ty (c + 20) = 0 := by rcases hc with rfl | rfl <;> decide +kernel
theorem qlc_20 (hc : q_C c) : q_ln (c + 20) = 40 := by rcases hc with rfl | rfl <;> decide +kernel
theorem qtc_21 (hc : q_C c) : q_ty (c + 21) = 4 := by rcases hc with rfl | rfl <;> decide +kernel
theorem qlc_21 (hc : q_C c) : q_ln (c + 21) = 2 := by rcases hc with rfl | rfl <;> decide +kernel
theorem qtc_22 (hc : q_C c) : q_ty (c + 22) = 0 := by rcases hc with rfl | rfl <;> decide +kernel
theorem qlc_22 (hc : q_C c) : q_ln (c + 22) = 40 := by rcases hc with rfl | rfl <;> decide +kernel
theorem qtc_23 (hc : q_C c) : q_ty (c + 23) = 0 := by rcases hc with rfl | rfl <;> decide +kernel
theorem qlc_23 (hc : q_C c) : q_ln (c + 23) = 40 := by rcases hc with rfl | rfl <;> decide +kernel
end QZ
