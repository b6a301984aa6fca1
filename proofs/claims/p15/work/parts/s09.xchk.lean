/-! every table entry is what the bytes say -/
set_option maxRecDepth 100000 in
theorem okB_0 : okB 0 = true := okB4_ok (by decide +kernel)
set_option maxRecDepth 100000 in
theorem okB_1 : okB 1 = true := okB4_ok (by decide +kernel)
set_option maxRecDepth 100000 in
theorem okB_2 : okB 2 = true := okB4_ok (by decide +kernel)
set_option maxRecDepth 100000 in
theorem okB_3 : okB 3 = true := okB4_ok (by decide +kernel)
set_option maxRecDepth 100000 in
theorem okB_4 : okB 4 = true := okB4_ok (by decide +kernel)
set_option maxRecDepth 100000 in
theorem okB_5 : okB 5 = true := okB4_ok (by decide +kernel)
set_option maxRecDepth 100000 in
theorem okB_6 : okB 6 = true := okB4_ok (by decide +kernel)
set_option maxRecDepth 100000 in
theorem okB_7 : okB 7 = true := okB4_ok (by decide +kernel)
set_option maxRecDepth 100000 in
theorem okB_8 : okB 8 = true := okB4_ok (by decide +kernel)
set_option maxRecDepth 100000 in
theorem okB_9 : okB 9 = true := okB4_ok (by decide +kernel)
set_option maxRecDepth 100000 in
theorem okB_10 : okB 10 = true := okB4_ok (by decide +kernel)
set_option maxRecDepth 100000 in
theorem okB_11 : okB 11 = true := okB4_ok (by decide +kernel)
set_option maxRecDepth 100000 in
theorem okB_12 : okB 12 = true := okB4_ok (by decide +kernel)
set_option maxRecDepth 100000 in
theorem okB_13 : okB 13 = true := okB4_ok (by decide +kernel)
set_option maxRecDepth 100000 in
theorem okB_14 : okB 14 = true := okB4_ok (by decide +kernel)
set_option maxRecDepth 100000 in
theorem okB_15 : okB 15 = true := okB4_ok (by decide +kernel)
set_option maxRecDepth 100000 in
theorem okB_16 : okB 16 = true := okB4_ok (by decide +kernel)
set_option maxRecDepth 100000 in
theorem okB_17 : okB 17 = true := okB4_ok (by decide +kernel)
set_option maxRecDepth 100000 in
theorem okB_18 : okB 18 = true := okB4_ok (by decide +kernel)
set_option maxRecDepth 100000 in
theorem okB_19 : okB 19 = true := okB4_ok (by decide +kernel)
set_option maxRecDepth 100000 in
theorem okB_20 : okB 20 = true := okB4_ok (by decide +kernel)
set_option maxRecDepth 100000 in
theorem okB_21 : okB 21 = true := okB4_ok (by decide +kernel)
set_option maxRecDepth 100000 in
theorem okB_22 : okB 22 = true := okB4_ok (by decide +kernel)
set_option maxRecDepth 100000 in
theorem okB_23 : okB 23 = true := okB4_ok (by decide +kernel)
set_option maxRecDepth 100000 in
theorem okB_24 : okB 24 = true := okB4_ok (by decide +kernel)
set_option maxRecDepth 100000 in
theorem okB_25 : okB 25 = true := okB4_ok (by decide +kernel)
set_option maxRecDepth 100000 in
theorem okB_26 : okB 26 = true := okB4_ok (by decide +kernel)
set_option maxRecDepth 100000 in
theorem okB_27 : okB 27 = true := okB4_ok (by decide +kernel)
set_option maxRecDepth 100000 in
theorem okB_28 : okB 28 = true := okB4_ok (by decide +kernel)
set_option maxRecDepth 100000 in
theorem okB_29 : okB 29 = true := okB4_ok (by decide +kernel)
set_option maxRecDepth 100000 in
theorem okB_30 : okB 30 = true := okB4_ok (by decide +kernel)
set_option maxRecDepth 100000 in
theorem okB_31 : okB 31 = true := okB4_ok (by decide +kernel)
set_option maxRecDepth 100000 in
theorem okB_32 : okB 32 = true := okB4_ok (by decide +kernel)
set_option maxRecDepth 100000 in
theorem okB_33 : okB 33 = true := okB4_ok (by decide +kernel)
set_option maxRecDepth 100000 in
theorem okB_34 : okB 34 = true := okB4_ok (by decide +kernel)
set_option maxRecDepth 100000 in
theorem okB_35 : okB 35 = true := okB4_ok (by decide +kernel)
set_option maxRecDepth 100000 in
theorem okB_36 : okB 36 = true := okB4_ok (by decide +kernel)
set_option maxRecDepth 100000 in
theorem okB_37 : okB 37 = true := okB4_ok (by decide +kernel)
set_option maxRecDepth 100000 in
theorem okB_38 : okB 38 = true := okB4_ok (by decide +kernel)
set_option maxRecDepth 100000 in
theorem okB_39 : okB 39 = true := okB4_ok (by decide +kernel)
set_option maxRecDepth 100000 in
theorem okB_40 : okB 40 = true := okB4_ok (by decide +kernel)
set_option maxRecDepth 100000 in
theorem okB_41 : okB 41 = true := okB4_ok (by decide +kernel)
set_option maxRecDepth 100000 in
theorem okB_42 : okB 42 = true := okB4_ok (by decide +kernel)
set_option maxRecDepth 100000 in
theorem okB_43 : okB 43 = true := okB4_ok (by decide +kernel)
set_option maxRecDepth 100000 in
theorem okB_44 : okB 44 = true := okB4_ok (by decide +kernel)
set_option maxRecDepth 100000 in
theorem okB_45 : okB 45 = true := okB4_ok (by decide +kernel)
set_option maxRecDepth 100000 in
theorem okB_46 : okB 46 = true := okB4_ok (by decide +kernel)
set_option maxRecDepth 100000 in
theorem okB_47 : okB 47 = true := okB4_ok (by decide +kernel)
set_option maxRecDepth 100000 in
theorem okB_48 : okB 48 = true := okB4_ok (by decide +kernel)
set_option maxRecDepth 100000 in
theorem okB_49 : okB 49 = true := okB4_ok (by decide +kernel)
set_option maxRecDepth 100000 in
theorem okB_50 : okB 50 = true := okB4_ok (by decide +kernel)
set_option maxRecDepth 100000 in
theorem okB_51 : okB 51 = true := okB4_ok (by decide +kernel)
set_option maxRecDepth 100000 in
theorem okB_52 : okB 52 = true := okB4_ok (by decide +kernel)
set_option maxRecDepth 100000 in
theorem okB_53 : okB 53 = true := okB4_ok (by decide +kernel)
set_option maxRecDepth 100000 in
theorem okB_54 : okB 54 = true := okB4_ok (by decide +kernel)
set_option maxRecDepth 100000 in
theorem okB_55 : okB 55 = true := okB4_ok (by decide +kernel)
set_option maxRecDepth 100000 in
theorem okB_56 : okB 56 = true := okB4_ok (by decide +kernel)
set_option maxRecDepth 100000 in
theorem okB_57 : okB 57 = true := okB4_ok (by decide +kernel)
set_option maxRecDepth 100000 in
theorem okB_58 : okB 58 = true := okB4_ok (by decide +kernel)
set_option maxRecDepth 100000 in
theorem okB_59 : okB 59 = true := okB4_ok (by decide +kernel)
set_option maxRecDepth 100000 in
theorem okB_60 : okB 60 = true := okB4_ok (by decide +kernel)
set_option maxRecDepth 100000 in
theorem okB_61 : okB 61 = true := okB4_ok (by decide +kernel)
set_option maxRecDepth 100000 in
theorem okB_62 : okB 62 = true := okB4_ok (by decide +kernel)
set_option maxRecDepth 100000 in
theorem okB_63 : okB 63 = true := okB4_ok (by decide +kernel)
set_option maxRecDepth 100000 in
theorem okB_64 : okB 64 = true := okB4_ok (by decide +kernel)
set_option maxRecDepth 100000 in
theorem okB_65 : okB 65 = true := okB4_ok (by decide +kernel)
set_option maxRecDepth 100000 in
theorem okB_66 : okB 66 = true := okB4_ok (by decide +kernel)
set_option maxRecDepth 100000 in
theorem okB_67 : okB 67 = true := okB4_ok (by decide +kernel)
set_option maxRecDepth 100000 in
theorem okB_68 : okB 68 = true := okB4_ok (by decide +kernel)
set_option maxRecDepth 100000 in
theorem okB_69 : okB 69 = true := okB4_ok (by decide +kernel)
set_option maxRecDepth 100000 in
theorem okB_70 : okB 70 = true := okB4_ok (by decide +kernel)
set_option maxRecDepth 100000 in
theorem okB_71 : okB 71 = true := okB4_ok (by decide +kernel)
set_option maxRecDepth 100000 in
theorem okB_72 : okB 72 = true := okB4_ok (by decide +kernel)
set_option maxRecDepth 100000 in
theorem okB_73 : okB 73 = true := okB4_ok (by decide +kernel)
set_option maxRecDepth 100000 in
theorem okB_74 : okB 74 = true := okB4_ok (by decide +kernel)
set_option maxRecDepth 100000 in
theorem okB_75 : okB 75 = true := okB4_ok (by decide +kernel)
set_option maxRecDepth 100000 in
theorem okB_76 : okB 76 = true := okB4_ok (by decide +kernel)
set_option maxRecDepth 100000 in
theorem okB_77 : okB 77 = true := okB4_ok (by decide +kernel)
set_option maxRecDepth 100000 in
theorem okB_78 : okB 78 = true := okB4_ok (by decide +kernel)
set_option maxRecDepth 100000 in
theorem okB_79 : okB 79 = true := okB4_ok (by decide +kernel)
set_option maxRecDepth 100000 in
theorem okB_80 : okB 80 = true := okB4_ok (by decide +kernel)
set_option maxRecDepth 100000 in
theorem okB_81 : okB 81 = true := okB4_ok (by decide +kernel)
set_option maxRecDepth 100000 in
theorem okB_82 : okB 82 = true := okB4_ok (by decide +kernel)
set_option maxRecDepth 100000 in
theorem okB_83 : okB 83 = true := okB4_ok (by decide +kernel)
set_option maxRecDepth 100000 in
theorem okB_84 : okB 84 = true := okB4_ok (by decide +kernel)
set_option maxRecDepth 100000 in
theorem okB_85 : okB 85 = true := okB4_ok (by decide +kernel)
set_option maxRecDepth 100000 in
theorem okB_86 : okB 86 = true := okB4_ok (by decide +kernel)
set_option maxRecDepth 100000 in
theorem okB_87 : okB 87 = true := okB4_ok (by decide +kernel)
set_option maxRecDepth 100000 in
theorem okB_88 : okB 88 = true := okB4_ok (by decide +kernel)
set_option maxRecDepth 100000 in
theorem okB_89 : okB 89 = true := okB4_ok (by decide +kernel)
set_option maxRecDepth 100000 in
theorem okB_90 : okB 90 = true := okB4_ok (by decide +kernel)
set_option maxRecDepth 100000 in
theorem okB_91 : okB 91 = true := okB4_ok (by decide +kernel)
set_option maxRecDepth 100000 in
theorem okB_92 : okB 92 = true := okB4_ok (by decide +kernel)
set_option maxRecDepth 100000 in
theorem okB_93 : okB 93 = true := okB4_ok (by decide +kernel)
set_option maxRecDepth 100000 in
theorem okB_94 : okB 94 = true := okB4_ok (by decide +kernel)
set_option maxRecDepth 100000 in
theorem okB_95 : okB 95 = true := okB4_ok (by decide +kernel)
set_option maxRecDepth 100000 in
theorem okB_96 : okB 96 = true := okB4_ok (by decide +kernel)
set_option maxRecDepth 100000 in
theorem okB_97 : okB 97 = true := okB4_ok (by decide +kernel)
set_option maxRecDepth 100000 in
theorem okB_98 : okB 98 = true := okB4_ok (by decide +kernel)
set_option maxRecDepth 100000 in
theorem okB_99 : okB 99 = true := okB4_ok (by decide +kernel)
set_option maxRecDepth 100000 in
theorem okB_100 : okB 100 = true := okB4_ok (by decide +kernel)
set_option maxRecDepth 100000 in
theorem okB_101 : okB 101 = true := okB4_ok (by decide +kernel)
set_option maxRecDepth 100000 in
theorem okB_102 : okB 102 = true := okB4_ok (by decide +kernel)
set_option maxRecDepth 100000 in
theorem okB_103 : okB 103 = true := okB4_ok (by decide +kernel)
set_option maxRecDepth 100000 in
theorem okB_104 : okB 104 = true := okB4_ok (by decide +kernel)
set_option maxRecDepth 100000 in
theorem okB_105 : okB 105 = true := okB4_ok (by decide +kernel)
set_option maxRecDepth 100000 in
theorem okB_106 : okB 106 = true := okB4_ok (by decide +kernel)
set_option maxRecDepth 100000 in
theorem okB_107 : okB 107 = true := okB4_ok (by decide +kernel)
set_option maxRecDepth 100000 in
theorem okB_108 : okB 108 = true := okB4_ok (by decide +kernel)
set_option maxRecDepth 100000 in
theorem okB_109 : okB 109 = true := okB4_ok (by decide +kernel)
set_option maxRecDepth 100000 in
theorem okB_110 : okB 110 = true := okB4_ok (by decide +kernel)
set_option maxRecDepth 100000 in
theorem okB_111 : okB 111 = true := okB4_ok (by decide +kernel)
set_option maxRecDepth 100000 in
theorem okB_112 : okB 112 = true := okB4_ok (by decide +kernel)
set_option maxRecDepth 100000 in
theorem okB_113 : okB 113 = true := okB4_ok (by decide +kernel)
set_option maxRecDepth 100000 in
theorem okB_114 : okB 114 = true := okB4_ok (by decide +kernel)
set_option maxRecDepth 100000 in
theorem okB_115 : okB 115 = true := okB4_ok (by decide +kernel)
set_option maxRecDepth 100000 in
theorem okB_116 : okB 116 = true := okB4_ok (by decide +kernel)
set_option maxRecDepth 100000 in
theorem okB_117 : okB 117 = true := okB4_ok (by decide +kernel)
set_option maxRecDepth 100000 in
theorem okB_118 : okB 118 = true := okB4_ok (by decide +kernel)
set_option maxRecDepth 100000 in
theorem okB_119 : okB 119 = true := okB4_ok (by decide +kernel)
set_option maxRecDepth 100000 in
theorem okB_120 : okB 120 = true := okB4_ok (by decide +kernel)
set_option maxRecDepth 100000 in
theorem okB_121 : okB 121 = true := okB4_ok (by decide +kernel)
set_option maxRecDepth 100000 in
theorem okB_122 : okB 122 = true := okB4_ok (by decide +kernel)
set_option maxRecDepth 100000 in
theorem okB_123 : okB 123 = true := okB4_ok (by decide +kernel)
set_option maxRecDepth 100000 in
theorem okB_124 : okB 124 = true := okB4_ok (by decide +kernel)
set_option maxRecDepth 100000 in
theorem okB_125 : okB 125 = true := okB4_ok (by decide +kernel)
set_option maxRecDepth 100000 in
theorem okB_126 : okB 126 = true := okB4_ok (by decide +kernel)
set_option maxRecDepth 100000 in
theorem okB_127 : okB 127 = true := okB4_ok (by decide +kernel)
set_option maxRecDepth 100000 in
theorem okB_128 : okB 128 = true := okB4_ok (by decide +kernel)
set_option maxRecDepth 100000 in
theorem okB_129 : okB 129 = true := okB4_ok (by decide +kernel)
set_option maxRecDepth 100000 in
theorem okB_130 : okB 130 = true := okB4_ok (by decide +kernel)
set_option maxRecDepth 100000 in
theorem okB_131 : okB 131 = true := okB4_ok (by decide +kernel)
set_option maxRecDepth 100000 in
theorem okB_132 : okB 132 = true := okB4_ok (by decide +kernel)
set_option maxRecDepth 100000 in
theorem okB_133 : okB 133 = true := okB4_ok (by decide +kernel)
set_option maxRecDepth 100000 in
theorem okB_134 : okB 134 = true := okB4_ok (by decide +kernel)
set_option maxRecDepth 100000 in
theorem okB_135 : okB 135 = true := okB4_ok (by decide +kernel)
set_option maxRecDepth 100000 in
theorem okB_136 : okB 136 = true := okB4_ok (by decide +kernel)
set_option maxRecDepth 100000 in
theorem okB_137 : okB 137 = true := okB4_ok (by decide +kernel)
set_option maxRecDepth 100000 in
theorem okB_138 : okB 138 = true := okB4_ok (by decide +kernel)
set_option maxRecDepth 100000 in
theorem okB_139 : okB 139 = true := okB4_ok (by decide +kernel)
set_option maxRecDepth 100000 in
theorem okB_140 : okB 140 = true := okB4_ok (by decide +kernel)
set_option maxRecDepth 100000 in
theorem okB_141 : okB 141 = true := okB4_ok (by decide +kernel)
set_option maxRecDepth 100000 in
theorem okB_142 : okB 142 = true := okB4_ok (by decide +kernel)
set_option maxRecDepth 100000 in
theorem okB_143 : okB 143 = true := okB4_ok (by decide +kernel)
set_option maxRecDepth 100000 in
theorem okB_144 : okB 144 = true := okB4_ok (by decide +kernel)
set_option maxRecDepth 100000 in
theorem okB_145 : okB 145 = true := okB4_ok (by decide +kernel)
set_option maxRecDepth 100000 in
theorem okB_146 : okB 146 = true := okB4_ok (by decide +kernel)
set_option maxRecDepth 100000 in
theorem okB_147 : okB 147 = true := okB4_ok (by decide +kernel)
set_option maxRecDepth 100000 in
theorem okB_148 : okB 148 = true := okB4_ok (by decide +kernel)
set_option maxRecDepth 100000 in
theorem okB_149 : okB 149 = true := okB4_ok (by decide +kernel)
set_option maxRecDepth 100000 in
theorem okB_150 : okB 150 = true := okB4_ok (by decide +kernel)
set_option maxRecDepth 100000 in
theorem okB_151 : okB 151 = true := okB4_ok (by decide +kernel)
set_option maxRecDepth 100000 in
theorem okB_152 : okB 152 = true := okB4_ok (by decide +kernel)
set_option maxRecDepth 100000 in
theorem okB_153 : okB 153 = true := okB4_ok (by decide +kernel)
set_option maxRecDepth 100000 in
theorem okB_154 : okB 154 = true := okB4_ok (by decide +kernel)
set_option maxRecDepth 100000 in
theorem okB_155 : okB 155 = true := okB4_ok (by decide +kernel)
set_option maxRecDepth 100000 in
theorem okB_156 : okB 156 = true := okB4_ok (by decide +kernel)
set_option maxRecDepth 100000 in
theorem okB_157 : okB 157 = true := okB4_ok (by decide +kernel)
set_option maxRecDepth 100000 in
theorem okB_158 : okB 158 = true := okB4_ok (by decide +kernel)
set_option maxRecDepth 100000 in
theorem okB_159 : okB 159 = true := okB4_ok (by decide +kernel)
set_option maxRecDepth 100000 in
theorem okB_160 : okB 160 = true := okB4_ok (by decide +kernel)
set_option maxRecDepth 100000 in
theorem okB_161 : okB 161 = true := okB4_ok (by decide +kernel)
set_option maxRecDepth 100000 in
theorem okB_162 : okB 162 = true := okB4_ok (by decide +kernel)
set_option maxRecDepth 100000 in
theorem okB_163 : okB 163 = true := okB4_ok (by decide +kernel)
set_option maxRecDepth 100000 in
theorem okB_164 : okB 164 = true := okB4_ok (by decide +kernel)
set_option maxRecDepth 100000 in
theorem okB_165 : okB 165 = true := okB4_ok (by decide +kernel)
set_option maxRecDepth 100000 in
theorem okB_166 : okB 166 = true := okB4_ok (by decide +kernel)
set_option maxRecDepth 100000 in
theorem okB_167 : okB 167 = true := okB4_ok (by decide +kernel)
set_option maxRecDepth 100000 in
theorem okB_168 : okB 168 = true := okB4_ok (by decide +kernel)
set_option maxRecDepth 100000 in
theorem okB_169 : okB 169 = true := okB4_ok (by decide +kernel)
set_option maxRecDepth 100000 in
theorem okB_170 : okB 170 = true := okB4_ok (by decide +kernel)
set_option maxRecDepth 100000 in
theorem okB_171 : okB 171 = true := okB4_ok (by decide +kernel)
set_option maxRecDepth 100000 in
theorem okB_172 : okB 172 = true := okB4_ok (by decide +kernel)
set_option maxRecDepth 100000 in
theorem okB_173 : okB 173 = true := okB4_ok (by decide +kernel)
set_option maxRecDepth 100000 in
theorem okB_174 : okB 174 = true := okB4_ok (by decide +kernel)
set_option maxRecDepth 100000 in
theorem okB_175 : okB 175 = true := okB4_ok (by decide +kernel)
set_option maxRecDepth 100000 in
theorem okB_176 : okB 176 = true := okB4_ok (by decide +kernel)
set_option maxRecDepth 100000 in
theorem okB_177 : okB 177 = true := okB4_ok (by decide +kernel)
set_option maxRecDepth 100000 in
theorem okB_178 : okB 178 = true := okB4_ok (by decide +kernel)
set_option maxRecDepth 100000 in
theorem okB_179 : okB 179 = true := okB4_ok (by decide +kernel)
set_option maxRecDepth 100000 in
theorem okB_180 : okB 180 = true := okB4_ok (by decide +kernel)
set_option maxRecDepth 100000 in
theorem okB_181 : okB 181 = true := okB4_ok (by decide +kernel)
set_option maxRecDepth 100000 in
theorem okB_182 : okB 182 = true := okB4_ok (by decide +kernel)
set_option maxRecDepth 100000 in
theorem okB_183 : okB 183 = true := okB4_ok (by decide +kernel)
set_option maxRecDepth 100000 in
theorem okB_184 : okB 184 = true := okB4_ok (by decide +kernel)
set_option maxRecDepth 100000 in
theorem okB_185 : okB 185 = true := okB4_ok (by decide +kernel)
set_option maxRecDepth 100000 in
theorem okB_186 : okB 186 = true := okB4_ok (by decide +kernel)
set_option maxRecDepth 100000 in
theorem okB_187 : okB 187 = true := okB4_ok (by decide +kernel)
set_option maxRecDepth 100000 in
theorem okB_188 : okB 188 = true := okB4_ok (by decide +kernel)
set_option maxRecDepth 100000 in
theorem okB_189 : okB 189 = true := okB4_ok (by decide +kernel)
set_option maxRecDepth 100000 in
theorem okB_190 : okB 190 = true := okB4_ok (by decide +kernel)
set_option maxRecDepth 100000 in
theorem okB_191 : okB 191 = true := okB4_ok (by decide +kernel)
set_option maxRecDepth 100000 in
theorem okB_192 : okB 192 = true := okB4_ok (by decide +kernel)
set_option maxRecDepth 100000 in
theorem okB_193 : okB 193 = true := okB4_ok (by decide +kernel)
set_option maxRecDepth 100000 in
theorem okB_194 : okB 194 = true := okB4_ok (by decide +kernel)
set_option maxRecDepth 100000 in
theorem okB_195 : okB 195 = true := okB4_ok (by decide +kernel)
set_option maxRecDepth 100000 in
theorem okB_196 : okB 196 = true := okB4_ok (by decide +kernel)
set_option maxRecDepth 100000 in
theorem okB_197 : okB 197 = true := okB4_ok (by decide +kernel)
set_option maxRecDepth 100000 in
theorem okB_198 : okB 198 = true := okB4_ok (by decide +kernel)
set_option maxRecDepth 100000 in
theorem okB_199 : okB 199 = true := okB4_ok (by decide +kernel)
set_option maxRecDepth 100000 in
theorem okB_200 : okB 200 = true := okB4_ok (by decide +kernel)
set_option maxRecDepth 100000 in
theorem okB_201 : okB 201 = true := okB4_ok (by decide +kernel)
set_option maxRecDepth 100000 in
theorem okB_202 : okB 202 = true := okB4_ok (by decide +kernel)
set_option maxRecDepth 100000 in
theorem okB_203 : okB 203 = true := okB4_ok (by decide +kernel)
set_option maxRecDepth 100000 in
theorem okB_204 : okB 204 = true := okB4_ok (by decide +kernel)
set_option maxRecDepth 100000 in
theorem okB_205 : okB 205 = true := okB4_ok (by decide +kernel)
set_option maxRecDepth 100000 in
theorem okB_206 : okB 206 = true := okB4_ok (by decide +kernel)
set_option maxRecDepth 100000 in
theorem okB_207 : okB 207 = true := okB4_ok (by decide +kernel)
set_option maxRecDepth 100000 in
theorem okB_208 : okB 208 = true := okB4_ok (by decide +kernel)
set_option maxRecDepth 100000 in
theorem okB_209 : okB 209 = true := okB4_ok (by decide +kernel)
set_option maxRecDepth 100000 in
theorem okB_210 : okB 210 = true := okB4_ok (by decide +kernel)
set_option maxRecDepth 100000 in
theorem okB_211 : okB 211 = true := okB4_ok (by decide +kernel)
set_option maxRecDepth 100000 in
theorem okB_212 : okB 212 = true := okB4_ok (by decide +kernel)
set_option maxRecDepth 100000 in
theorem okB_213 : okB 213 = true := okB4_ok (by decide +kernel)
set_option maxRecDepth 100000 in
theorem okB_214 : okB 214 = true := okB4_ok (by decide +kernel)
set_option maxRecDepth 100000 in
theorem okB_215 : okB 215 = true := okB4_ok (by decide +kernel)
set_option maxRecDepth 100000 in
theorem okB_216 : okB 216 = true := okB4_ok (by decide +kernel)
set_option maxRecDepth 100000 in
theorem okB_217 : okB 217 = true := okB4_ok (by decide +kernel)
set_option maxRecDepth 100000 in
theorem okB_218 : okB 218 = true := okB4_ok (by decide +kernel)
set_option maxRecDepth 100000 in
theorem okB_219 : okB 219 = true := okB4_ok (by decide +kernel)
set_option maxRecDepth 100000 in
theorem okB_220 : okB 220 = true := okB4_ok (by decide +kernel)
set_option maxRecDepth 100000 in
theorem okB_221 : okB 221 = true := okB4_ok (by decide +kernel)
set_option maxRecDepth 100000 in
theorem okB_222 : okB 222 = true := okB4_ok (by decide +kernel)
set_option maxRecDepth 100000 in
theorem okB_223 : okB 223 = true := okB4_ok (by decide +kernel)
set_option maxRecDepth 100000 in
theorem okB_224 : okB 224 = true := okB4_ok (by decide +kernel)
set_option maxRecDepth 100000 in
theorem okB_225 : okB 225 = true := okB4_ok (by decide +kernel)
set_option maxRecDepth 100000 in
theorem okB_226 : okB 226 = true := okB4_ok (by decide +kernel)
set_option maxRecDepth 100000 in
theorem okB_227 : okB 227 = true := okB4_ok (by decide +kernel)
set_option maxRecDepth 100000 in
theorem okB_228 : okB 228 = true := okB4_ok (by decide +kernel)
set_option maxRecDepth 100000 in
theorem okB_229 : okB 229 = true := okB4_ok (by decide +kernel)
set_option maxRecDepth 100000 in
theorem okB_230 : okB 230 = true := okB4_ok (by decide +kernel)
set_option maxRecDepth 100000 in
theorem okB_231 : okB 231 = true := okB4_ok (by decide +kernel)
set_option maxRecDepth 100000 in
theorem okB_232 : okB 232 = true := okB4_ok (by decide +kernel)
set_option maxRecDepth 100000 in
theorem okB_233 : okB 233 = true := okB4_ok (by decide +kernel)
set_option maxRecDepth 100000 in
theorem okB_234 : okB 234 = true := okB4_ok (by decide +kernel)
set_option maxRecDepth 100000 in
theorem okB_235 : okB 235 = true := okB4_ok (by decide +kernel)
set_option maxRecDepth 100000 in
theorem okB_236 : okB 236 = true := okB4_ok (by decide +kernel)
set_option maxRecDepth 100000 in
theorem okB_237 : okB 237 = true := okB4_ok (by decide +kernel)
set_option maxRecDepth 100000 in
theorem okB_238 : okB 238 = true := okB4_ok (by decide +kernel)
set_option maxRecDepth 100000 in
theorem okB_239 : okB 239 = true := okB4_ok (by decide +kernel)
set_option maxRecDepth 100000 in
theorem okB_240 : okB 240 = true := okB4_ok (by decide +kernel)
set_option maxRecDepth 100000 in
theorem okB_241 : okB 241 = true := okB4_ok (by decide +kernel)
set_option maxRecDepth 100000 in
theorem okB_242 : okB 242 = true := okB4_ok (by decide +kernel)
set_option maxRecDepth 100000 in
theorem okB_243 : okB 243 = true := okB4_ok (by decide +kernel)
set_option maxRecDepth 100000 in
theorem okB_244 : okB 244 = true := okB4_ok (by decide +kernel)
set_option maxRecDepth 100000 in
theorem okB_245 : okB 245 = true := okB4_ok (by decide +kernel)
set_option maxRecDepth 100000 in
theorem okB_246 : okB 246 = true := okB4_ok (by decide +kernel)
set_option maxRecDepth 100000 in
theorem okB_247 : okB 247 = true := okB4_ok (by decide +kernel)
set_option maxRecDepth 100000 in
theorem okB_248 : okB 248 = true := okB4_ok (by decide +kernel)
set_option maxRecDepth 100000 in
theorem okB_249 : okB 249 = true := okB4_ok (by decide +kernel)
set_option maxRecDepth 100000 in
theorem okB_250 : okB 250 = true := okB4_ok (by decide +kernel)
set_option maxRecDepth 100000 in
theorem okB_251 : okB 251 = true := okB4_ok (by decide +kernel)
set_option maxRecDepth 100000 in
theorem okB_252 : okB 252 = true := okB4_ok (by decide +kernel)
set_option maxRecDepth 100000 in
theorem okB_253 : okB 253 = true := okB4_ok (by decide +kernel)
set_option maxRecDepth 100000 in
theorem okB_254 : okB 254 = true := okB4_ok (by decide +kernel)
set_option maxRecDepth 100000 in
theorem okB_255 : okB 255 = true := okB4_ok (by decide +kernel)
set_option maxRecDepth 100000 in
theorem okB_256 : okB 256 = true := okB4_ok (by decide +kernel)
set_option maxRecDepth 100000 in
theorem okB_257 : okB 257 = true := okB4_ok (by decide +kernel)
set_option maxRecDepth 100000 in
theorem okB_258 : okB 258 = true := okB4_ok (by decide +kernel)
set_option maxRecDepth 100000 in
theorem okB_259 : okB 259 = true := okB4_ok (by decide +kernel)
set_option maxRecDepth 100000 in
theorem okB_260 : okB 260 = true := okB4_ok (by decide +kernel)
set_option maxRecDepth 100000 in
theorem okB_261 : okB 261 = true := okB4_ok (by decide +kernel)
set_option maxRecDepth 100000 in
theorem okB_262 : okB 262 = true := okB4_ok (by decide +kernel)
set_option maxRecDepth 100000 in
theorem okB_263 : okB 263 = true := okB4_ok (by decide +kernel)
set_option maxRecDepth 100000 in
theorem okB_264 : okB 264 = true := okB4_ok (by decide +kernel)
set_option maxRecDepth 100000 in
theorem okB_265 : okB 265 = true := okB4_ok (by decide +kernel)
set_option maxRecDepth 100000 in
theorem okB_266 : okB 266 = true := okB4_ok (by decide +kernel)
set_option maxRecDepth 100000 in
theorem okB_267 : okB 267 = true := okB4_ok (by decide +kernel)
set_option maxRecDepth 100000 in
theorem okB_268 : okB 268 = true := okB4_ok (by decide +kernel)
set_option maxRecDepth 100000 in
theorem okB_269 : okB 269 = true := okB4_ok (by decide +kernel)
set_option maxRecDepth 100000 in
theorem okB_270 : okB 270 = true := okB4_ok (by decide +kernel)
set_option maxRecDepth 100000 in
theorem okB_271 : okB 271 = true := okB4_ok (by decide +kernel)
set_option maxRecDepth 100000 in
theorem okB_272 : okB 272 = true := okB4_ok (by decide +kernel)
set_option maxRecDepth 100000 in
theorem okB_273 : okB 273 = true := okB4_ok (by decide +kernel)
set_option maxRecDepth 100000 in
theorem okB_274 : okB 274 = true := okB4_ok (by decide +kernel)
set_option maxRecDepth 100000 in
theorem okB_275 : okB 275 = true := okB4_ok (by decide +kernel)
set_option maxRecDepth 100000 in
theorem okB_276 : okB 276 = true := okB4_ok (by decide +kernel)
set_option maxRecDepth 100000 in
theorem okB_277 : okB 277 = true := okB4_ok (by decide +kernel)
set_option maxRecDepth 100000 in
theorem okB_278 : okB 278 = true := okB4_ok (by decide +kernel)
set_option maxRecDepth 100000 in
theorem okB_279 : okB 279 = true := okB4_ok (by decide +kernel)
set_option maxRecDepth 100000 in
theorem okB_280 : okB 280 = true := okB4_ok (by decide +kernel)
set_option maxRecDepth 100000 in
theorem okB_281 : okB 281 = true := okB4_ok (by decide +kernel)
set_option maxRecDepth 100000 in
theorem okB_282 : okB 282 = true := okB4_ok (by decide +kernel)
set_option maxRecDepth 100000 in
theorem okB_283 : okB 283 = true := okB4_ok (by decide +kernel)
set_option maxRecDepth 100000 in
theorem okB_284 : okB 284 = true := okB4_ok (by decide +kernel)
set_option maxRecDepth 100000 in
theorem okB_285 : okB 285 = true := okB4_ok (by decide +kernel)
set_option maxRecDepth 100000 in
theorem okB_286 : okB 286 = true := okB4_ok (by decide +kernel)
set_option maxRecDepth 100000 in
theorem okB_287 : okB 287 = true := okB4_ok (by decide +kernel)
set_option maxRecDepth 100000 in
theorem okB_288 : okB 288 = true := okB4_ok (by decide +kernel)
set_option maxRecDepth 100000 in
theorem okB_289 : okB 289 = true := okB4_ok (by decide +kernel)
set_option maxRecDepth 100000 in
theorem okB_290 : okB 290 = true := okB4_ok (by decide +kernel)
set_option maxRecDepth 100000 in
theorem okB_291 : okB 291 = true := okB4_ok (by decide +kernel)
set_option maxRecDepth 100000 in
theorem okB_292 : okB 292 = true := okB4_ok (by decide +kernel)
set_option maxRecDepth 100000 in
theorem okB_293 : okB 293 = true := okB4_ok (by decide +kernel)
set_option maxRecDepth 100000 in
theorem okB_294 : okB 294 = true := okB4_ok (by decide +kernel)
set_option maxRecDepth 100000 in
theorem okB_295 : okB 295 = true := okB4_ok (by decide +kernel)
set_option maxRecDepth 100000 in
theorem okB_296 : okB 296 = true := okB4_ok (by decide +kernel)
set_option maxRecDepth 100000 in
theorem okB_297 : okB 297 = true := okB4_ok (by decide +kernel)
set_option maxRecDepth 100000 in
theorem okB_298 : okB 298 = true := okB4_ok (by decide +kernel)
set_option maxRecDepth 100000 in
theorem okB_299 : okB 299 = true := okB4_ok (by decide +kernel)
set_option maxRecDepth 100000 in
theorem okB_300 : okB 300 = true := okB4_ok (by decide +kernel)
set_option maxRecDepth 100000 in
theorem okB_301 : okB 301 = true := okB4_ok (by decide +kernel)
set_option maxRecDepth 100000 in
theorem okB_302 : okB 302 = true := okB4_ok (by decide +kernel)
set_option maxRecDepth 100000 in
theorem okB_303 : okB 303 = true := okB4_ok (by decide +kernel)
set_option maxRecDepth 100000 in
theorem okB_304 : okB 304 = true := okB4_ok (by decide +kernel)
set_option maxRecDepth 100000 in
theorem okB_305 : okB 305 = true := okB4_ok (by decide +kernel)
set_option maxRecDepth 100000 in
theorem okB_306 : okB 306 = true := okB4_ok (by decide +kernel)
set_option maxRecDepth 100000 in
theorem okB_307 : okB 307 = true := okB4_ok (by decide +kernel)
set_option maxRecDepth 100000 in
theorem okB_308 : okB 308 = true := okB4_ok (by decide +kernel)
set_option maxRecDepth 100000 in
theorem okB_309 : okB 309 = true := okB4_ok (by decide +kernel)
set_option maxRecDepth 100000 in
theorem okB_310 : okB 310 = true := okB4_ok (by decide +kernel)
set_option maxRecDepth 100000 in
theorem okB_311 : okB 311 = true := okB4_ok (by decide +kernel)
set_option maxRecDepth 100000 in
theorem okB_312 : okB 312 = true := okB4_ok (by decide +kernel)
set_option maxRecDepth 100000 in
theorem okB_313 : okB 313 = true := okB4_ok (by decide +kernel)
set_option maxRecDepth 100000 in
theorem okB_314 : okB 314 = true := okB4_ok (by decide +kernel)
set_option maxRecDepth 100000 in
theorem okB_315 : okB 315 = true := okB4_ok (by decide +kernel)
set_option maxRecDepth 100000 in
theorem okB_316 : okB 316 = true := okB4_ok (by decide +kernel)
set_option maxRecDepth 100000 in
theorem okB_317 : okB 317 = true := okB4_ok (by decide +kernel)
set_option maxRecDepth 100000 in
theorem okB_318 : okB 318 = true := okB4_ok (by decide +kernel)
set_option maxRecDepth 100000 in
theorem okB_319 : okB 319 = true := okB4_ok (by decide +kernel)
set_option maxRecDepth 100000 in
theorem okB_320 : okB 320 = true := okB4_ok (by decide +kernel)
set_option maxRecDepth 100000 in
theorem okB_321 : okB 321 = true := okB4_ok (by decide +kernel)
set_option maxRecDepth 100000 in
theorem okB_322 : okB 322 = true := okB4_ok (by decide +kernel)
set_option maxRecDepth 100000 in
theorem okB_323 : okB 323 = true := okB4_ok (by decide +kernel)
set_option maxRecDepth 100000 in
theorem okB_324 : okB 324 = true := okB4_ok (by decide +kernel)
set_option maxRecDepth 100000 in
theorem okB_325 : okB 325 = true := okB4_ok (by decide +kernel)
set_option maxRecDepth 100000 in
theorem okB_326 : okB 326 = true := okB4_ok (by decide +kernel)
set_option maxRecDepth 100000 in
theorem okB_327 : okB 327 = true := okB4_ok (by decide +kernel)
set_option maxRecDepth 100000 in
theorem okB_328 : okB 328 = true := okB4_ok (by decide +kernel)
set_option maxRecDepth 100000 in
theorem okB_329 : okB 329 = true := okB4_ok (by decide +kernel)
set_option maxRecDepth 100000 in
theorem okB_330 : okB 330 = true := okB4_ok (by decide +kernel)
set_option maxRecDepth 100000 in
theorem okB_331 : okB 331 = true := okB4_ok (by decide +kernel)
set_option maxRecDepth 100000 in
theorem okB_332 : okB 332 = true := okB4_ok (by decide +kernel)
set_option maxRecDepth 100000 in
theorem okB_333 : okB 333 = true := okB4_ok (by decide +kernel)
set_option maxRecDepth 100000 in
theorem okB_334 : okB 334 = true := okB4_ok (by decide +kernel)
set_option maxRecDepth 100000 in
theorem okB_335 : okB 335 = true := okB4_ok (by decide +kernel)
set_option maxRecDepth 100000 in
theorem okB_336 : okB 336 = true := okB4_ok (by decide +kernel)
set_option maxRecDepth 100000 in
theorem okB_337 : okB 337 = true := okB4_ok (by decide +kernel)
set_option maxRecDepth 100000 in
theorem okB_338 : okB 338 = true := okB4_ok (by decide +kernel)
set_option maxRecDepth 100000 in
theorem okB_339 : okB 339 = true := okB4_ok (by decide +kernel)
set_option maxRecDepth 100000 in
theorem okB_340 : okB 340 = true := okB4_ok (by decide +kernel)
set_option maxRecDepth 100000 in
theorem okB_341 : okB 341 = true := okB4_ok (by decide +kernel)
set_option maxRecDepth 100000 in
theorem okB_342 : okB 342 = true := okB4_ok (by decide +kernel)
set_option maxRecDepth 100000 in
theorem okB_343 : okB 343 = true := okB4_ok (by decide +kernel)
set_option maxRecDepth 100000 in
theorem okB_344 : okB 344 = true := okB4_ok (by decide +kernel)
set_option maxRecDepth 100000 in
theorem okB_345 : okB 345 = true := okB4_ok (by decide +kernel)
set_option maxRecDepth 100000 in
theorem okB_346 : okB 346 = true := okB4_ok (by decide +kernel)
set_option maxRecDepth 100000 in
theorem okB_347 : okB 347 = true := okB4_ok (by decide +kernel)
set_option maxRecDepth 100000 in
theorem okB_348 : okB 348 = true := okB4_ok (by decide +kernel)
set_option maxRecDepth 100000 in
theorem okB_349 : okB 349 = true := okB4_ok (by decide +kernel)
set_option maxRecDepth 100000 in
theorem okB_350 : okB 350 = true := okB4_ok (by decide +kernel)
set_option maxRecDepth 100000 in
theorem okB_351 : okB 351 = true := okB4_ok (by decide +kernel)
set_option maxRecDepth 100000 in
theorem okB_352 : okB 352 = true := okB4_ok (by decide +kernel)
set_option maxRecDepth 100000 in
theorem okB_353 : okB 353 = true := okB4_ok (by decide +kernel)
theorem okBT_40 : ∀ y, y < 40 → okB y = true := (lt_s (lt_s (lt_s (lt_s (lt_s (lt_s (lt_s (lt_s (lt_s (lt_s (lt_s (lt_s (lt_s (lt_s (lt_s (lt_s (lt_s (lt_s (lt_s (lt_s (lt_s (lt_s (lt_s (lt_s (lt_s (lt_s (lt_s (lt_s (lt_s (lt_s (lt_s (lt_s (lt_s (lt_s (lt_s (lt_s (lt_s (lt_s (lt_s (lt_s lt_0 (okB_0)) (okB_1)) (okB_2)) (okB_3)) (okB_4)) (okB_5)) (okB_6)) (okB_7)) (okB_8)) (okB_9)) (okB_10)) (okB_11)) (okB_12)) (okB_13)) (okB_14)) (okB_15)) (okB_16)) (okB_17)) (okB_18)) (okB_19)) (okB_20)) (okB_21)) (okB_22)) (okB_23)) (okB_24)) (okB_25)) (okB_26)) (okB_27)) (okB_28)) (okB_29)) (okB_30)) (okB_31)) (okB_32)) (okB_33)) (okB_34)) (okB_35)) (okB_36)) (okB_37)) (okB_38)) (okB_39))
theorem okBT_80 : ∀ y, y < 80 → okB y = true := (lt_s (lt_s (lt_s (lt_s (lt_s (lt_s (lt_s (lt_s (lt_s (lt_s (lt_s (lt_s (lt_s (lt_s (lt_s (lt_s (lt_s (lt_s (lt_s (lt_s (lt_s (lt_s (lt_s (lt_s (lt_s (lt_s (lt_s (lt_s (lt_s (lt_s (lt_s (lt_s (lt_s (lt_s (lt_s (lt_s (lt_s (lt_s (lt_s (lt_s okBT_40 (okB_40)) (okB_41)) (okB_42)) (okB_43)) (okB_44)) (okB_45)) (okB_46)) (okB_47)) (okB_48)) (okB_49)) (okB_50)) (okB_51)) (okB_52)) (okB_53)) (okB_54)) (okB_55)) (okB_56)) (okB_57)) (okB_58)) (okB_59)) (okB_60)) (okB_61)) (okB_62)) (okB_63)) (okB_64)) (okB_65)) (okB_66)) (okB_67)) (okB_68)) (okB_69)) (okB_70)) (okB_71)) (okB_72)) (okB_73)) (okB_74)) (okB_75)) (okB_76)) (okB_77)) (okB_78)) (okB_79))
theorem okBT_120 : ∀ y, y < 120 → okB y = true := (lt_s (lt_s (lt_s (lt_s (lt_s (lt_s (lt_s (lt_s (lt_s (lt_s (lt_s (lt_s (lt_s (lt_s (lt_s (lt_s (lt_s (lt_s (lt_s (lt_s (lt_s (lt_s (lt_s (lt_s (lt_s (lt_s (lt_s (lt_s (lt_s (lt_s (lt_s (lt_s (lt_s (lt_s (lt_s (lt_s (lt_s (lt_s (lt_s (lt_s okBT_80 (okB_80)) (okB_81)) (okB_82)) (okB_83)) (okB_84)) (okB_85)) (okB_86)) (okB_87)) (okB_88)) (okB_89)) (okB_90)) (okB_91)) (okB_92)) (okB_93)) (okB_94)) (okB_95)) (okB_96)) (okB_97)) (okB_98)) (okB_99)) (okB_100)) (okB_101)) (okB_102)) (okB_103)) (okB_104)) (okB_105)) (okB_106)) (okB_107)) (okB_108)) (okB_109)) (okB_110)) (okB_111)) (okB_112)) (okB_113)) (okB_114)) (okB_115)) (okB_116)) (okB_117)) (okB_118)) (okB_119))
theorem okBT_160 : ∀ y, y < 160 → okB y = true := (lt_s (lt_s (lt_s (lt_s (lt_s (lt_s (lt_s (lt_s (lt_s (lt_s (lt_s (lt_s (lt_s (lt_s (lt_s (lt_s (lt_s (lt_s (lt_s (lt_s (lt_s (lt_s (lt_s (lt_s (lt_s (lt_s (lt_s (lt_s (lt_s (lt_s (lt_s (lt_s (lt_s (lt_s (lt_s (lt_s (lt_s (lt_s (lt_s (lt_s okBT_120 (okB_120)) (okB_121)) (okB_122)) (okB_123)) (okB_124)) (okB_125)) (okB_126)) (okB_127)) (okB_128)) (okB_129)) (okB_130)) (okB_131)) (okB_132)) (okB_133)) (okB_134)) (okB_135)) (okB_136)) (okB_137)) (okB_138)) (okB_139)) (okB_140)) (okB_141)) (okB_142)) (okB_143)) (okB_144)) (okB_145)) (okB_146)) (okB_147)) (okB_148)) (okB_149)) (okB_150)) (okB_151)) (okB_152)) (okB_153)) (okB_154)) (okB_155)) (okB_156)) (okB_157)) (okB_158)) (okB_159))
theorem okBT_200 : ∀ y, y < 200 → okB y = true := (lt_s (lt_s (lt_s (lt_s (lt_s (lt_s (lt_s (lt_s (lt_s (lt_s (lt_s (lt_s (lt_s (lt_s (lt_s (lt_s (lt_s (lt_s (lt_s (lt_s (lt_s (lt_s (lt_s (lt_s (lt_s (lt_s (lt_s (lt_s (lt_s (lt_s (lt_s (lt_s (lt_s (lt_s (lt_s (lt_s (lt_s (lt_s (lt_s (lt_s okBT_160 (okB_160)) (okB_161)) (okB_162)) (okB_163)) (okB_164)) (okB_165)) (okB_166)) (okB_167)) (okB_168)) (okB_169)) (okB_170)) (okB_171)) (okB_172)) (okB_173)) (okB_174)) (okB_175)) (okB_176)) (okB_177)) (okB_178)) (okB_179)) (okB_180)) (okB_181)) (okB_182)) (okB_183)) (okB_184)) (okB_185)) (okB_186)) (okB_187)) (okB_188)) (okB_189)) (okB_190)) (okB_191)) (okB_192)) (okB_193)) (okB_194)) (okB_195)) (okB_196)) (okB_197)) (okB_198)) (okB_199))
theorem okBT_240 : ∀ y, y < 240 → okB y = true := (lt_s (lt_s (lt_s (lt_s (lt_s (lt_s (lt_s (lt_s (lt_s (lt_s (lt_s (lt_s (lt_s (lt_s (lt_s (lt_s (lt_s (lt_s (lt_s (lt_s (lt_s (lt_s (lt_s (lt_s (lt_s (lt_s (lt_s (lt_s (lt_s (lt_s (lt_s (lt_s (lt_s (lt_s (lt_s (lt_s (lt_s (lt_s (lt_s (lt_s okBT_200 (okB_200)) (okB_201)) (okB_202)) (okB_203)) (okB_204)) (okB_205)) (okB_206)) (okB_207)) (okB_208)) (okB_209)) (okB_210)) (okB_211)) (okB_212)) (okB_213)) (okB_214)) (okB_215)) (okB_216)) (okB_217)) (okB_218)) (okB_219)) (okB_220)) (okB_221)) (okB_222)) (okB_223)) (okB_224)) (okB_225)) (okB_226)) (okB_227)) (okB_228)) (okB_229)) (okB_230)) (okB_231)) (okB_232)) (okB_233)) (okB_234)) (okB_235)) (okB_236)) (okB_237)) (okB_238)) (okB_239))
theorem okBT_280 : ∀ y, y < 280 → okB y = true := (lt_s (lt_s (lt_s (lt_s (lt_s (lt_s (lt_s (lt_s (lt_s (lt_s (lt_s (lt_s (lt_s (lt_s (lt_s (lt_s (lt_s (lt_s (lt_s (lt_s (lt_s (lt_s (lt_s (lt_s (lt_s (lt_s (lt_s (lt_s (lt_s (lt_s (lt_s (lt_s (lt_s (lt_s (lt_s (lt_s (lt_s (lt_s (lt_s (lt_s okBT_240 (okB_240)) (okB_241)) (okB_242)) (okB_243)) (okB_244)) (okB_245)) (okB_246)) (okB_247)) (okB_248)) (okB_249)) (okB_250)) (okB_251)) (okB_252)) (okB_253)) (okB_254)) (okB_255)) (okB_256)) (okB_257)) (okB_258)) (okB_259)) (okB_260)) (okB_261)) (okB_262)) (okB_263)) (okB_264)) (okB_265)) (okB_266)) (okB_267)) (okB_268)) (okB_269)) (okB_270)) (okB_271)) (okB_272)) (okB_273)) (okB_274)) (okB_275)) (okB_276)) (okB_277)) (okB_278)) (okB_279))
theorem okBT_320 : ∀ y, y < 320 → okB y = true := (lt_s (lt_s (lt_s (lt_s (lt_s (lt_s (lt_s (lt_s (lt_s (lt_s (lt_s (lt_s (lt_s (lt_s (lt_s (lt_s (lt_s (lt_s (lt_s (lt_s (lt_s (lt_s (lt_s (lt_s (lt_s (lt_s (lt_s (lt_s (lt_s (lt_s (lt_s (lt_s (lt_s (lt_s (lt_s (lt_s (lt_s (lt_s (lt_s (lt_s okBT_280 (okB_280)) (okB_281)) (okB_282)) (okB_283)) (okB_284)) (okB_285)) (okB_286)) (okB_287)) (okB_288)) (okB_289)) (okB_290)) (okB_291)) (okB_292)) (okB_293)) (okB_294)) (okB_295)) (okB_296)) (okB_297)) (okB_298)) (okB_299)) (okB_300)) (okB_301)) (okB_302)) (okB_303)) (okB_304)) (okB_305)) (okB_306)) (okB_307)) (okB_308)) (okB_309)) (okB_310)) (okB_311)) (okB_312)) (okB_313)) (okB_314)) (okB_315)) (okB_316)) (okB_317)) (okB_318)) (okB_319))
theorem okBT_354 : ∀ y, y < 354 → okB y = true := (lt_s (lt_s (lt_s (lt_s (lt_s (lt_s (lt_s (lt_s (lt_s (lt_s (lt_s (lt_s (lt_s (lt_s (lt_s (lt_s (lt_s (lt_s (lt_s (lt_s (lt_s (lt_s (lt_s (lt_s (lt_s (lt_s (lt_s (lt_s (lt_s (lt_s (lt_s (lt_s (lt_s (lt_s okBT_320 (okB_320)) (okB_321)) (okB_322)) (okB_323)) (okB_324)) (okB_325)) (okB_326)) (okB_327)) (okB_328)) (okB_329)) (okB_330)) (okB_331)) (okB_332)) (okB_333)) (okB_334)) (okB_335)) (okB_336)) (okB_337)) (okB_338)) (okB_339)) (okB_340)) (okB_341)) (okB_342)) (okB_343)) (okB_344)) (okB_345)) (okB_346)) (okB_347)) (okB_348)) (okB_349)) (okB_350)) (okB_351)) (okB_352)) (okB_353))
theorem okBT_at {y : Nat} (h : y < 354) : okB y = true := okBT_354 y h
