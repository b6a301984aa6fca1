/-! every table entry is what the bytes say -/
set_option maxRecDepth 100000 in
theorem okB_0 : okB 0 = true := okB2_ok (g := bytN (mB 0)) rfl (by decide +kernel)
set_option maxRecDepth 100000 in
theorem okB_1 : okB 1 = true := okB2_ok (g := bytN (mB 1)) rfl (by decide +kernel)
set_option maxRecDepth 100000 in
theorem okB_2 : okB 2 = true := okB2_ok (g := bytN (mB 2)) rfl (by decide +kernel)
set_option maxRecDepth 100000 in
theorem okB_3 : okB 3 = true := okB2_ok (g := bytN (mB 3)) rfl (by decide +kernel)
set_option maxRecDepth 100000 in
theorem okB_4 : okB 4 = true := okB2_ok (g := bytN (mB 4)) rfl (by decide +kernel)
set_option maxRecDepth 100000 in
theorem okB_5 : okB 5 = true := okB2_ok (g := bytN (mB 5)) rfl (by decide +kernel)
set_option maxRecDepth 100000 in
theorem okB_6 : okB 6 = true := okB2_ok (g := bytN (mB 6)) rfl (by decide +kernel)
set_option maxRecDepth 100000 in
theorem okB_7 : okB 7 = true := okB2_ok (g := bytN (mB 7)) rfl (by decide +kernel)
set_option maxRecDepth 100000 in
theorem okB_8 : okB 8 = true := okB2_ok (g := bytN (mB 8)) rfl (by decide +kernel)
set_option maxRecDepth 100000 in
theorem okB_9 : okB 9 = true := okB2_ok (g := bytN (mB 9)) rfl (by decide +kernel)
set_option maxRecDepth 100000 in
theorem okB_10 : okB 10 = true := okB2_ok (g := bytN (mB 10)) rfl (by decide +kernel)
set_option maxRecDepth 100000 in
theorem okB_11 : okB 11 = true := okB2_ok (g := bytN (mB 11)) rfl (by decide +kernel)
set_option maxRecDepth 100000 in
theorem okB_12 : okB 12 = true := okB2_ok (g := bytN (mB 12)) rfl (by decide +kernel)
set_option maxRecDepth 100000 in
theorem okB_13 : okB 13 = true := okB2_ok (g := bytN (mB 13)) rfl (by decide +kernel)
set_option maxRecDepth 100000 in
theorem okB_14 : okB 14 = true := okB2_ok (g := bytN (mB 14)) rfl (by decide +kernel)
set_option maxRecDepth 100000 in
theorem okB_15 : okB 15 = true := okB2_ok (g := bytN (mB 15)) rfl (by decide +kernel)
set_option maxRecDepth 100000 in
theorem okB_16 : okB 16 = true := okB2_ok (g := bytN (mB 16)) rfl (by decide +kernel)
set_option maxRecDepth 100000 in
theorem okB_17 : okB 17 = true := okB2_ok (g := bytN (mB 17)) rfl (by decide +kernel)
set_option maxRecDepth 100000 in
theorem okB_18 : okB 18 = true := okB2_ok (g := bytN (mB 18)) rfl (by decide +kernel)
set_option maxRecDepth 100000 in
theorem okB_19 : okB 19 = true := okB2_ok (g := bytN (mB 19)) rfl (by decide +kernel)
set_option maxRecDepth 100000 in
theorem okB_20 : okB 20 = true := okB2_ok (g := bytN (mB 20)) rfl (by decide +kernel)
set_option maxRecDepth 100000 in
theorem okB_21 : okB 21 = true := okB2_ok (g := bytN (mB 21)) rfl (by decide +kernel)
set_option maxRecDepth 100000 in
theorem okB_22 : okB 22 = true := okB2_ok (g := bytN (mB 22)) rfl (by decide +kernel)
set_option maxRecDepth 100000 in
theorem okB_23 : okB 23 = true := okB2_ok (g := bytN (mB 23)) rfl (by decide +kernel)
set_option maxRecDepth 100000 in
theorem okB_24 : okB 24 = true := okB2_ok (g := bytN (mB 24)) rfl (by decide +kernel)
set_option maxRecDepth 100000 in
theorem okB_25 : okB 25 = true := okB2_ok (g := bytN (mB 25)) rfl (by decide +kernel)
set_option maxRecDepth 100000 in
theorem okB_26 : okB 26 = true := okB2_ok (g := bytN (mB 26)) rfl (by decide +kernel)
set_option maxRecDepth 100000 in
theorem okB_27 : okB 27 = true := okB2_ok (g := bytN (mB 27)) rfl (by decide +kernel)
set_option maxRecDepth 100000 in
theorem okB_28 : okB 28 = true := okB2_ok (g := bytN (mB 28)) rfl (by decide +kernel)
set_option maxRecDepth 100000 in
theorem okB_29 : okB 29 = true := okB2_ok (g := bytN (mB 29)) rfl (by decide +kernel)
set_option maxRecDepth 100000 in
theorem okB_30 : okB 30 = true := okB2_ok (g := bytN (mB 30)) rfl (by decide +kernel)
set_option maxRecDepth 100000 in
theorem okB_31 : okB 31 = true := okB2_ok (g := bytN (mB 31)) rfl (by decide +kernel)
set_option maxRecDepth 100000 in
theorem okB_32 : okB 32 = true := okB2_ok (g := bytN (mB 32)) rfl (by decide +kernel)
set_option maxRecDepth 100000 in
theorem okB_33 : okB 33 = true := okB2_ok (g := bytN (mB 33)) rfl (by decide +kernel)
set_option maxRecDepth 100000 in
theorem okB_34 : okB 34 = true := okB2_ok (g := bytN (mB 34)) rfl (by decide +kernel)
set_option maxRecDepth 100000 in
theorem okB_35 : okB 35 = true := okB2_ok (g := bytN (mB 35)) rfl (by decide +kernel)
set_option maxRecDepth 100000 in
theorem okB_36 : okB 36 = true := okB2_ok (g := bytN (mB 36)) rfl (by decide +kernel)
set_option maxRecDepth 100000 in
theorem okB_37 : okB 37 = true := okB2_ok (g := bytN (mB 37)) rfl (by decide +kernel)
set_option maxRecDepth 100000 in
theorem okB_38 : okB 38 = true := okB2_ok (g := bytN (mB 38)) rfl (by decide +kernel)
set_option maxRecDepth 100000 in
theorem okB_39 : okB 39 = true := okB2_ok (g := bytN (mB 39)) rfl (by decide +kernel)
set_option maxRecDepth 100000 in
theorem okB_40 : okB 40 = true := okB2_ok (g := bytN (mB 40)) rfl (by decide +kernel)
set_option maxRecDepth 100000 in
theorem okB_41 : okB 41 = true := okB2_ok (g := bytN (mB 41)) rfl (by decide +kernel)
set_option maxRecDepth 100000 in
theorem okB_42 : okB 42 = true := okB2_ok (g := bytN (mB 42)) rfl (by decide +kernel)
set_option maxRecDepth 100000 in
theorem okB_43 : okB 43 = true := okB2_ok (g := bytN (mB 43)) rfl (by decide +kernel)
set_option maxRecDepth 100000 in
theorem okB_44 : okB 44 = true := okB2_ok (g := bytN (mB 44)) rfl (by decide +kernel)
set_option maxRecDepth 100000 in
theorem okB_45 : okB 45 = true := okB2_ok (g := bytN (mB 45)) rfl (by decide +kernel)
set_option maxRecDepth 100000 in
theorem okB_46 : okB 46 = true := okB2_ok (g := bytN (mB 46)) rfl (by decide +kernel)
set_option maxRecDepth 100000 in
theorem okB_47 : okB 47 = true := okB2_ok (g := bytN (mB 47)) rfl (by decide +kernel)
set_option maxRecDepth 100000 in
theorem okB_48 : okB 48 = true := okB2_ok (g := bytN (mB 48)) rfl (by decide +kernel)
set_option maxRecDepth 100000 in
theorem okB_49 : okB 49 = true := okB2_ok (g := bytN (mB 49)) rfl (by decide +kernel)
set_option maxRecDepth 100000 in
theorem okB_50 : okB 50 = true := okB2_ok (g := bytN (mB 50)) rfl (by decide +kernel)
set_option maxRecDepth 100000 in
theorem okB_51 : okB 51 = true := okB2_ok (g := bytN (mB 51)) rfl (by decide +kernel)
set_option maxRecDepth 100000 in
theorem okB_52 : okB 52 = true := okB2_ok (g := bytN (mB 52)) rfl (by decide +kernel)
set_option maxRecDepth 100000 in
theorem okB_53 : okB 53 = true := okB2_ok (g := bytN (mB 53)) rfl (by decide +kernel)
set_option maxRecDepth 100000 in
theorem okB_54 : okB 54 = true := okB2_ok (g := bytN (mB 54)) rfl (by decide +kernel)
set_option maxRecDepth 100000 in
theorem okB_55 : okB 55 = true := okB2_ok (g := bytN (mB 55)) rfl (by decide +kernel)
set_option maxRecDepth 100000 in
theorem okB_56 : okB 56 = true := okB2_ok (g := bytN (mB 56)) rfl (by decide +kernel)
set_option maxRecDepth 100000 in
theorem okB_57 : okB 57 = true := okB2_ok (g := bytN (mB 57)) rfl (by decide +kernel)
set_option maxRecDepth 100000 in
theorem okB_58 : okB 58 = true := okB2_ok (g := bytN (mB 58)) rfl (by decide +kernel)
set_option maxRecDepth 100000 in
theorem okB_59 : okB 59 = true := okB2_ok (g := bytN (mB 59)) rfl (by decide +kernel)
set_option maxRecDepth 100000 in
theorem okB_60 : okB 60 = true := okB2_ok (g := bytN (mB 60)) rfl (by decide +kernel)
set_option maxRecDepth 100000 in
theorem okB_61 : okB 61 = true := okB2_ok (g := bytN (mB 61)) rfl (by decide +kernel)
set_option maxRecDepth 100000 in
theorem okB_62 : okB 62 = true := okB2_ok (g := bytN (mB 62)) rfl (by decide +kernel)
set_option maxRecDepth 100000 in
theorem okB_63 : okB 63 = true := okB2_ok (g := bytN (mB 63)) rfl (by decide +kernel)
set_option maxRecDepth 100000 in
theorem okB_64 : okB 64 = true := okB2_ok (g := bytN (mB 64)) rfl (by decide +kernel)
set_option maxRecDepth 100000 in
theorem okB_65 : okB 65 = true := okB2_ok (g := bytN (mB 65)) rfl (by decide +kernel)
set_option maxRecDepth 100000 in
theorem okB_66 : okB 66 = true := okB2_ok (g := bytN (mB 66)) rfl (by decide +kernel)
set_option maxRecDepth 100000 in
theorem okB_67 : okB 67 = true := okB2_ok (g := bytN (mB 67)) rfl (by decide +kernel)
set_option maxRecDepth 100000 in
theorem okB_68 : okB 68 = true := okB2_ok (g := bytN (mB 68)) rfl (by decide +kernel)
set_option maxRecDepth 100000 in
theorem okB_69 : okB 69 = true := okB2_ok (g := bytN (mB 69)) rfl (by decide +kernel)
set_option maxRecDepth 100000 in
theorem okB_70 : okB 70 = true := okB2_ok (g := bytN (mB 70)) rfl (by decide +kernel)
set_option maxRecDepth 100000 in
theorem okB_71 : okB 71 = true := okB2_ok (g := bytN (mB 71)) rfl (by decide +kernel)
set_option maxRecDepth 100000 in
theorem okB_72 : okB 72 = true := okB2_ok (g := bytN (mB 72)) rfl (by decide +kernel)
set_option maxRecDepth 100000 in
theorem okB_73 : okB 73 = true := okB2_ok (g := bytN (mB 73)) rfl (by decide +kernel)
set_option maxRecDepth 100000 in
theorem okB_74 : okB 74 = true := okB2_ok (g := bytN (mB 74)) rfl (by decide +kernel)
set_option maxRecDepth 100000 in
theorem okB_75 : okB 75 = true := okB2_ok (g := bytN (mB 75)) rfl (by decide +kernel)
set_option maxRecDepth 100000 in
theorem okB_76 : okB 76 = true := okB2_ok (g := bytN (mB 76)) rfl (by decide +kernel)
set_option maxRecDepth 100000 in
theorem okB_77 : okB 77 = true := okB2_ok (g := bytN (mB 77)) rfl (by decide +kernel)
set_option maxRecDepth 100000 in
theorem okB_78 : okB 78 = true := okB2_ok (g := bytN (mB 78)) rfl (by decide +kernel)
set_option maxRecDepth 100000 in
theorem okB_79 : okB 79 = true := okB2_ok (g := bytN (mB 79)) rfl (by decide +kernel)
set_option maxRecDepth 100000 in
theorem okB_80 : okB 80 = true := okB2_ok (g := bytN (mB 80)) rfl (by decide +kernel)
set_option maxRecDepth 100000 in
theorem okB_81 : okB 81 = true := okB2_ok (g := bytN (mB 81)) rfl (by decide +kernel)
set_option maxRecDepth 100000 in
theorem okB_82 : okB 82 = true := okB2_ok (g := bytN (mB 82)) rfl (by decide +kernel)
set_option maxRecDepth 100000 in
theorem okB_83 : okB 83 = true := okB2_ok (g := bytN (mB 83)) rfl (by decide +kernel)
set_option maxRecDepth 100000 in
theorem okB_84 : okB 84 = true := okB2_ok (g := bytN (mB 84)) rfl (by decide +kernel)
set_option maxRecDepth 100000 in
theorem okB_85 : okB 85 = true := okB2_ok (g := bytN (mB 85)) rfl (by decide +kernel)
set_option maxRecDepth 100000 in
theorem okB_86 : okB 86 = true := okB2_ok (g := bytN (mB 86)) rfl (by decide +kernel)
set_option maxRecDepth 100000 in
theorem okB_87 : okB 87 = true := okB2_ok (g := bytN (mB 87)) rfl (by decide +kernel)
set_option maxRecDepth 100000 in
theorem okB_88 : okB 88 = true := okB2_ok (g := bytN (mB 88)) rfl (by decide +kernel)
set_option maxRecDepth 100000 in
theorem okB_89 : okB 89 = true := okB2_ok (g := bytN (mB 89)) rfl (by decide +kernel)
set_option maxRecDepth 100000 in
theorem okB_90 : okB 90 = true := okB2_ok (g := bytN (mB 90)) rfl (by decide +kernel)
set_option maxRecDepth 100000 in
theorem okB_91 : okB 91 = true := okB2_ok (g := bytN (mB 91)) rfl (by decide +kernel)
set_option maxRecDepth 100000 in
theorem okB_92 : okB 92 = true := okB2_ok (g := bytN (mB 92)) rfl (by decide +kernel)
set_option maxRecDepth 100000 in
theorem okB_93 : okB 93 = true := okB2_ok (g := bytN (mB 93)) rfl (by decide +kernel)
set_option maxRecDepth 100000 in
theorem okB_94 : okB 94 = true := okB2_ok (g := bytN (mB 94)) rfl (by decide +kernel)
set_option maxRecDepth 100000 in
theorem okB_95 : okB 95 = true := okB2_ok (g := bytN (mB 95)) rfl (by decide +kernel)
set_option maxRecDepth 100000 in
theorem okB_96 : okB 96 = true := okB2_ok (g := bytN (mB 96)) rfl (by decide +kernel)
set_option maxRecDepth 100000 in
theorem okB_97 : okB 97 = true := okB2_ok (g := bytN (mB 97)) rfl (by decide +kernel)
set_option maxRecDepth 100000 in
theorem okB_98 : okB 98 = true := okB2_ok (g := bytN (mB 98)) rfl (by decide +kernel)
set_option maxRecDepth 100000 in
theorem okB_99 : okB 99 = true := okB2_ok (g := bytN (mB 99)) rfl (by decide +kernel)
set_option maxRecDepth 100000 in
theorem okB_100 : okB 100 = true := okB2_ok (g := bytN (mB 100)) rfl (by decide +kernel)
set_option maxRecDepth 100000 in
theorem okB_101 : okB 101 = true := okB2_ok (g := bytN (mB 101)) rfl (by decide +kernel)
set_option maxRecDepth 100000 in
theorem okB_102 : okB 102 = true := okB2_ok (g := bytN (mB 102)) rfl (by decide +kernel)
set_option maxRecDepth 100000 in
theorem okB_103 : okB 103 = true := okB2_ok (g := bytN (mB 103)) rfl (by decide +kernel)
set_option maxRecDepth 100000 in
theorem okB_104 : okB 104 = true := okB2_ok (g := bytN (mB 104)) rfl (by decide +kernel)
set_option maxRecDepth 100000 in
theorem okB_105 : okB 105 = true := okB2_ok (g := bytN (mB 105)) rfl (by decide +kernel)
set_option maxRecDepth 100000 in
theorem okB_106 : okB 106 = true := okB2_ok (g := bytN (mB 106)) rfl (by decide +kernel)
set_option maxRecDepth 100000 in
theorem okB_107 : okB 107 = true := okB2_ok (g := bytN (mB 107)) rfl (by decide +kernel)
set_option maxRecDepth 100000 in
theorem okB_108 : okB 108 = true := okB2_ok (g := bytN (mB 108)) rfl (by decide +kernel)
set_option maxRecDepth 100000 in
theorem okB_109 : okB 109 = true := okB2_ok (g := bytN (mB 109)) rfl (by decide +kernel)
set_option maxRecDepth 100000 in
theorem okB_110 : okB 110 = true := okB2_ok (g := bytN (mB 110)) rfl (by decide +kernel)
set_option maxRecDepth 100000 in
theorem okB_111 : okB 111 = true := okB2_ok (g := bytN (mB 111)) rfl (by decide +kernel)
set_option maxRecDepth 100000 in
theorem okB_112 : okB 112 = true := okB2_ok (g := bytN (mB 112)) rfl (by decide +kernel)
set_option maxRecDepth 100000 in
theorem okB_113 : okB 113 = true := okB2_ok (g := bytN (mB 113)) rfl (by decide +kernel)
set_option maxRecDepth 100000 in
theorem okB_114 : okB 114 = true := okB2_ok (g := bytN (mB 114)) rfl (by decide +kernel)
set_option maxRecDepth 100000 in
theorem okB_115 : okB 115 = true := okB2_ok (g := bytN (mB 115)) rfl (by decide +kernel)
set_option maxRecDepth 100000 in
theorem okB_116 : okB 116 = true := okB2_ok (g := bytN (mB 116)) rfl (by decide +kernel)
set_option maxRecDepth 100000 in
theorem okB_117 : okB 117 = true := okB2_ok (g := bytN (mB 117)) rfl (by decide +kernel)
set_option maxRecDepth 100000 in
theorem okB_118 : okB 118 = true := okB2_ok (g := bytN (mB 118)) rfl (by decide +kernel)
set_option maxRecDepth 100000 in
theorem okB_119 : okB 119 = true := okB2_ok (g := bytN (mB 119)) rfl (by decide +kernel)
set_option maxRecDepth 100000 in
theorem okB_120 : okB 120 = true := okB2_ok (g := bytN (mB 120)) rfl (by decide +kernel)
set_option maxRecDepth 100000 in
theorem okB_121 : okB 121 = true := okB2_ok (g := bytN (mB 121)) rfl (by decide +kernel)
set_option maxRecDepth 100000 in
theorem okB_122 : okB 122 = true := okB2_ok (g := bytN (mB 122)) rfl (by decide +kernel)
set_option maxRecDepth 100000 in
theorem okB_123 : okB 123 = true := okB2_ok (g := bytN (mB 123)) rfl (by decide +kernel)
set_option maxRecDepth 100000 in
theorem okB_124 : okB 124 = true := okB2_ok (g := bytN (mB 124)) rfl (by decide +kernel)
set_option maxRecDepth 100000 in
theorem okB_125 : okB 125 = true := okB2_ok (g := bytN (mB 125)) rfl (by decide +kernel)
set_option maxRecDepth 100000 in
theorem okB_126 : okB 126 = true := okB2_ok (g := bytN (mB 126)) rfl (by decide +kernel)
set_option maxRecDepth 100000 in
theorem okB_127 : okB 127 = true := okB2_ok (g := bytN (mB 127)) rfl (by decide +kernel)
set_option maxRecDepth 100000 in
theorem okB_128 : okB 128 = true := okB2_ok (g := bytN (mB 128)) rfl (by decide +kernel)
set_option maxRecDepth 100000 in
theorem okB_129 : okB 129 = true := okB2_ok (g := bytN (mB 129)) rfl (by decide +kernel)
set_option maxRecDepth 100000 in
theorem okB_130 : okB 130 = true := okB2_ok (g := bytN (mB 130)) rfl (by decide +kernel)
set_option maxRecDepth 100000 in
theorem okB_131 : okB 131 = true := okB2_ok (g := bytN (mB 131)) rfl (by decide +kernel)
set_option maxRecDepth 100000 in
theorem okB_132 : okB 132 = true := okB2_ok (g := bytN (mB 132)) rfl (by decide +kernel)
set_option maxRecDepth 100000 in
theorem okB_133 : okB 133 = true := okB2_ok (g := bytN (mB 133)) rfl (by decide +kernel)
set_option maxRecDepth 100000 in
theorem okB_134 : okB 134 = true := okB2_ok (g := bytN (mB 134)) rfl (by decide +kernel)
set_option maxRecDepth 100000 in
theorem okB_135 : okB 135 = true := okB2_ok (g := bytN (mB 135)) rfl (by decide +kernel)
set_option maxRecDepth 100000 in
theorem okB_136 : okB 136 = true := okB2_ok (g := bytN (mB 136)) rfl (by decide +kernel)
set_option maxRecDepth 100000 in
theorem okB_137 : okB 137 = true := okB2_ok (g := bytN (mB 137)) rfl (by decide +kernel)
set_option maxRecDepth 100000 in
theorem okB_138 : okB 138 = true := okB2_ok (g := bytN (mB 138)) rfl (by decide +kernel)
set_option maxRecDepth 100000 in
theorem okB_139 : okB 139 = true := okB2_ok (g := bytN (mB 139)) rfl (by decide +kernel)
set_option maxRecDepth 100000 in
theorem okB_140 : okB 140 = true := okB2_ok (g := bytN (mB 140)) rfl (by decide +kernel)
set_option maxRecDepth 100000 in
theorem okB_141 : okB 141 = true := okB2_ok (g := bytN (mB 141)) rfl (by decide +kernel)
set_option maxRecDepth 100000 in
theorem okB_142 : okB 142 = true := okB2_ok (g := bytN (mB 142)) rfl (by decide +kernel)
set_option maxRecDepth 100000 in
theorem okB_143 : okB 143 = true := okB2_ok (g := bytN (mB 143)) rfl (by decide +kernel)
set_option maxRecDepth 100000 in
theorem okB_144 : okB 144 = true := okB2_ok (g := bytN (mB 144)) rfl (by decide +kernel)
set_option maxRecDepth 100000 in
theorem okB_145 : okB 145 = true := okB2_ok (g := bytN (mB 145)) rfl (by decide +kernel)
set_option maxRecDepth 100000 in
theorem okB_146 : okB 146 = true := okB2_ok (g := bytN (mB 146)) rfl (by decide +kernel)
set_option maxRecDepth 100000 in
theorem okB_147 : okB 147 = true := okB2_ok (g := bytN (mB 147)) rfl (by decide +kernel)
set_option maxRecDepth 100000 in
theorem okB_148 : okB 148 = true := okB2_ok (g := bytN (mB 148)) rfl (by decide +kernel)
set_option maxRecDepth 100000 in
theorem okB_149 : okB 149 = true := okB2_ok (g := bytN (mB 149)) rfl (by decide +kernel)
set_option maxRecDepth 100000 in
theorem okB_150 : okB 150 = true := okB2_ok (g := bytN (mB 150)) rfl (by decide +kernel)
set_option maxRecDepth 100000 in
theorem okB_151 : okB 151 = true := okB2_ok (g := bytN (mB 151)) rfl (by decide +kernel)
set_option maxRecDepth 100000 in
theorem okB_152 : okB 152 = true := okB2_ok (g := bytN (mB 152)) rfl (by decide +kernel)
set_option maxRecDepth 100000 in
theorem okB_153 : okB 153 = true := okB2_ok (g := bytN (mB 153)) rfl (by decide +kernel)
set_option maxRecDepth 100000 in
theorem okB_154 : okB 154 = true := okB2_ok (g := bytN (mB 154)) rfl (by decide +kernel)
set_option maxRecDepth 100000 in
theorem okB_155 : okB 155 = true := okB2_ok (g := bytN (mB 155)) rfl (by decide +kernel)
set_option maxRecDepth 100000 in
theorem okB_156 : okB 156 = true := okB2_ok (g := bytN (mB 156)) rfl (by decide +kernel)
set_option maxRecDepth 100000 in
theorem okB_157 : okB 157 = true := okB2_ok (g := bytN (mB 157)) rfl (by decide +kernel)
set_option maxRecDepth 100000 in
theorem okB_158 : okB 158 = true := okB2_ok (g := bytN (mB 158)) rfl (by decide +kernel)
set_option maxRecDepth 100000 in
theorem okB_159 : okB 159 = true := okB2_ok (g := bytN (mB 159)) rfl (by decide +kernel)
set_option maxRecDepth 100000 in
theorem okB_160 : okB 160 = true := okB2_ok (g := bytN (mB 160)) rfl (by decide +kernel)
set_option maxRecDepth 100000 in
theorem okB_161 : okB 161 = true := okB2_ok (g := bytN (mB 161)) rfl (by decide +kernel)
set_option maxRecDepth 100000 in
theorem okB_162 : okB 162 = true := okB2_ok (g := bytN (mB 162)) rfl (by decide +kernel)
set_option maxRecDepth 100000 in
theorem okB_163 : okB 163 = true := okB2_ok (g := bytN (mB 163)) rfl (by decide +kernel)
set_option maxRecDepth 100000 in
theorem okB_164 : okB 164 = true := okB2_ok (g := bytN (mB 164)) rfl (by decide +kernel)
set_option maxRecDepth 100000 in
theorem okB_165 : okB 165 = true := okB2_ok (g := bytN (mB 165)) rfl (by decide +kernel)
set_option maxRecDepth 100000 in
theorem okB_166 : okB 166 = true := okB2_ok (g := bytN (mB 166)) rfl (by decide +kernel)
set_option maxRecDepth 100000 in
theorem okB_167 : okB 167 = true := okB2_ok (g := bytN (mB 167)) rfl (by decide +kernel)
set_option maxRecDepth 100000 in
theorem okB_168 : okB 168 = true := okB2_ok (g := bytN (mB 168)) rfl (by decide +kernel)
set_option maxRecDepth 100000 in
theorem okB_169 : okB 169 = true := okB2_ok (g := bytN (mB 169)) rfl (by decide +kernel)
set_option maxRecDepth 100000 in
theorem okB_170 : okB 170 = true := okB2_ok (g := bytN (mB 170)) rfl (by decide +kernel)
set_option maxRecDepth 100000 in
theorem okB_171 : okB 171 = true := okB2_ok (g := bytN (mB 171)) rfl (by decide +kernel)
set_option maxRecDepth 100000 in
theorem okB_172 : okB 172 = true := okB2_ok (g := bytN (mB 172)) rfl (by decide +kernel)
set_option maxRecDepth 100000 in
theorem okB_173 : okB 173 = true := okB2_ok (g := bytN (mB 173)) rfl (by decide +kernel)
set_option maxRecDepth 100000 in
theorem okB_174 : okB 174 = true := okB2_ok (g := bytN (mB 174)) rfl (by decide +kernel)
set_option maxRecDepth 100000 in
theorem okB_175 : okB 175 = true := okB2_ok (g := bytN (mB 175)) rfl (by decide +kernel)
set_option maxRecDepth 100000 in
theorem okB_176 : okB 176 = true := okB2_ok (g := bytN (mB 176)) rfl (by decide +kernel)
set_option maxRecDepth 100000 in
theorem okB_177 : okB 177 = true := okB2_ok (g := bytN (mB 177)) rfl (by decide +kernel)
set_option maxRecDepth 100000 in
theorem okB_178 : okB 178 = true := okB2_ok (g := bytN (mB 178)) rfl (by decide +kernel)
set_option maxRecDepth 100000 in
theorem okB_179 : okB 179 = true := okB2_ok (g := bytN (mB 179)) rfl (by decide +kernel)
set_option maxRecDepth 100000 in
theorem okB_180 : okB 180 = true := okB2_ok (g := bytN (mB 180)) rfl (by decide +kernel)
set_option maxRecDepth 100000 in
theorem okB_181 : okB 181 = true := okB2_ok (g := bytN (mB 181)) rfl (by decide +kernel)
set_option maxRecDepth 100000 in
theorem okB_182 : okB 182 = true := okB2_ok (g := bytN (mB 182)) rfl (by decide +kernel)
set_option maxRecDepth 100000 in
theorem okB_183 : okB 183 = true := okB2_ok (g := bytN (mB 183)) rfl (by decide +kernel)
set_option maxRecDepth 100000 in
theorem okB_184 : okB 184 = true := okB2_ok (g := bytN (mB 184)) rfl (by decide +kernel)
set_option maxRecDepth 100000 in
theorem okB_185 : okB 185 = true := okB2_ok (g := bytN (mB 185)) rfl (by decide +kernel)
set_option maxRecDepth 100000 in
theorem okB_186 : okB 186 = true := okB2_ok (g := bytN (mB 186)) rfl (by decide +kernel)
set_option maxRecDepth 100000 in
theorem okB_187 : okB 187 = true := okB2_ok (g := bytN (mB 187)) rfl (by decide +kernel)
set_option maxRecDepth 100000 in
theorem okB_188 : okB 188 = true := okB2_ok (g := bytN (mB 188)) rfl (by decide +kernel)
set_option maxRecDepth 100000 in
theorem okB_189 : okB 189 = true := okB2_ok (g := bytN (mB 189)) rfl (by decide +kernel)
set_option maxRecDepth 100000 in
theorem okB_190 : okB 190 = true := okB2_ok (g := bytN (mB 190)) rfl (by decide +kernel)
set_option maxRecDepth 100000 in
theorem okB_191 : okB 191 = true := okB2_ok (g := bytN (mB 191)) rfl (by decide +kernel)
set_option maxRecDepth 100000 in
theorem okB_192 : okB 192 = true := okB2_ok (g := bytN (mB 192)) rfl (by decide +kernel)
set_option maxRecDepth 100000 in
theorem okB_193 : okB 193 = true := okB2_ok (g := bytN (mB 193)) rfl (by decide +kernel)
set_option maxRecDepth 100000 in
theorem okB_194 : okB 194 = true := okB2_ok (g := bytN (mB 194)) rfl (by decide +kernel)
set_option maxRecDepth 100000 in
theorem okB_195 : okB 195 = true := okB2_ok (g := bytN (mB 195)) rfl (by decide +kernel)
set_option maxRecDepth 100000 in
theorem okB_196 : okB 196 = true := okB2_ok (g := bytN (mB 196)) rfl (by decide +kernel)
set_option maxRecDepth 100000 in
theorem okB_197 : okB 197 = true := okB2_ok (g := bytN (mB 197)) rfl (by decide +kernel)
set_option maxRecDepth 100000 in
theorem okB_198 : okB 198 = true := okB2_ok (g := bytN (mB 198)) rfl (by decide +kernel)
set_option maxRecDepth 100000 in
theorem okB_199 : okB 199 = true := okB2_ok (g := bytN (mB 199)) rfl (by decide +kernel)
set_option maxRecDepth 100000 in
theorem okB_200 : okB 200 = true := okB2_ok (g := bytN (mB 200)) rfl (by decide +kernel)
set_option maxRecDepth 100000 in
theorem okB_201 : okB 201 = true := okB2_ok (g := bytN (mB 201)) rfl (by decide +kernel)
set_option maxRecDepth 100000 in
theorem okB_202 : okB 202 = true := okB2_ok (g := bytN (mB 202)) rfl (by decide +kernel)
set_option maxRecDepth 100000 in
theorem okB_203 : okB 203 = true := okB2_ok (g := bytN (mB 203)) rfl (by decide +kernel)
set_option maxRecDepth 100000 in
theorem okB_204 : okB 204 = true := okB2_ok (g := bytN (mB 204)) rfl (by decide +kernel)
set_option maxRecDepth 100000 in
theorem okB_205 : okB 205 = true := okB2_ok (g := bytN (mB 205)) rfl (by decide +kernel)
set_option maxRecDepth 100000 in
theorem okB_206 : okB 206 = true := okB2_ok (g := bytN (mB 206)) rfl (by decide +kernel)
set_option maxRecDepth 100000 in
theorem okB_207 : okB 207 = true := okB2_ok (g := bytN (mB 207)) rfl (by decide +kernel)
set_option maxRecDepth 100000 in
theorem okB_208 : okB 208 = true := okB2_ok (g := bytN (mB 208)) rfl (by decide +kernel)
set_option maxRecDepth 100000 in
theorem okB_209 : okB 209 = true := okB2_ok (g := bytN (mB 209)) rfl (by decide +kernel)
set_option maxRecDepth 100000 in
theorem okB_210 : okB 210 = true := okB2_ok (g := bytN (mB 210)) rfl (by decide +kernel)
set_option maxRecDepth 100000 in
theorem okB_211 : okB 211 = true := okB2_ok (g := bytN (mB 211)) rfl (by decide +kernel)
set_option maxRecDepth 100000 in
theorem okB_212 : okB 212 = true := okB2_ok (g := bytN (mB 212)) rfl (by decide +kernel)
set_option maxRecDepth 100000 in
theorem okB_213 : okB 213 = true := okB2_ok (g := bytN (mB 213)) rfl (by decide +kernel)
set_option maxRecDepth 100000 in
theorem okB_214 : okB 214 = true := okB2_ok (g := bytN (mB 214)) rfl (by decide +kernel)
set_option maxRecDepth 100000 in
theorem okB_215 : okB 215 = true := okB2_ok (g := bytN (mB 215)) rfl (by decide +kernel)
set_option maxRecDepth 100000 in
theorem okB_216 : okB 216 = true := okB2_ok (g := bytN (mB 216)) rfl (by decide +kernel)
set_option maxRecDepth 100000 in
theorem okB_217 : okB 217 = true := okB2_ok (g := bytN (mB 217)) rfl (by decide +kernel)
set_option maxRecDepth 100000 in
theorem okB_218 : okB 218 = true := okB2_ok (g := bytN (mB 218)) rfl (by decide +kernel)
set_option maxRecDepth 100000 in
theorem okB_219 : okB 219 = true := okB2_ok (g := bytN (mB 219)) rfl (by decide +kernel)
set_option maxRecDepth 100000 in
theorem okB_220 : okB 220 = true := okB2_ok (g := bytN (mB 220)) rfl (by decide +kernel)
set_option maxRecDepth 100000 in
theorem okB_221 : okB 221 = true := okB2_ok (g := bytN (mB 221)) rfl (by decide +kernel)
set_option maxRecDepth 100000 in
theorem okB_222 : okB 222 = true := okB2_ok (g := bytN (mB 222)) rfl (by decide +kernel)
set_option maxRecDepth 100000 in
theorem okB_223 : okB 223 = true := okB2_ok (g := bytN (mB 223)) rfl (by decide +kernel)
set_option maxRecDepth 100000 in
theorem okB_224 : okB 224 = true := okB2_ok (g := bytN (mB 224)) rfl (by decide +kernel)
set_option maxRecDepth 100000 in
theorem okB_225 : okB 225 = true := okB2_ok (g := bytN (mB 225)) rfl (by decide +kernel)
set_option maxRecDepth 100000 in
theorem okB_226 : okB 226 = true := okB2_ok (g := bytN (mB 226)) rfl (by decide +kernel)
set_option maxRecDepth 100000 in
theorem okB_227 : okB 227 = true := okB2_ok (g := bytN (mB 227)) rfl (by decide +kernel)
set_option maxRecDepth 100000 in
theorem okB_228 : okB 228 = true := okB2_ok (g := bytN (mB 228)) rfl (by decide +kernel)
set_option maxRecDepth 100000 in
theorem okB_229 : okB 229 = true := okB2_ok (g := bytN (mB 229)) rfl (by decide +kernel)
set_option maxRecDepth 100000 in
theorem okB_230 : okB 230 = true := okB2_ok (g := bytN (mB 230)) rfl (by decide +kernel)
set_option maxRecDepth 100000 in
theorem okB_231 : okB 231 = true := okB2_ok (g := bytN (mB 231)) rfl (by decide +kernel)
set_option maxRecDepth 100000 in
theorem okB_232 : okB 232 = true := okB2_ok (g := bytN (mB 232)) rfl (by decide +kernel)
set_option maxRecDepth 100000 in
theorem okB_233 : okB 233 = true := okB2_ok (g := bytN (mB 233)) rfl (by decide +kernel)
set_option maxRecDepth 100000 in
theorem okB_234 : okB 234 = true := okB2_ok (g := bytN (mB 234)) rfl (by decide +kernel)
set_option maxRecDepth 100000 in
theorem okB_235 : okB 235 = true := okB2_ok (g := bytN (mB 235)) rfl (by decide +kernel)
set_option maxRecDepth 100000 in
theorem okB_236 : okB 236 = true := okB2_ok (g := bytN (mB 236)) rfl (by decide +kernel)
set_option maxRecDepth 100000 in
theorem okB_237 : okB 237 = true := okB2_ok (g := bytN (mB 237)) rfl (by decide +kernel)
set_option maxRecDepth 100000 in
theorem okB_238 : okB 238 = true := okB2_ok (g := bytN (mB 238)) rfl (by decide +kernel)
set_option maxRecDepth 100000 in
theorem okB_239 : okB 239 = true := okB2_ok (g := bytN (mB 239)) rfl (by decide +kernel)
set_option maxRecDepth 100000 in
theorem okB_240 : okB 240 = true := okB2_ok (g := bytN (mB 240)) rfl (by decide +kernel)
set_option maxRecDepth 100000 in
theorem okB_241 : okB 241 = true := okB2_ok (g := bytN (mB 241)) rfl (by decide +kernel)
set_option maxRecDepth 100000 in
theorem okB_242 : okB 242 = true := okB2_ok (g := bytN (mB 242)) rfl (by decide +kernel)
set_option maxRecDepth 100000 in
theorem okB_243 : okB 243 = true := okB2_ok (g := bytN (mB 243)) rfl (by decide +kernel)
set_option maxRecDepth 100000 in
theorem okB_244 : okB 244 = true := okB2_ok (g := bytN (mB 244)) rfl (by decide +kernel)
set_option maxRecDepth 100000 in
theorem okB_245 : okB 245 = true := okB2_ok (g := bytN (mB 245)) rfl (by decide +kernel)
set_option maxRecDepth 100000 in
theorem okB_246 : okB 246 = true := okB2_ok (g := bytN (mB 246)) rfl (by decide +kernel)
set_option maxRecDepth 100000 in
theorem okB_247 : okB 247 = true := okB2_ok (g := bytN (mB 247)) rfl (by decide +kernel)
set_option maxRecDepth 100000 in
theorem okB_248 : okB 248 = true := okB2_ok (g := bytN (mB 248)) rfl (by decide +kernel)
set_option maxRecDepth 100000 in
theorem okB_249 : okB 249 = true := okB2_ok (g := bytN (mB 249)) rfl (by decide +kernel)
set_option maxRecDepth 100000 in
theorem okB_250 : okB 250 = true := okB2_ok (g := bytN (mB 250)) rfl (by decide +kernel)
set_option maxRecDepth 100000 in
theorem okB_251 : okB 251 = true := okB2_ok (g := bytN (mB 251)) rfl (by decide +kernel)
set_option maxRecDepth 100000 in
theorem okB_252 : okB 252 = true := okB2_ok (g := bytN (mB 252)) rfl (by decide +kernel)
set_option maxRecDepth 100000 in
theorem okB_253 : okB 253 = true := okB2_ok (g := bytN (mB 253)) rfl (by decide +kernel)
set_option maxRecDepth 100000 in
theorem okB_254 : okB 254 = true := okB2_ok (g := bytN (mB 254)) rfl (by decide +kernel)
set_option maxRecDepth 100000 in
theorem okB_255 : okB 255 = true := okB2_ok (g := bytN (mB 255)) rfl (by decide +kernel)
set_option maxRecDepth 100000 in
theorem okB_256 : okB 256 = true := okB2_ok (g := bytN (mB 256)) rfl (by decide +kernel)
set_option maxRecDepth 100000 in
theorem okB_257 : okB 257 = true := okB2_ok (g := bytN (mB 257)) rfl (by decide +kernel)
set_option maxRecDepth 100000 in
theorem okB_258 : okB 258 = true := okB2_ok (g := bytN (mB 258)) rfl (by decide +kernel)
set_option maxRecDepth 100000 in
theorem okB_259 : okB 259 = true := okB2_ok (g := bytN (mB 259)) rfl (by decide +kernel)
set_option maxRecDepth 100000 in
theorem okB_260 : okB 260 = true := okB2_ok (g := bytN (mB 260)) rfl (by decide +kernel)
set_option maxRecDepth 100000 in
theorem okB_261 : okB 261 = true := okB2_ok (g := bytN (mB 261)) rfl (by decide +kernel)
set_option maxRecDepth 100000 in
theorem okB_262 : okB 262 = true := okB2_ok (g := bytN (mB 262)) rfl (by decide +kernel)
set_option maxRecDepth 100000 in
theorem okB_263 : okB 263 = true := okB2_ok (g := bytN (mB 263)) rfl (by decide +kernel)
set_option maxRecDepth 100000 in
theorem okB_264 : okB 264 = true := okB2_ok (g := bytN (mB 264)) rfl (by decide +kernel)
set_option maxRecDepth 100000 in
theorem okB_265 : okB 265 = true := okB2_ok (g := bytN (mB 265)) rfl (by decide +kernel)
set_option maxRecDepth 100000 in
theorem okB_266 : okB 266 = true := okB2_ok (g := bytN (mB 266)) rfl (by decide +kernel)
set_option maxRecDepth 100000 in
theorem okB_267 : okB 267 = true := okB2_ok (g := bytN (mB 267)) rfl (by decide +kernel)
set_option maxRecDepth 100000 in
theorem okB_268 : okB 268 = true := okB2_ok (g := bytN (mB 268)) rfl (by decide +kernel)
set_option maxRecDepth 100000 in
theorem okB_269 : okB 269 = true := okB2_ok (g := bytN (mB 269)) rfl (by decide +kernel)
set_option maxRecDepth 100000 in
theorem okB_270 : okB 270 = true := okB2_ok (g := bytN (mB 270)) rfl (by decide +kernel)
set_option maxRecDepth 100000 in
theorem okB_271 : okB 271 = true := okB2_ok (g := bytN (mB 271)) rfl (by decide +kernel)
set_option maxRecDepth 100000 in
theorem okB_272 : okB 272 = true := okB2_ok (g := bytN (mB 272)) rfl (by decide +kernel)
set_option maxRecDepth 100000 in
theorem okB_273 : okB 273 = true := okB2_ok (g := bytN (mB 273)) rfl (by decide +kernel)
set_option maxRecDepth 100000 in
theorem okB_274 : okB 274 = true := okB2_ok (g := bytN (mB 274)) rfl (by decide +kernel)
set_option maxRecDepth 100000 in
theorem okB_275 : okB 275 = true := okB2_ok (g := bytN (mB 275)) rfl (by decide +kernel)
set_option maxRecDepth 100000 in
theorem okB_276 : okB 276 = true := okB2_ok (g := bytN (mB 276)) rfl (by decide +kernel)
set_option maxRecDepth 100000 in
theorem okB_277 : okB 277 = true := okB2_ok (g := bytN (mB 277)) rfl (by decide +kernel)
set_option maxRecDepth 100000 in
theorem okB_278 : okB 278 = true := okB2_ok (g := bytN (mB 278)) rfl (by decide +kernel)
set_option maxRecDepth 100000 in
theorem okB_279 : okB 279 = true := okB2_ok (g := bytN (mB 279)) rfl (by decide +kernel)
set_option maxRecDepth 100000 in
theorem okB_280 : okB 280 = true := okB2_ok (g := bytN (mB 280)) rfl (by decide +kernel)
set_option maxRecDepth 100000 in
theorem okB_281 : okB 281 = true := okB2_ok (g := bytN (mB 281)) rfl (by decide +kernel)
set_option maxRecDepth 100000 in
theorem okB_282 : okB 282 = true := okB2_ok (g := bytN (mB 282)) rfl (by decide +kernel)
set_option maxRecDepth 100000 in
theorem okB_283 : okB 283 = true := okB2_ok (g := bytN (mB 283)) rfl (by decide +kernel)
set_option maxRecDepth 100000 in
theorem okB_284 : okB 284 = true := okB2_ok (g := bytN (mB 284)) rfl (by decide +kernel)
set_option maxRecDepth 100000 in
theorem okB_285 : okB 285 = true := okB2_ok (g := bytN (mB 285)) rfl (by decide +kernel)
set_option maxRecDepth 100000 in
theorem okB_286 : okB 286 = true := okB2_ok (g := bytN (mB 286)) rfl (by decide +kernel)
set_option maxRecDepth 100000 in
theorem okB_287 : okB 287 = true := okB2_ok (g := bytN (mB 287)) rfl (by decide +kernel)
set_option maxRecDepth 100000 in
theorem okB_288 : okB 288 = true := okB2_ok (g := bytN (mB 288)) rfl (by decide +kernel)
set_option maxRecDepth 100000 in
theorem okB_289 : okB 289 = true := okB2_ok (g := bytN (mB 289)) rfl (by decide +kernel)
set_option maxRecDepth 100000 in
theorem okB_290 : okB 290 = true := okB2_ok (g := bytN (mB 290)) rfl (by decide +kernel)
set_option maxRecDepth 100000 in
theorem okB_291 : okB 291 = true := okB2_ok (g := bytN (mB 291)) rfl (by decide +kernel)
set_option maxRecDepth 100000 in
theorem okB_292 : okB 292 = true := okB2_ok (g := bytN (mB 292)) rfl (by decide +kernel)
set_option maxRecDepth 100000 in
theorem okB_293 : okB 293 = true := okB2_ok (g := bytN (mB 293)) rfl (by decide +kernel)
set_option maxRecDepth 100000 in
theorem okB_294 : okB 294 = true := okB2_ok (g := bytN (mB 294)) rfl (by decide +kernel)
set_option maxRecDepth 100000 in
theorem okB_295 : okB 295 = true := okB2_ok (g := bytN (mB 295)) rfl (by decide +kernel)
set_option maxRecDepth 100000 in
theorem okB_296 : okB 296 = true := okB2_ok (g := bytN (mB 296)) rfl (by decide +kernel)
set_option maxRecDepth 100000 in
theorem okB_297 : okB 297 = true := okB2_ok (g := bytN (mB 297)) rfl (by decide +kernel)
set_option maxRecDepth 100000 in
theorem okB_298 : okB 298 = true := okB2_ok (g := bytN (mB 298)) rfl (by decide +kernel)
set_option maxRecDepth 100000 in
theorem okB_299 : okB 299 = true := okB2_ok (g := bytN (mB 299)) rfl (by decide +kernel)
set_option maxRecDepth 100000 in
theorem okB_300 : okB 300 = true := okB2_ok (g := bytN (mB 300)) rfl (by decide +kernel)
set_option maxRecDepth 100000 in
theorem okB_301 : okB 301 = true := okB2_ok (g := bytN (mB 301)) rfl (by decide +kernel)
set_option maxRecDepth 100000 in
theorem okB_302 : okB 302 = true := okB2_ok (g := bytN (mB 302)) rfl (by decide +kernel)
set_option maxRecDepth 100000 in
theorem okB_303 : okB 303 = true := okB2_ok (g := bytN (mB 303)) rfl (by decide +kernel)
set_option maxRecDepth 100000 in
theorem okB_304 : okB 304 = true := okB2_ok (g := bytN (mB 304)) rfl (by decide +kernel)
set_option maxRecDepth 100000 in
theorem okB_305 : okB 305 = true := okB2_ok (g := bytN (mB 305)) rfl (by decide +kernel)
set_option maxRecDepth 100000 in
theorem okB_306 : okB 306 = true := okB2_ok (g := bytN (mB 306)) rfl (by decide +kernel)
set_option maxRecDepth 100000 in
theorem okB_307 : okB 307 = true := okB2_ok (g := bytN (mB 307)) rfl (by decide +kernel)
set_option maxRecDepth 100000 in
theorem okB_308 : okB 308 = true := okB2_ok (g := bytN (mB 308)) rfl (by decide +kernel)
set_option maxRecDepth 100000 in
theorem okB_309 : okB 309 = true := okB2_ok (g := bytN (mB 309)) rfl (by decide +kernel)
set_option maxRecDepth 100000 in
theorem okB_310 : okB 310 = true := okB2_ok (g := bytN (mB 310)) rfl (by decide +kernel)
set_option maxRecDepth 100000 in
theorem okB_311 : okB 311 = true := okB2_ok (g := bytN (mB 311)) rfl (by decide +kernel)
set_option maxRecDepth 100000 in
theorem okB_312 : okB 312 = true := okB2_ok (g := bytN (mB 312)) rfl (by decide +kernel)
set_option maxRecDepth 100000 in
theorem okB_313 : okB 313 = true := okB2_ok (g := bytN (mB 313)) rfl (by decide +kernel)
set_option maxRecDepth 100000 in
theorem okB_314 : okB 314 = true := okB2_ok (g := bytN (mB 314)) rfl (by decide +kernel)
set_option maxRecDepth 100000 in
theorem okB_315 : okB 315 = true := okB2_ok (g := bytN (mB 315)) rfl (by decide +kernel)
set_option maxRecDepth 100000 in
theorem okB_316 : okB 316 = true := okB2_ok (g := bytN (mB 316)) rfl (by decide +kernel)
set_option maxRecDepth 100000 in
theorem okB_317 : okB 317 = true := okB2_ok (g := bytN (mB 317)) rfl (by decide +kernel)
set_option maxRecDepth 100000 in
theorem okB_318 : okB 318 = true := okB2_ok (g := bytN (mB 318)) rfl (by decide +kernel)
set_option maxRecDepth 100000 in
theorem okB_319 : okB 319 = true := okB2_ok (g := bytN (mB 319)) rfl (by decide +kernel)
set_option maxRecDepth 100000 in
theorem okB_320 : okB 320 = true := okB2_ok (g := bytN (mB 320)) rfl (by decide +kernel)
set_option maxRecDepth 100000 in
theorem okB_321 : okB 321 = true := okB2_ok (g := bytN (mB 321)) rfl (by decide +kernel)
set_option maxRecDepth 100000 in
theorem okB_322 : okB 322 = true := okB2_ok (g := bytN (mB 322)) rfl (by decide +kernel)
set_option maxRecDepth 100000 in
theorem okB_323 : okB 323 = true := okB2_ok (g := bytN (mB 323)) rfl (by decide +kernel)
set_option maxRecDepth 100000 in
theorem okB_324 : okB 324 = true := okB2_ok (g := bytN (mB 324)) rfl (by decide +kernel)
set_option maxRecDepth 100000 in
theorem okB_325 : okB 325 = true := okB2_ok (g := bytN (mB 325)) rfl (by decide +kernel)
set_option maxRecDepth 100000 in
theorem okB_326 : okB 326 = true := okB2_ok (g := bytN (mB 326)) rfl (by decide +kernel)
set_option maxRecDepth 100000 in
theorem okB_327 : okB 327 = true := okB2_ok (g := bytN (mB 327)) rfl (by decide +kernel)
set_option maxRecDepth 100000 in
theorem okB_328 : okB 328 = true := okB2_ok (g := bytN (mB 328)) rfl (by decide +kernel)
set_option maxRecDepth 100000 in
theorem okB_329 : okB 329 = true := okB2_ok (g := bytN (mB 329)) rfl (by decide +kernel)
set_option maxRecDepth 100000 in
theorem okB_330 : okB 330 = true := okB2_ok (g := bytN (mB 330)) rfl (by decide +kernel)
set_option maxRecDepth 100000 in
theorem okB_331 : okB 331 = true := okB2_ok (g := bytN (mB 331)) rfl (by decide +kernel)
set_option maxRecDepth 100000 in
theorem okB_332 : okB 332 = true := okB2_ok (g := bytN (mB 332)) rfl (by decide +kernel)
set_option maxRecDepth 100000 in
theorem okB_333 : okB 333 = true := okB2_ok (g := bytN (mB 333)) rfl (by decide +kernel)
set_option maxRecDepth 100000 in
theorem okB_334 : okB 334 = true := okB2_ok (g := bytN (mB 334)) rfl (by decide +kernel)
set_option maxRecDepth 100000 in
theorem okB_335 : okB 335 = true := okB2_ok (g := bytN (mB 335)) rfl (by decide +kernel)
set_option maxRecDepth 100000 in
theorem okB_336 : okB 336 = true := okB2_ok (g := bytN (mB 336)) rfl (by decide +kernel)
set_option maxRecDepth 100000 in
theorem okB_337 : okB 337 = true := okB2_ok (g := bytN (mB 337)) rfl (by decide +kernel)
set_option maxRecDepth 100000 in
theorem okB_338 : okB 338 = true := okB2_ok (g := bytN (mB 338)) rfl (by decide +kernel)
set_option maxRecDepth 100000 in
theorem okB_339 : okB 339 = true := okB2_ok (g := bytN (mB 339)) rfl (by decide +kernel)
set_option maxRecDepth 100000 in
theorem okB_340 : okB 340 = true := okB2_ok (g := bytN (mB 340)) rfl (by decide +kernel)
set_option maxRecDepth 100000 in
theorem okB_341 : okB 341 = true := okB2_ok (g := bytN (mB 341)) rfl (by decide +kernel)
set_option maxRecDepth 100000 in
theorem okB_342 : okB 342 = true := okB2_ok (g := bytN (mB 342)) rfl (by decide +kernel)
set_option maxRecDepth 100000 in
theorem okB_343 : okB 343 = true := okB2_ok (g := bytN (mB 343)) rfl (by decide +kernel)
set_option maxRecDepth 100000 in
theorem okB_344 : okB 344 = true := okB2_ok (g := bytN (mB 344)) rfl (by decide +kernel)
set_option maxRecDepth 100000 in
theorem okB_345 : okB 345 = true := okB2_ok (g := bytN (mB 345)) rfl (by decide +kernel)
set_option maxRecDepth 100000 in
theorem okB_346 : okB 346 = true := okB2_ok (g := bytN (mB 346)) rfl (by decide +kernel)
set_option maxRecDepth 100000 in
theorem okB_347 : okB 347 = true := okB2_ok (g := bytN (mB 347)) rfl (by decide +kernel)
set_option maxRecDepth 100000 in
theorem okB_348 : okB 348 = true := okB2_ok (g := bytN (mB 348)) rfl (by decide +kernel)
set_option maxRecDepth 100000 in
theorem okB_349 : okB 349 = true := okB2_ok (g := bytN (mB 349)) rfl (by decide +kernel)
set_option maxRecDepth 100000 in
theorem okB_350 : okB 350 = true := okB2_ok (g := bytN (mB 350)) rfl (by decide +kernel)
set_option maxRecDepth 100000 in
theorem okB_351 : okB 351 = true := okB2_ok (g := bytN (mB 351)) rfl (by decide +kernel)
set_option maxRecDepth 100000 in
theorem okB_352 : okB 352 = true := okB2_ok (g := bytN (mB 352)) rfl (by decide +kernel)
theorem kL_0 : (decide (hdpc B_Lw_law_0 = some 0) && chkL2 (bytC cL9) 353 B_Lw_law_0) = true := by decide +kernel
theorem kL_23 : (decide (hdpc B_Lw_law_23 = some 23) && chkL2 (bytC cL9) 353 B_Lw_law_23) = true := by decide +kernel
theorem kL_252 : (decide (hdpc B_Lw_law_252 = some 252) && chkL2 (bytC cL9) 353 B_Lw_law_252) = true := by decide +kernel
theorem kL_325 : (decide (hdpc B_Lw_law_325 = some 325) && chkL2 (bytC cL9) 353 B_Lw_law_325) = true := by decide +kernel
theorem kL_353 : (decide (hdpc B_Lw_law_353 = some 353) && chkL2 (bytC cL9) 353 B_Lw_law_353) = true := by decide +kernel
theorem kL_366 : (decide (hdpc B_Lw_law_366 = some 366) && chkL2 (bytC cL9) 353 B_Lw_law_366) = true := by decide +kernel
theorem kL_394 : (decide (hdpc B_Lw_law_394 = some 394) && chkL2 (bytC cL9) 353 B_Lw_law_394) = true := by decide +kernel
theorem kL_422 : (decide (hdpc B_Lw_law_422 = some 422) && chkL2 (bytC cL9) 353 B_Lw_law_422) = true := by decide +kernel
theorem kL_462 : (decide (hdpc B_Lw_law_462 = some 462) && chkL2 (bytC cL9) 353 B_Lw_law_462) = true := by decide +kernel
theorem kL_502 : (decide (hdpc B_Lw_law_502 = some 502) && chkL2 (bytC cL9) 353 B_Lw_law_502) = true := by decide +kernel
theorem kL_527 : (decide (hdpc B_Lw_law_527 = some 527) && chkL2 (bytC cL9) 353 B_Lw_law_527) = true := by decide +kernel
theorem kL_567 : (decide (hdpc B_Lw_law_567 = some 567) && chkL2 (bytC cL9) 353 B_Lw_law_567) = true := by decide +kernel
theorem kL_619 : (decide (hdpc B_Lw_law_619 = some 619) && chkL2 (bytC cL9) 353 B_Lw_law_619) = true := by decide +kernel
theorem kL_639 : (decide (hdpc B_Lw_law_639 = some 639) && chkL2 (bytC cL9) 353 B_Lw_law_639) = true := by decide +kernel
theorem kL_640 : (decide (hdpc B_Lw_law_640 = some 640) && chkL2 (bytC cL9) 353 B_Lw_law_640) = true := by decide +kernel
theorem kL_666 : (decide (hdpc B_Lw_law_666 = some 666) && chkL2 (bytC cL9) 353 B_Lw_law_666) = true := by decide +kernel
theorem kL_667 : (decide (hdpc B_Lw_law_667 = some 667) && chkL2 (bytC cL9) 353 B_Lw_law_667) = true := by decide +kernel
theorem kL_675 : (decide (hdpc B_Lw_law_675 = some 675) && chkL2 (bytC cL9) 353 B_Lw_law_675) = true := by decide +kernel
theorem kL_703 : (decide (hdpc B_Lw_law_703 = some 703) && chkL2 (bytC cL9) 353 B_Lw_law_703) = true := by decide +kernel
theorem kL_716 : (decide (hdpc B_Lw_law_716 = some 716) && chkL2 (bytC cL9) 353 B_Lw_law_716) = true := by decide +kernel
theorem kL_756 : (decide (hdpc B_Lw_law_756 = some 756) && chkL2 (bytC cL9) 353 B_Lw_law_756) = true := by decide +kernel
theorem kL_796 : (decide (hdpc B_Lw_law_796 = some 796) && chkL2 (bytC cL9) 353 B_Lw_law_796) = true := by decide +kernel
theorem kL_824 : (decide (hdpc B_Lw_law_824 = some 824) && chkL2 (bytC cL9) 353 B_Lw_law_824) = true := by decide +kernel
theorem kL_852 : (decide (hdpc B_Lw_law_852 = some 852) && chkL2 (bytC cL9) 353 B_Lw_law_852) = true := by decide +kernel
theorem kL_865 : (decide (hdpc B_Lw_law_865 = some 865) && chkL2 (bytC cL9) 353 B_Lw_law_865) = true := by decide +kernel
theorem kL_890 : (decide (hdpc B_Lw_law_890 = some 890) && chkL2 (bytC cL9) 353 B_Lw_law_890) = true := by decide +kernel
theorem kL_918 : (decide (hdpc B_Lw_law_918 = some 918) && chkL2 (bytC cL9) 353 B_Lw_law_918) = true := by decide +kernel
theorem kL_931 : (decide (hdpc B_Lw_law_931 = some 931) && chkL2 (bytC cL9) 353 B_Lw_law_931) = true := by decide +kernel
theorem kL_959 : (decide (hdpc B_Lw_law_959 = some 959) && chkL2 (bytC cL9) 353 B_Lw_law_959) = true := by decide +kernel
theorem kL_999 : (decide (hdpc B_Lw_law_999 = some 999) && chkL2 (bytC cL9) 353 B_Lw_law_999) = true := by decide +kernel
theorem kL_1047 : (decide (hdpc B_Lw_law_1047 = some 1047) && chkL2 (bytC cL9) 353 B_Lw_law_1047) = true := by decide +kernel
theorem kL_1064 : (decide (hdpc B_Lw_law_1064 = some 1064) && chkL2 (bytC cL9) 353 B_Lw_law_1064) = true := by decide +kernel
theorem kL_1067 : (decide (hdpc B_Lw_law_1067 = some 1067) && chkL2 (bytC cL9) 353 B_Lw_law_1067) = true := by decide +kernel
theorem kL_1107 : (decide (hdpc B_Lw_law_1107 = some 1107) && chkL2 (bytC cL9) 353 B_Lw_law_1107) = true := by decide +kernel
theorem kL_1135 : (decide (hdpc B_Lw_law_1135 = some 1135) && chkL2 (bytC cL9) 353 B_Lw_law_1135) = true := by decide +kernel
theorem kL_1163 : (decide (hdpc B_Lw_law_1163 = some 1163) && chkL2 (bytC cL9) 353 B_Lw_law_1163) = true := by decide +kernel
theorem kL_1176 : (decide (hdpc B_Lw_law_1176 = some 1176) && chkL2 (bytC cL9) 353 B_Lw_law_1176) = true := by decide +kernel
theorem kL_1189 : (decide (hdpc B_Lw_law_1189 = some 1189) && chkL2 (bytC cL9) 353 B_Lw_law_1189) = true := by decide +kernel
theorem kL_1204 : (decide (hdpc B_Lw_law_1204 = some 1204) && chkL2 (bytC cL9) 353 B_Lw_law_1204) = true := by decide +kernel
theorem kL_1221 : (decide (hdpc B_Lw_law_1221 = some 1221) && chkL2 (bytC cL9) 353 B_Lw_law_1221) = true := by decide +kernel
theorem kL_1234 : (decide (hdpc B_Lw_law_1234 = some 1234) && chkL2 (bytC cL9) 353 B_Lw_law_1234) = true := by decide +kernel
theorem kL_1262 : (decide (hdpc B_Lw_law_1262 = some 1262) && chkL2 (bytC cL9) 353 B_Lw_law_1262) = true := by decide +kernel
theorem kL_1302 : (decide (hdpc B_Lw_law_1302 = some 1302) && chkL2 (bytC cL9) 353 B_Lw_law_1302) = true := by decide +kernel
theorem kL_1315 : (decide (hdpc B_Lw_law_1315 = some 1315) && chkL2 (bytC cL9) 353 B_Lw_law_1315) = true := by decide +kernel
theorem kL_1328 : (decide (hdpc B_Lw_law_1328 = some 1328) && chkL2 (bytC cL9) 353 B_Lw_law_1328) = true := by decide +kernel
theorem kL_1356 : (decide (hdpc B_Lw_law_1356 = some 1356) && chkL2 (bytC cL9) 353 B_Lw_law_1356) = true := by decide +kernel
theorem kL_1396 : (decide (hdpc B_Lw_law_1396 = some 1396) && chkL2 (bytC cL9) 353 B_Lw_law_1396) = true := by decide +kernel
theorem kL_1424 : (decide (hdpc B_Lw_law_1424 = some 1424) && chkL2 (bytC cL9) 353 B_Lw_law_1424) = true := by decide +kernel
theorem kL_1452 : (decide (hdpc B_Lw_law_1452 = some 1452) && chkL2 (bytC cL9) 353 B_Lw_law_1452) = true := by decide +kernel
theorem kL_1480 : (decide (hdpc B_Lw_law_1480 = some 1480) && chkL2 (bytC cL9) 353 B_Lw_law_1480) = true := by decide +kernel
theorem kL_1500 : (decide (hdpc B_Lw_law_1500 = some 1500) && chkL2 (bytC cL9) 353 B_Lw_law_1500) = true := by decide +kernel
theorem kL_1501 : (decide (hdpc B_Lw_law_1501 = some 1501) && chkL2 (bytC cL9) 353 B_Lw_law_1501) = true := by decide +kernel
theorem kL_1527 : (decide (hdpc B_Lw_law_1527 = some 1527) && chkL2 (bytC cL9) 353 B_Lw_law_1527) = true := by decide +kernel
theorem kL_1528 : (decide (hdpc B_Lw_law_1528 = some 1528) && chkL2 (bytC cL9) 353 B_Lw_law_1528) = true := by decide +kernel
theorem kL_1536 : (decide (hdpc B_Lw_law_1536 = some 1536) && chkL2 (bytC cL9) 353 B_Lw_law_1536) = true := by decide +kernel
theorem kL_1556 : (decide (hdpc B_Lw_law_1556 = some 1556) && chkL2 (bytC cL9) 353 B_Lw_law_1556) = true := by decide +kernel
theorem kL_1557 : (decide (hdpc B_Lw_law_1557 = some 1557) && chkL2 (bytC cL9) 353 B_Lw_law_1557) = true := by decide +kernel
theorem kL_1583 : (decide (hdpc B_Lw_law_1583 = some 1583) && chkL2 (bytC cL9) 353 B_Lw_law_1583) = true := by decide +kernel
theorem kL_1584 : (decide (hdpc B_Lw_law_1584 = some 1584) && chkL2 (bytC cL9) 353 B_Lw_law_1584) = true := by decide +kernel
theorem kL_1592 : (decide (hdpc B_Lw_law_1592 = some 1592) && chkL2 (bytC cL9) 353 B_Lw_law_1592) = true := by decide +kernel
theorem kL_1620 : (decide (hdpc B_Lw_law_1620 = some 1620) && chkL2 (bytC cL9) 353 B_Lw_law_1620) = true := by decide +kernel
theorem kL_1645 : (decide (hdpc B_Lw_law_1645 = some 1645) && chkL2 (bytC cL9) 353 B_Lw_law_1645) = true := by decide +kernel
theorem kL_1658 : (decide (hdpc B_Lw_law_1658 = some 1658) && chkL2 (bytC cL9) 353 B_Lw_law_1658) = true := by decide +kernel
theorem kL_1671 : (decide (hdpc B_Lw_law_1671 = some 1671) && chkL2 (bytC cL9) 353 B_Lw_law_1671) = true := by decide +kernel
theorem kL_1682 : (decide (hdpc B_Lw_law_1682 = some 1682) && chkL2 (bytC cL9) 353 B_Lw_law_1682) = true := by decide +kernel
theorem kL_1695 : (decide (hdpc B_Lw_law_1695 = some 1695) && chkL2 (bytC cL9) 353 B_Lw_law_1695) = true := by decide +kernel
theorem kL_1701 : (decide (hdpc B_Lw_law_1701 = some 1701) && chkL2 (bytC cL9) 353 B_Lw_law_1701) = true := by decide +kernel
theorem kL_e : hasL 353 0 = true := by decide +kernel
set_option maxRecDepth 100000 in
theorem okB_353 : okB 353 = true := okB2_ok (g := bytC cL9) cL9_eq (by
  unfold okB2
  rw [show lbs 353 = lb_Lw_law from rfl, kL_e]
  simp only [lb_Lw_law, List.all_cons, List.all_nil, Bool.and_true, kL_0, kL_23, kL_252, kL_325, kL_353, kL_366, kL_394, kL_422, kL_462, kL_502, kL_527, kL_567, kL_619, kL_639, kL_640, kL_666, kL_667, kL_675, kL_703, kL_716, kL_756, kL_796, kL_824, kL_852, kL_865, kL_890, kL_918, kL_931, kL_959, kL_999, kL_1047, kL_1064, kL_1067, kL_1107, kL_1135, kL_1163, kL_1176, kL_1189, kL_1204, kL_1221, kL_1234, kL_1262, kL_1302, kL_1315, kL_1328, kL_1356, kL_1396, kL_1424, kL_1452, kL_1480, kL_1500, kL_1501, kL_1527, kL_1528, kL_1536, kL_1556, kL_1557, kL_1583, kL_1584, kL_1592, kL_1620, kL_1645, kL_1658, kL_1671, kL_1682, kL_1695, kL_1701])
theorem okBT_40 : ∀ y, y < 40 → okB y = true := (lt_s (lt_s (lt_s (lt_s (lt_s (lt_s (lt_s (lt_s (lt_s (lt_s (lt_s (lt_s (lt_s (lt_s (lt_s (lt_s (lt_s (lt_s (lt_s (lt_s (lt_s (lt_s (lt_s (lt_s (lt_s (lt_s (lt_s (lt_s (lt_s (lt_s (lt_s (lt_s (lt_s (lt_s (lt_s (lt_s (lt_s (lt_s (lt_s (lt_s lt_0 (okB_0)) (okB_1)) (okB_2)) (okB_3)) (okB_4)) (okB_5)) (okB_6)) (okB_7)) (okB_8)) (okB_9)) (okB_10)) (okB_11)) (okB_12)) (okB_13)) (okB_14)) (okB_15)) (okB_16)) (okB_17)) (okB_18)) (okB_19)) (okB_20)) (okB_21)) (okB_22)) (okB_23)) (okB_24)) (okB_25)) (okB_26)) (okB_27)) (okB_28)) (okB_29)) (okB_30)) (okB_31)) (okB_32)) (okB_33)) (okB_34)) (okB_35)) (okB_36)) (okB_37)) (okB_38)) (okB_39))
theorem okBT_80 : ∀ y, y < 80 → okB y = true := (lt_s (lt_s (lt_s (lt_s (lt_s (lt_s (lt_s (lt_s (lt_s (lt_s (lt_s (lt_s (lt_s (lt_s (lt_s (lt_s (lt_s (lt_s (lt_s (lt_s (lt_s (lt_s (lt_s (lt_s (lt_s (lt_s (lt_s (lt_s (lt_s (lt_s (lt_s (lt_s (lt_s (lt_s (lt_s (lt_s (lt_s (lt_s (lt_s (lt_s okBT_40 (okB_40)) (okB_41)) (okB_42)) (okB_43)) (okB_44)) (okB_45)) (okB_46)) (okB_47)) (okB_48)) (okB_49)) (okB_50)) (okB_51)) (okB_52)) (okB_53)) (okB_54)) (okB_55)) (okB_56)) (okB_57)) (okB_58)) (okB_59)) (okB_60)) (okB_61)) (okB_62)) (okB_63)) (okB_64)) (okB_65)) (okB_66)) (okB_67)) (okB_68)) (okB_69)) (okB_70)) (okB_71)) (okB_72)) (okB_73)) (okB_74)) (okB_75)) (okB_76)) (okB_77)) (okB_78)) (okB_79))
theorem okBT_120 : ∀ y, y < 120 → okB y = true := (lt_s (lt_s (lt_s (lt_s (lt_s (lt_s (lt_s (lt_s (lt_s (lt_s (lt_s (lt_s (lt_s (lt_s (lt_s (lt_s (lt_s (lt_s (lt_s (lt_s (lt_s (lt_s (lt_s (lt_s (lt_s (lt_s (lt_s (lt_s (lt_s (lt_s (lt_s (lt_s (lt_s (lt_s (lt_s (lt_s (lt_s (lt_s (lt_s (lt_s okBT_80 (okB_80)) (okB_81)) (okB_82)) (okB_83)) (okB_84)) (okB_85)) (okB_86)) (okB_87)) (okB_88)) (okB_89)) (okB_90)) (okB_91)) (okB_92)) (okB_93)) (okB_94)) (okB_95)) (okB_96)) (okB_97)) (okB_98)) (okB_99)) (okB_100)) (okB_101)) (okB_102)) (okB_103)) (okB_104)) (okB_105)) (okB_106)) (okB_107)) (okB_108)) (okB_109)) (okB_110)) (okB_111)) (okB_112)) (okB_113)) (okB_114)) (okB_115)) (okB_116)) (okB_117)) (okB_118)) (okB_119))
theorem okBT_160 : ∀ y, y < 160 → okB y = true := (lt_s (lt_s (lt_s (lt_s (lt_s (lt_s (lt_s (lt_s (lt_s (lt_s (lt_s (lt_s (lt_s (lt_s (lt_s (lt_s (lt_s (lt_s (lt_s (lt_s (lt_s (lt_s (lt_s (lt_s (lt_s (lt_s (lt_s (lt_s (lt_s (lt_s (lt_s (lt_s (lt_s (lt_s (lt_s (lt_s (lt_s (lt_s (lt_s (lt_s okBT_120 (okB_120)) (okB_121)) (okB_122)) (okB_123)) (okB_124)) (okB_125)) (okB_126)) (okB_127)) (okB_128)) (okB_129)) (okB_130)) (okB_131)) (okB_132)) (okB_133)) (okB_134)) (okB_135)) (okB_136)) (okB_137)) (okB_138)) (okB_139)) (okB_140)) (okB_141)) (okB_142)) (okB_143)) (okB_144)) (okB_145)) (okB_146)) (okB_147)) (okB_148)) (okB_149)) (okB_150)) (okB_151)) (okB_152)) (okB_153)) (okB_154)) (okB_155)) (okB_156)) (okB_157)) (okB_158)) (okB_159))
theorem okBT_200 : ∀ y, y < 200 → okB y = true := (lt_s (lt_s (lt_s (lt_s (lt_s (lt_s (lt_s (lt_s (lt_s (lt_s (lt_s (lt_s (lt_s (lt_s (lt_s (lt_s (lt_s (lt_s (lt_s (lt_s (lt_s (lt_s (lt_s (lt_s (lt_s (lt_s (lt_s (lt_s (lt_s (lt_s (lt_s (lt_s (lt_s (lt_s (lt_s (lt_s (lt_s (lt_s (lt_s (lt_s okBT_160 (okB_160)) (okB_161)) (okB_162)) (okB_163)) (okB_164)) (okB_165)) (okB_166)) (okB_167)) (okB_168)) (okB_169)) (okB_170)) (okB_171)) (okB_172)) (okB_173)) (okB_174)) (okB_175)) (okB_176)) (okB_177)) (okB_178)) (okB_179)) (okB_180)) (okB_181)) (okB_182)) (okB_183)) (okB_184)) (okB_185)) (okB_186)) (okB_187)) (okB_188)) (okB_189)) (okB_190)) (okB_191)) (okB_192)) (okB_193)) (okB_194)) (okB_195)) (okB_196)) (okB_197)) (okB_198)) (okB_199))
theorem okBT_240 : ∀ y, y < 240 → okB y = true := (lt_s (lt_s (lt_s (lt_s (lt_s (lt_s (lt_s (lt_s (lt_s (lt_s (lt_s (lt_s (lt_s (lt_s (lt_s (lt_s (lt_s (lt_s (lt_s (lt_s (lt_s (lt_s (lt_s (lt_s (lt_s (lt_s (lt_s (lt_s (lt_s (lt_s (lt_s (lt_s (lt_s (lt_s (lt_s (lt_s (lt_s (lt_s (lt_s (lt_s okBT_200 (okB_200)) (okB_201)) (okB_202)) (okB_203)) (okB_204)) (okB_205)) (okB_206)) (okB_207)) (okB_208)) (okB_209)) (okB_210)) (okB_211)) (okB_212)) (okB_213)) (okB_214)) (okB_215)) (okB_216)) (okB_217)) (okB_218)) (okB_219)) (okB_220)) (okB_221)) (okB_222)) (okB_223)) (okB_224)) (okB_225)) (okB_226)) (okB_227)) (okB_228)) (okB_229)) (okB_230)) (okB_231)) (okB_232)) (okB_233)) (okB_234)) (okB_235)) (okB_236)) (okB_237)) (okB_238)) (okB_239))
theorem okBT_280 : ∀ y, y < 280 → okB y = true := (lt_s (lt_s (lt_s (lt_s (lt_s (lt_s (lt_s (lt_s (lt_s (lt_s (lt_s (lt_s (lt_s (lt_s (lt_s (lt_s (lt_s (lt_s (lt_s (lt_s (lt_s (lt_s (lt_s (lt_s (lt_s (lt_s (lt_s (lt_s (lt_s (lt_s (lt_s (lt_s (lt_s (lt_s (lt_s (lt_s (lt_s (lt_s (lt_s (lt_s okBT_240 (okB_240)) (okB_241)) (okB_242)) (okB_243)) (okB_244)) (okB_245)) (okB_246)) (okB_247)) (okB_248)) (okB_249)) (okB_250)) (okB_251)) (okB_252)) (okB_253)) (okB_254)) (okB_255)) (okB_256)) (okB_257)) (okB_258)) (okB_259)) (okB_260)) (okB_261)) (okB_262)) (okB_263)) (okB_264)) (okB_265)) (okB_266)) (okB_267)) (okB_268)) (okB_269)) (okB_270)) (okB_271)) (okB_272)) (okB_273)) (okB_274)) (okB_275)) (okB_276)) (okB_277)) (okB_278)) (okB_279))
theorem okBT_320 : ∀ y, y < 320 → okB y = true := (lt_s (lt_s (lt_s (lt_s (lt_s (lt_s (lt_s (lt_s (lt_s (lt_s (lt_s (lt_s (lt_s (lt_s (lt_s (lt_s (lt_s (lt_s (lt_s (lt_s (lt_s (lt_s (lt_s (lt_s (lt_s (lt_s (lt_s (lt_s (lt_s (lt_s (lt_s (lt_s (lt_s (lt_s (lt_s (lt_s (lt_s (lt_s (lt_s (lt_s okBT_280 (okB_280)) (okB_281)) (okB_282)) (okB_283)) (okB_284)) (okB_285)) (okB_286)) (okB_287)) (okB_288)) (okB_289)) (okB_290)) (okB_291)) (okB_292)) (okB_293)) (okB_294)) (okB_295)) (okB_296)) (okB_297)) (okB_298)) (okB_299)) (okB_300)) (okB_301)) (okB_302)) (okB_303)) (okB_304)) (okB_305)) (okB_306)) (okB_307)) (okB_308)) (okB_309)) (okB_310)) (okB_311)) (okB_312)) (okB_313)) (okB_314)) (okB_315)) (okB_316)) (okB_317)) (okB_318)) (okB_319))
theorem okBT_354 : ∀ y, y < 354 → okB y = true := (lt_s (lt_s (lt_s (lt_s (lt_s (lt_s (lt_s (lt_s (lt_s (lt_s (lt_s (lt_s (lt_s (lt_s (lt_s (lt_s (lt_s (lt_s (lt_s (lt_s (lt_s (lt_s (lt_s (lt_s (lt_s (lt_s (lt_s (lt_s (lt_s (lt_s (lt_s (lt_s (lt_s (lt_s okBT_320 (okB_320)) (okB_321)) (okB_322)) (okB_323)) (okB_324)) (okB_325)) (okB_326)) (okB_327)) (okB_328)) (okB_329)) (okB_330)) (okB_331)) (okB_332)) (okB_333)) (okB_334)) (okB_335)) (okB_336)) (okB_337)) (okB_338)) (okB_339)) (okB_340)) (okB_341)) (okB_342)) (okB_343)) (okB_344)) (okB_345)) (okB_346)) (okB_347)) (okB_348)) (okB_349)) (okB_350)) (okB_351)) (okB_352)) (okB_353))
theorem okBT_at {y : Nat} (h : y < 354) : okB y = true := okBT_354 y h
