/-! the class's entries are right -/
set_option maxRecDepth 100000 in
theorem ck_0 : okM 0 cod_0 = true := by decide +kernel
set_option maxRecDepth 100000 in
theorem ck_1 : okM 1 cod_1 = true := by decide +kernel
set_option maxRecDepth 100000 in
theorem ck_2 : okM 2 cod_2 = true := by decide +kernel
set_option maxRecDepth 100000 in
theorem ck_3 : okM 3 cod_3 = true := by decide +kernel
set_option maxRecDepth 100000 in
theorem ck_4 : okM 4 cod_4 = true := by decide +kernel
set_option maxRecDepth 100000 in
theorem ck_5 : okM 5 cod_5 = true := by decide +kernel
set_option maxRecDepth 100000 in
theorem ck_6 : okM 6 cod_6 = true := by decide +kernel
set_option maxRecDepth 100000 in
theorem ck_7 : okM 7 cod_7 = true := by decide +kernel
set_option maxRecDepth 100000 in
theorem ck_8 : okM 8 cod_8 = true := by decide +kernel
set_option maxRecDepth 100000 in
theorem ck_9 : okM 9 cod_9 = true := by decide +kernel
set_option maxRecDepth 100000 in
theorem ck_12 : okM 12 cod_12 = true := by decide +kernel
set_option maxRecDepth 100000 in
theorem ck_13 : okM 13 cod_13 = true := by decide +kernel
set_option maxRecDepth 100000 in
theorem ck_14 : okM 14 cod_14 = true := by decide +kernel
set_option maxRecDepth 100000 in
theorem ck_15 : okM 15 cod_15 = true := by decide +kernel
set_option maxRecDepth 100000 in
theorem ck_16 : okM 16 cod_16 = true := by decide +kernel
set_option maxRecDepth 100000 in
theorem ck_18 : okM 18 cod_18 = true := by decide +kernel
set_option maxRecDepth 100000 in
theorem ck_19 : okM 19 cod_19 = true := by decide +kernel
set_option maxRecDepth 100000 in
theorem ck_20 : okM 20 cod_20 = true := by decide +kernel
set_option maxRecDepth 100000 in
theorem ck_21 : okM 21 cod_21 = true := by decide +kernel
set_option maxRecDepth 100000 in
theorem ck_22 : okM 22 cod_22 = true := by decide +kernel
set_option maxRecDepth 100000 in
theorem ck_23 : okM 23 cod_23 = true := by decide +kernel
set_option maxRecDepth 100000 in
theorem ck_24 : okM 24 cod_24 = true := by decide +kernel
set_option maxRecDepth 100000 in
theorem ck_25 : okM 25 cod_25 = true := by decide +kernel
set_option maxRecDepth 100000 in
theorem ck_26 : okM 26 cod_26 = true := by decide +kernel
set_option maxRecDepth 100000 in
theorem ck_27 : okM 27 cod_27 = true := by decide +kernel
set_option maxRecDepth 100000 in
theorem ck_28 : okM 28 cod_28 = true := by decide +kernel
set_option maxRecDepth 100000 in
theorem ck_29 : okM 29 cod_29 = true := by decide +kernel
set_option maxRecDepth 100000 in
theorem ck_30 : okM 30 cod_30 = true := by decide +kernel
set_option maxRecDepth 100000 in
theorem ck_31 : okM 31 cod_31 = true := by decide +kernel
set_option maxRecDepth 100000 in
theorem ck_32 : okM 32 cod_32 = true := by decide +kernel
set_option maxRecDepth 100000 in
theorem ck_33 : okM 33 cod_33 = true := by decide +kernel
set_option maxRecDepth 100000 in
theorem ck_34 : okM 34 cod_34 = true := by decide +kernel
set_option maxRecDepth 100000 in
theorem ck_35 : okM 35 cod_35 = true := by decide +kernel
set_option maxRecDepth 100000 in
theorem ck_36 : okM 36 cod_36 = true := by decide +kernel
set_option maxRecDepth 100000 in
theorem ck_37 : okM 37 cod_37 = true := by decide +kernel
set_option maxRecDepth 100000 in
theorem ck_38 : okM 38 cod_38 = true := by decide +kernel
set_option maxRecDepth 100000 in
theorem ck_39 : okM 39 cod_39 = true := by decide +kernel
set_option maxRecDepth 100000 in
theorem ck_40 : okM 40 cod_40 = true := by decide +kernel
set_option maxRecDepth 100000 in
theorem ck_41 : okM 41 cod_41 = true := by decide +kernel
set_option maxRecDepth 100000 in
theorem ck_42 : okM 42 cod_42 = true := by decide +kernel
set_option maxRecDepth 100000 in
theorem ck_43 : okM 43 cod_43 = true := by decide +kernel
set_option maxRecDepth 100000 in
theorem ck_44 : okM 44 cod_44 = true := by decide +kernel
set_option maxRecDepth 100000 in
theorem ck_45 : okM 45 cod_45 = true := by decide +kernel
set_option maxRecDepth 100000 in
theorem ck_46 : okM 46 cod_46 = true := by decide +kernel
set_option maxRecDepth 100000 in
theorem ck_47 : okM 47 cod_47 = true := by decide +kernel
set_option maxRecDepth 100000 in
theorem ck_48 : okM 48 cod_48 = true := by decide +kernel
set_option maxRecDepth 100000 in
theorem ck_49 : okM 49 cod_49 = true := by decide +kernel
set_option maxRecDepth 100000 in
theorem ck_50 : okM 50 cod_50 = true := by decide +kernel
set_option maxRecDepth 100000 in
theorem ck_51 : okM 51 cod_51 = true := by decide +kernel
set_option maxRecDepth 100000 in
theorem ck_52 : okM 52 cod_52 = true := by decide +kernel
set_option maxRecDepth 100000 in
theorem ck_53 : okM 53 cod_53 = true := by decide +kernel
set_option maxRecDepth 100000 in
theorem ck_54 : okM 54 cod_54 = true := by decide +kernel
set_option maxRecDepth 100000 in
theorem ck_55 : okM 55 cod_55 = true := by decide +kernel
set_option maxRecDepth 100000 in
theorem ck_56 : okM 56 cod_56 = true := by decide +kernel
set_option maxRecDepth 100000 in
theorem ck_57 : okM 57 cod_57 = true := by decide +kernel
set_option maxRecDepth 100000 in
theorem ck_58 : okM 58 cod_58 = true := by decide +kernel
set_option maxRecDepth 100000 in
theorem ck_59 : okM 59 cod_59 = true := by decide +kernel
set_option maxRecDepth 100000 in
theorem ck_60 : okM 60 cod_60 = true := by decide +kernel
set_option maxRecDepth 100000 in
theorem ck_61 : okM 61 cod_61 = true := by decide +kernel
set_option maxRecDepth 100000 in
theorem ck_62 : okM 62 cod_62 = true := by decide +kernel
set_option maxRecDepth 100000 in
theorem ck_63 : okM 63 cod_63 = true := by decide +kernel
set_option maxRecDepth 100000 in
theorem ck_64 : okM 64 cod_64 = true := by decide +kernel
set_option maxRecDepth 100000 in
theorem ck_65 : okM 65 cod_65 = true := by decide +kernel
set_option maxRecDepth 100000 in
theorem ck_66 : okM 66 cod_66 = true := by decide +kernel
set_option maxRecDepth 100000 in
theorem ck_67 : okM 67 cod_67 = true := by decide +kernel
set_option maxRecDepth 100000 in
theorem ck_68 : okM 68 cod_68 = true := by decide +kernel
set_option maxRecDepth 100000 in
theorem ck_69 : okM 69 cod_69 = true := by decide +kernel
set_option maxRecDepth 100000 in
theorem ck_70 : okM 70 cod_70 = true := by decide +kernel
set_option maxRecDepth 100000 in
theorem ck_71 : okM 71 cod_71 = true := by decide +kernel
set_option maxRecDepth 100000 in
theorem ck_73 : okM 73 cod_73 = true := by decide +kernel
set_option maxRecDepth 100000 in
theorem ck_74 : okM 74 cod_74 = true := by decide +kernel
set_option maxRecDepth 100000 in
theorem ck_75 : okM 75 cod_75 = true := by decide +kernel
set_option maxRecDepth 100000 in
theorem ck_76 : okM 76 cod_76 = true := by decide +kernel
set_option maxRecDepth 100000 in
theorem ck_77 : okM 77 cod_77 = true := by decide +kernel
set_option maxRecDepth 100000 in
theorem ck_78 : okM 78 cod_78 = true := by decide +kernel
set_option maxRecDepth 100000 in
theorem ck_79 : okM 79 cod_79 = true := by decide +kernel
set_option maxRecDepth 100000 in
theorem ck_81 : okM 81 cod_81 = true := by decide +kernel
set_option maxRecDepth 100000 in
theorem ck_82 : okM 82 cod_82 = true := by decide +kernel
set_option maxRecDepth 100000 in
theorem ck_83 : okM 83 cod_83 = true := by decide +kernel
set_option maxRecDepth 100000 in
theorem ck_84 : okM 84 cod_84 = true := by decide +kernel
set_option maxRecDepth 100000 in
theorem ck_85 : okM 85 cod_85 = true := by decide +kernel
set_option maxRecDepth 100000 in
theorem ck_87 : okM 87 cod_87 = true := by decide +kernel
set_option maxRecDepth 100000 in
theorem ck_88 : okM 88 cod_88 = true := by decide +kernel
set_option maxRecDepth 100000 in
theorem ck_89 : okM 89 cod_89 = true := by decide +kernel
set_option maxRecDepth 100000 in
theorem ck_91 : okM 91 cod_91 = true := by decide +kernel
set_option maxRecDepth 100000 in
theorem ck_92 : okM 92 cod_92 = true := by decide +kernel
set_option maxRecDepth 100000 in
theorem ck_93 : okM 93 cod_93 = true := by decide +kernel
set_option maxRecDepth 100000 in
theorem ck_94 : okM 94 cod_94 = true := by decide +kernel
set_option maxRecDepth 100000 in
theorem ck_95 : okM 95 cod_95 = true := by decide +kernel
set_option maxRecDepth 100000 in
theorem ck_96 : okM 96 cod_96 = true := by decide +kernel
set_option maxRecDepth 100000 in
theorem ck_97 : okM 97 cod_97 = true := by decide +kernel
set_option maxRecDepth 100000 in
theorem ck_98 : okM 98 cod_98 = true := by decide +kernel
set_option maxRecDepth 100000 in
theorem ck_99 : okM 99 cod_99 = true := by decide +kernel
set_option maxRecDepth 100000 in
theorem ck_100 : okM 100 cod_100 = true := by decide +kernel
set_option maxRecDepth 100000 in
theorem ck_101 : okM 101 cod_101 = true := by decide +kernel
set_option maxRecDepth 100000 in
theorem ck_102 : okM 102 cod_102 = true := by decide +kernel
set_option maxRecDepth 100000 in
theorem ck_103 : okM 103 cod_103 = true := by decide +kernel
set_option maxRecDepth 100000 in
theorem ck_104 : okM 104 cod_104 = true := by decide +kernel
set_option maxRecDepth 100000 in
theorem ck_107 : okM 107 cod_107 = true := by decide +kernel
set_option maxRecDepth 100000 in
theorem ck_108 : okM 108 cod_108 = true := by decide +kernel
set_option maxRecDepth 100000 in
theorem ck_110 : okM 110 cod_110 = true := by decide +kernel
set_option maxRecDepth 100000 in
theorem ck_112 : okM 112 cod_112 = true := by decide +kernel
set_option maxRecDepth 100000 in
theorem ck_113 : okM 113 cod_113 = true := by decide +kernel
set_option maxRecDepth 100000 in
theorem ck_114 : okM 114 cod_114 = true := by decide +kernel
set_option maxRecDepth 100000 in
theorem ck_115 : okM 115 cod_115 = true := by decide +kernel
set_option maxRecDepth 100000 in
theorem ck_116 : okM 116 cod_116 = true := by decide +kernel
set_option maxRecDepth 100000 in
theorem ck_117 : okM 117 cod_117 = true := by decide +kernel
set_option maxRecDepth 100000 in
theorem ck_118 : okM 118 cod_118 = true := by decide +kernel
set_option maxRecDepth 100000 in
theorem ck_119 : okM 119 cod_119 = true := by decide +kernel
set_option maxRecDepth 100000 in
theorem ck_120 : okM 120 cod_120 = true := by decide +kernel
set_option maxRecDepth 100000 in
theorem ck_121 : okM 121 cod_121 = true := by decide +kernel
set_option maxRecDepth 100000 in
theorem ck_123 : okM 123 cod_123 = true := by decide +kernel
set_option maxRecDepth 100000 in
theorem ck_124 : okM 124 cod_124 = true := by decide +kernel
set_option maxRecDepth 100000 in
theorem ck_126 : okM 126 cod_126 = true := by decide +kernel
set_option maxRecDepth 100000 in
theorem ck_127 : okM 127 cod_127 = true := by decide +kernel
set_option maxRecDepth 100000 in
theorem ck_128 : okM 128 cod_128 = true := by decide +kernel
set_option maxRecDepth 100000 in
theorem ck_129 : okM 129 cod_129 = true := by decide +kernel
set_option maxRecDepth 100000 in
theorem ck_131 : okM 131 cod_131 = true := by decide +kernel
set_option maxRecDepth 100000 in
theorem ck_132 : okM 132 cod_132 = true := by decide +kernel
set_option maxRecDepth 100000 in
theorem ck_133 : okM 133 cod_133 = true := by decide +kernel
set_option maxRecDepth 100000 in
theorem ck_134 : okM 134 cod_134 = true := by decide +kernel
set_option maxRecDepth 100000 in
theorem ck_135 : okM 135 cod_135 = true := by decide +kernel
set_option maxRecDepth 100000 in
theorem ck_136 : okM 136 cod_136 = true := by decide +kernel
set_option maxRecDepth 100000 in
theorem ck_137 : okM 137 cod_137 = true := by decide +kernel
set_option maxRecDepth 100000 in
theorem ck_138 : okM 138 cod_138 = true := by decide +kernel
set_option maxRecDepth 100000 in
theorem ck_139 : okM 139 cod_139 = true := by decide +kernel
set_option maxRecDepth 100000 in
theorem ck_140 : okM 140 cod_140 = true := by decide +kernel
set_option maxRecDepth 100000 in
theorem ck_141 : okM 141 cod_141 = true := by decide +kernel
set_option maxRecDepth 100000 in
theorem ck_142 : okM 142 cod_142 = true := by decide +kernel
set_option maxRecDepth 100000 in
theorem ck_143 : okM 143 cod_143 = true := by decide +kernel
set_option maxRecDepth 100000 in
theorem ck_144 : okM 144 cod_144 = true := by decide +kernel
set_option maxRecDepth 100000 in
theorem ck_145 : okM 145 cod_145 = true := by decide +kernel
set_option maxRecDepth 100000 in
theorem ck_146 : okM 146 cod_146 = true := by decide +kernel
set_option maxRecDepth 100000 in
theorem ck_147 : okM 147 cod_147 = true := by decide +kernel
set_option maxRecDepth 100000 in
theorem ck_148 : okM 148 cod_148 = true := by decide +kernel
set_option maxRecDepth 100000 in
theorem ck_149 : okM 149 cod_149 = true := by decide +kernel
set_option maxRecDepth 100000 in
theorem ck_150 : okM 150 cod_150 = true := by decide +kernel
set_option maxRecDepth 100000 in
theorem ck_151 : okM 151 cod_151 = true := by decide +kernel
set_option maxRecDepth 100000 in
theorem ck_152 : okM 152 cod_152 = true := by decide +kernel
set_option maxRecDepth 100000 in
theorem ck_153 : okM 153 cod_153 = true := by decide +kernel
set_option maxRecDepth 100000 in
theorem ck_154 : okM 154 cod_154 = true := by decide +kernel
set_option maxRecDepth 100000 in
theorem ck_163 : okM 163 cod_163 = true := by decide +kernel
set_option maxRecDepth 100000 in
theorem ck_164 : okM 164 cod_164 = true := by decide +kernel
set_option maxRecDepth 100000 in
theorem ck_252 : okM 252 cod_252 = true := by decide +kernel
