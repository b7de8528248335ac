theorem tn_0 : Int32.toNatClampNeg 0 = 0 := by decide +kernel
theorem tn_1 : Int32.toNatClampNeg 1 = 1 := by decide +kernel
theorem tn_2 : Int32.toNatClampNeg 2 = 2 := by decide +kernel
theorem tn_3 : Int32.toNatClampNeg 3 = 3 := by decide +kernel
theorem tn_4 : Int32.toNatClampNeg 4 = 4 := by decide +kernel
theorem tn_5 : Int32.toNatClampNeg 5 = 5 := by decide +kernel
theorem tn_6 : Int32.toNatClampNeg 6 = 6 := by decide +kernel
theorem tn_7 : Int32.toNatClampNeg 7 = 7 := by decide +kernel
theorem tn_8 : Int32.toNatClampNeg 8 = 8 := by decide +kernel
theorem tn_9 : Int32.toNatClampNeg 9 = 9 := by decide +kernel
theorem tn_10 : Int32.toNatClampNeg 10 = 10 := by decide +kernel
theorem tn_11 : Int32.toNatClampNeg 11 = 11 := by decide +kernel
theorem tn_12 : Int32.toNatClampNeg 12 = 12 := by decide +kernel
theorem tn_13 : Int32.toNatClampNeg 13 = 13 := by decide +kernel
theorem tn_14 : Int32.toNatClampNeg 14 = 14 := by decide +kernel
theorem tn_15 : Int32.toNatClampNeg 15 = 15 := by decide +kernel
theorem tn_16 : Int32.toNatClampNeg 16 = 16 := by decide +kernel
theorem tn_17 : Int32.toNatClampNeg 17 = 17 := by decide +kernel
theorem tn_18 : Int32.toNatClampNeg 18 = 18 := by decide +kernel
theorem tn_19 : Int32.toNatClampNeg 19 = 19 := by decide +kernel
theorem tn_20 : Int32.toNatClampNeg 20 = 20 := by decide +kernel
theorem tn_21 : Int32.toNatClampNeg 21 = 21 := by decide +kernel
theorem tn_22 : Int32.toNatClampNeg 22 = 22 := by decide +kernel
theorem tn_23 : Int32.toNatClampNeg 23 = 23 := by decide +kernel
theorem tn_24 : Int32.toNatClampNeg 24 = 24 := by decide +kernel
theorem tn_25 : Int32.toNatClampNeg 25 = 25 := by decide +kernel
theorem tn_26 : Int32.toNatClampNeg 26 = 26 := by decide +kernel
theorem tn_27 : Int32.toNatClampNeg 27 = 27 := by decide +kernel
theorem tn_28 : Int32.toNatClampNeg 28 = 28 := by decide +kernel
theorem tn_29 : Int32.toNatClampNeg 29 = 29 := by decide +kernel
theorem tn_30 : Int32.toNatClampNeg 30 = 30 := by decide +kernel
theorem tn_31 : Int32.toNatClampNeg 31 = 31 := by decide +kernel
theorem tn_32 : Int32.toNatClampNeg 32 = 32 := by decide +kernel
theorem tn_33 : Int32.toNatClampNeg 33 = 33 := by decide +kernel
theorem tn_34 : Int32.toNatClampNeg 34 = 34 := by decide +kernel
theorem tn_35 : Int32.toNatClampNeg 35 = 35 := by decide +kernel
theorem tn_36 : Int32.toNatClampNeg 36 = 36 := by decide +kernel
theorem tn_37 : Int32.toNatClampNeg 37 = 37 := by decide +kernel
theorem tn_38 : Int32.toNatClampNeg 38 = 38 := by decide +kernel
theorem tn_39 : Int32.toNatClampNeg 39 = 39 := by decide +kernel
theorem tn_40 : Int32.toNatClampNeg 40 = 40 := by decide +kernel
theorem tn_41 : Int32.toNatClampNeg 41 = 41 := by decide +kernel
theorem tn_42 : Int32.toNatClampNeg 42 = 42 := by decide +kernel
theorem tn_43 : Int32.toNatClampNeg 43 = 43 := by decide +kernel
theorem tn_44 : Int32.toNatClampNeg 44 = 44 := by decide +kernel
theorem tn_45 : Int32.toNatClampNeg 45 = 45 := by decide +kernel
theorem tn_46 : Int32.toNatClampNeg 46 = 46 := by decide +kernel
theorem tn_47 : Int32.toNatClampNeg 47 = 47 := by decide +kernel
theorem tn_48 : Int32.toNatClampNeg 48 = 48 := by decide +kernel
theorem tn_49 : Int32.toNatClampNeg 49 = 49 := by decide +kernel
theorem tn_50 : Int32.toNatClampNeg 50 = 50 := by decide +kernel
theorem tn_51 : Int32.toNatClampNeg 51 = 51 := by decide +kernel
theorem tn_52 : Int32.toNatClampNeg 52 = 52 := by decide +kernel
theorem tn_53 : Int32.toNatClampNeg 53 = 53 := by decide +kernel
theorem tn_54 : Int32.toNatClampNeg 54 = 54 := by decide +kernel
theorem tn_55 : Int32.toNatClampNeg 55 = 55 := by decide +kernel
theorem tn_56 : Int32.toNatClampNeg 56 = 56 := by decide +kernel
theorem tn_57 : Int32.toNatClampNeg 57 = 57 := by decide +kernel
theorem tn_58 : Int32.toNatClampNeg 58 = 58 := by decide +kernel
theorem tn_59 : Int32.toNatClampNeg 59 = 59 := by decide +kernel
theorem tn_60 : Int32.toNatClampNeg 60 = 60 := by decide +kernel
theorem tn_61 : Int32.toNatClampNeg 61 = 61 := by decide +kernel
theorem tn_62 : Int32.toNatClampNeg 62 = 62 := by decide +kernel
theorem tn_63 : Int32.toNatClampNeg 63 = 63 := by decide +kernel
theorem tn_64 : Int32.toNatClampNeg 64 = 64 := by decide +kernel
theorem tn_65 : Int32.toNatClampNeg 65 = 65 := by decide +kernel
theorem tn_66 : Int32.toNatClampNeg 66 = 66 := by decide +kernel
theorem tn_67 : Int32.toNatClampNeg 67 = 67 := by decide +kernel
theorem tn_68 : Int32.toNatClampNeg 68 = 68 := by decide +kernel
theorem tn_69 : Int32.toNatClampNeg 69 = 69 := by decide +kernel
theorem tn_70 : Int32.toNatClampNeg 70 = 70 := by decide +kernel
theorem tn_71 : Int32.toNatClampNeg 71 = 71 := by decide +kernel
theorem tn_72 : Int32.toNatClampNeg 72 = 72 := by decide +kernel
theorem tn_73 : Int32.toNatClampNeg 73 = 73 := by decide +kernel
theorem tn_74 : Int32.toNatClampNeg 74 = 74 := by decide +kernel
theorem tn_75 : Int32.toNatClampNeg 75 = 75 := by decide +kernel
theorem tn_76 : Int32.toNatClampNeg 76 = 76 := by decide +kernel
theorem tn_77 : Int32.toNatClampNeg 77 = 77 := by decide +kernel
theorem tn_78 : Int32.toNatClampNeg 78 = 78 := by decide +kernel
theorem tn_79 : Int32.toNatClampNeg 79 = 79 := by decide +kernel
theorem tn_80 : Int32.toNatClampNeg 80 = 80 := by decide +kernel
theorem tn_81 : Int32.toNatClampNeg 81 = 81 := by decide +kernel
theorem tn_82 : Int32.toNatClampNeg 82 = 82 := by decide +kernel
theorem tn_83 : Int32.toNatClampNeg 83 = 83 := by decide +kernel
theorem tn_84 : Int32.toNatClampNeg 84 = 84 := by decide +kernel
theorem tn_85 : Int32.toNatClampNeg 85 = 85 := by decide +kernel
theorem tn_86 : Int32.toNatClampNeg 86 = 86 := by decide +kernel
theorem tn_87 : Int32.toNatClampNeg 87 = 87 := by decide +kernel
theorem tn_88 : Int32.toNatClampNeg 88 = 88 := by decide +kernel
theorem tn_89 : Int32.toNatClampNeg 89 = 89 := by decide +kernel
theorem tn_90 : Int32.toNatClampNeg 90 = 90 := by decide +kernel
theorem tn_91 : Int32.toNatClampNeg 91 = 91 := by decide +kernel
theorem tn_92 : Int32.toNatClampNeg 92 = 92 := by decide +kernel
theorem tn_93 : Int32.toNatClampNeg 93 = 93 := by decide +kernel
theorem tn_94 : Int32.toNatClampNeg 94 = 94 := by decide +kernel
theorem tn_95 : Int32.toNatClampNeg 95 = 95 := by decide +kernel
theorem tn_96 : Int32.toNatClampNeg 96 = 96 := by decide +kernel
theorem tn_97 : Int32.toNatClampNeg 97 = 97 := by decide +kernel
theorem tn_98 : Int32.toNatClampNeg 98 = 98 := by decide +kernel
theorem tn_99 : Int32.toNatClampNeg 99 = 99 := by decide +kernel
theorem tn_100 : Int32.toNatClampNeg 100 = 100 := by decide +kernel
theorem tn_101 : Int32.toNatClampNeg 101 = 101 := by decide +kernel
theorem tn_102 : Int32.toNatClampNeg 102 = 102 := by decide +kernel
theorem tn_103 : Int32.toNatClampNeg 103 = 103 := by decide +kernel
theorem tn_104 : Int32.toNatClampNeg 104 = 104 := by decide +kernel
theorem tn_105 : Int32.toNatClampNeg 105 = 105 := by decide +kernel
theorem tn_106 : Int32.toNatClampNeg 106 = 106 := by decide +kernel
theorem tn_107 : Int32.toNatClampNeg 107 = 107 := by decide +kernel
theorem tn_108 : Int32.toNatClampNeg 108 = 108 := by decide +kernel
theorem tn_109 : Int32.toNatClampNeg 109 = 109 := by decide +kernel
theorem tn_110 : Int32.toNatClampNeg 110 = 110 := by decide +kernel
theorem tn_111 : Int32.toNatClampNeg 111 = 111 := by decide +kernel
theorem tn_112 : Int32.toNatClampNeg 112 = 112 := by decide +kernel
theorem tn_113 : Int32.toNatClampNeg 113 = 113 := by decide +kernel
theorem tn_114 : Int32.toNatClampNeg 114 = 114 := by decide +kernel
theorem tn_115 : Int32.toNatClampNeg 115 = 115 := by decide +kernel
theorem tn_116 : Int32.toNatClampNeg 116 = 116 := by decide +kernel
theorem tn_117 : Int32.toNatClampNeg 117 = 117 := by decide +kernel
theorem tn_118 : Int32.toNatClampNeg 118 = 118 := by decide +kernel
theorem tn_119 : Int32.toNatClampNeg 119 = 119 := by decide +kernel
theorem tn_120 : Int32.toNatClampNeg 120 = 120 := by decide +kernel
theorem tn_121 : Int32.toNatClampNeg 121 = 121 := by decide +kernel
theorem tn_122 : Int32.toNatClampNeg 122 = 122 := by decide +kernel
theorem tn_123 : Int32.toNatClampNeg 123 = 123 := by decide +kernel
theorem tn_124 : Int32.toNatClampNeg 124 = 124 := by decide +kernel
theorem tn_125 : Int32.toNatClampNeg 125 = 125 := by decide +kernel
theorem tn_126 : Int32.toNatClampNeg 126 = 126 := by decide +kernel
theorem tn_127 : Int32.toNatClampNeg 127 = 127 := by decide +kernel
theorem tn_128 : Int32.toNatClampNeg 128 = 128 := by decide +kernel
theorem tn_129 : Int32.toNatClampNeg 129 = 129 := by decide +kernel
theorem tn_130 : Int32.toNatClampNeg 130 = 130 := by decide +kernel
theorem tn_131 : Int32.toNatClampNeg 131 = 131 := by decide +kernel
theorem tn_132 : Int32.toNatClampNeg 132 = 132 := by decide +kernel
theorem tn_133 : Int32.toNatClampNeg 133 = 133 := by decide +kernel
theorem tn_134 : Int32.toNatClampNeg 134 = 134 := by decide +kernel
theorem tn_135 : Int32.toNatClampNeg 135 = 135 := by decide +kernel
theorem tn_136 : Int32.toNatClampNeg 136 = 136 := by decide +kernel
theorem tn_137 : Int32.toNatClampNeg 137 = 137 := by decide +kernel
theorem tn_138 : Int32.toNatClampNeg 138 = 138 := by decide +kernel
theorem tn_139 : Int32.toNatClampNeg 139 = 139 := by decide +kernel
theorem tn_140 : Int32.toNatClampNeg 140 = 140 := by decide +kernel
theorem tn_141 : Int32.toNatClampNeg 141 = 141 := by decide +kernel
theorem tn_142 : Int32.toNatClampNeg 142 = 142 := by decide +kernel
theorem tn_143 : Int32.toNatClampNeg 143 = 143 := by decide +kernel
theorem tn_144 : Int32.toNatClampNeg 144 = 144 := by decide +kernel
theorem tn_145 : Int32.toNatClampNeg 145 = 145 := by decide +kernel
theorem tn_146 : Int32.toNatClampNeg 146 = 146 := by decide +kernel
theorem tn_147 : Int32.toNatClampNeg 147 = 147 := by decide +kernel
theorem tn_148 : Int32.toNatClampNeg 148 = 148 := by decide +kernel
theorem tn_149 : Int32.toNatClampNeg 149 = 149 := by decide +kernel
theorem tn_150 : Int32.toNatClampNeg 150 = 150 := by decide +kernel
theorem tn_151 : Int32.toNatClampNeg 151 = 151 := by decide +kernel
theorem tn_152 : Int32.toNatClampNeg 152 = 152 := by decide +kernel
theorem tn_153 : Int32.toNatClampNeg 153 = 153 := by decide +kernel
theorem tn_154 : Int32.toNatClampNeg 154 = 154 := by decide +kernel
theorem tn_155 : Int32.toNatClampNeg 155 = 155 := by decide +kernel
theorem tn_156 : Int32.toNatClampNeg 156 = 156 := by decide +kernel
theorem tn_157 : Int32.toNatClampNeg 157 = 157 := by decide +kernel
theorem tn_158 : Int32.toNatClampNeg 158 = 158 := by decide +kernel
theorem tn_159 : Int32.toNatClampNeg 159 = 159 := by decide +kernel
theorem tn_160 : Int32.toNatClampNeg 160 = 160 := by decide +kernel
theorem tn_161 : Int32.toNatClampNeg 161 = 161 := by decide +kernel
theorem tn_162 : Int32.toNatClampNeg 162 = 162 := by decide +kernel
theorem tn_163 : Int32.toNatClampNeg 163 = 163 := by decide +kernel
theorem tn_164 : Int32.toNatClampNeg 164 = 164 := by decide +kernel
theorem tn_165 : Int32.toNatClampNeg 165 = 165 := by decide +kernel
theorem tn_166 : Int32.toNatClampNeg 166 = 166 := by decide +kernel
theorem tn_167 : Int32.toNatClampNeg 167 = 167 := by decide +kernel
theorem tn_168 : Int32.toNatClampNeg 168 = 168 := by decide +kernel
theorem tn_169 : Int32.toNatClampNeg 169 = 169 := by decide +kernel
theorem tn_170 : Int32.toNatClampNeg 170 = 170 := by decide +kernel
theorem tn_171 : Int32.toNatClampNeg 171 = 171 := by decide +kernel
theorem tn_172 : Int32.toNatClampNeg 172 = 172 := by decide +kernel
theorem tn_173 : Int32.toNatClampNeg 173 = 173 := by decide +kernel
theorem tn_174 : Int32.toNatClampNeg 174 = 174 := by decide +kernel
theorem tn_175 : Int32.toNatClampNeg 175 = 175 := by decide +kernel
theorem tn_176 : Int32.toNatClampNeg 176 = 176 := by decide +kernel
theorem tn_177 : Int32.toNatClampNeg 177 = 177 := by decide +kernel
theorem tn_178 : Int32.toNatClampNeg 178 = 178 := by decide +kernel
theorem tn_179 : Int32.toNatClampNeg 179 = 179 := by decide +kernel
theorem tn_180 : Int32.toNatClampNeg 180 = 180 := by decide +kernel
theorem tn_181 : Int32.toNatClampNeg 181 = 181 := by decide +kernel
theorem tn_182 : Int32.toNatClampNeg 182 = 182 := by decide +kernel
theorem tn_183 : Int32.toNatClampNeg 183 = 183 := by decide +kernel
theorem tn_184 : Int32.toNatClampNeg 184 = 184 := by decide +kernel
theorem tn_185 : Int32.toNatClampNeg 185 = 185 := by decide +kernel
theorem tn_186 : Int32.toNatClampNeg 186 = 186 := by decide +kernel
theorem tn_187 : Int32.toNatClampNeg 187 = 187 := by decide +kernel
theorem tn_188 : Int32.toNatClampNeg 188 = 188 := by decide +kernel
theorem tn_189 : Int32.toNatClampNeg 189 = 189 := by decide +kernel
theorem tn_190 : Int32.toNatClampNeg 190 = 190 := by decide +kernel
theorem tn_191 : Int32.toNatClampNeg 191 = 191 := by decide +kernel
theorem tn_192 : Int32.toNatClampNeg 192 = 192 := by decide +kernel
theorem tn_193 : Int32.toNatClampNeg 193 = 193 := by decide +kernel
theorem tn_194 : Int32.toNatClampNeg 194 = 194 := by decide +kernel
theorem tn_195 : Int32.toNatClampNeg 195 = 195 := by decide +kernel
theorem tn_196 : Int32.toNatClampNeg 196 = 196 := by decide +kernel
theorem tn_197 : Int32.toNatClampNeg 197 = 197 := by decide +kernel
theorem tn_198 : Int32.toNatClampNeg 198 = 198 := by decide +kernel
theorem tn_199 : Int32.toNatClampNeg 199 = 199 := by decide +kernel
theorem tn_255 : Int32.toNatClampNeg 255 = 255 := by decide +kernel
theorem tn_256 : Int32.toNatClampNeg 256 = 256 := by decide +kernel
theorem tn_300 : Int32.toNatClampNeg 300 = 300 := by decide +kernel
theorem tn_399 : Int32.toNatClampNeg 399 = 399 := by decide +kernel
theorem tn_400 : Int32.toNatClampNeg 400 = 400 := by decide +kernel
theorem tn_500 : Int32.toNatClampNeg 500 = 500 := by decide +kernel
theorem tn_900 : Int32.toNatClampNeg 900 = 900 := by decide +kernel
theorem tn_999 : Int32.toNatClampNeg 999 = 999 := by decide +kernel
theorem tn_1000 : Int32.toNatClampNeg 1000 = 1000 := by decide +kernel
theorem tn_1001 : Int32.toNatClampNeg 1001 = 1001 := by decide +kernel
theorem tn_1024 : Int32.toNatClampNeg 1024 = 1024 := by decide +kernel
theorem tn_2048 : Int32.toNatClampNeg 2048 = 2048 := by decide +kernel
theorem tn_2176 : Int32.toNatClampNeg 2176 = 2176 := by decide +kernel
theorem tn_3536 : Int32.toNatClampNeg 3536 = 3536 := by decide +kernel
theorem tn_4095 : Int32.toNatClampNeg 4095 = 4095 := by decide +kernel
theorem tn_4096 : Int32.toNatClampNeg 4096 = 4096 := by decide +kernel
theorem tn_5580 : Int32.toNatClampNeg 5580 = 5580 := by decide +kernel
theorem tn_11160 : Int32.toNatClampNeg 11160 = 11160 := by decide +kernel
theorem tn_12345 : Int32.toNatClampNeg 12345 = 12345 := by decide +kernel
theorem tn_1103 : Int32.toNatClampNeg 1103 = 1103 := by decide +kernel
theorem tn_99999 : Int32.toNatClampNeg 99999 = 99999 := by decide +kernel
theorem tn_1000000 : Int32.toNatClampNeg 1000000 = 1000000 := by decide +kernel
theorem tn_1000003 : Int32.toNatClampNeg 1000003 = 1000003 := by decide +kernel
theorem tn_100000000 : Int32.toNatClampNeg 100000000 = 100000000 := by decide +kernel
theorem tn_1000000000 : Int32.toNatClampNeg 1000000000 = 1000000000 := by decide +kernel
theorem cI_0 : (0 : Int32) = nI 0 := rfl
theorem cI_1 : (1 : Int32) = nI 1 := rfl
theorem cI_2 : (2 : Int32) = nI 2 := rfl
theorem cI_3 : (3 : Int32) = nI 3 := rfl
theorem cI_4 : (4 : Int32) = nI 4 := rfl
theorem cI_5 : (5 : Int32) = nI 5 := rfl
theorem cI_6 : (6 : Int32) = nI 6 := rfl
theorem cI_7 : (7 : Int32) = nI 7 := rfl
theorem cI_8 : (8 : Int32) = nI 8 := rfl
theorem cI_9 : (9 : Int32) = nI 9 := rfl
theorem cI_10 : (10 : Int32) = nI 10 := rfl
theorem cI_11 : (11 : Int32) = nI 11 := rfl
theorem cI_12 : (12 : Int32) = nI 12 := rfl
theorem cI_13 : (13 : Int32) = nI 13 := rfl
theorem cI_14 : (14 : Int32) = nI 14 := rfl
theorem cI_15 : (15 : Int32) = nI 15 := rfl
theorem cI_16 : (16 : Int32) = nI 16 := rfl
theorem cI_17 : (17 : Int32) = nI 17 := rfl
theorem cI_18 : (18 : Int32) = nI 18 := rfl
theorem cI_19 : (19 : Int32) = nI 19 := rfl
theorem cI_20 : (20 : Int32) = nI 20 := rfl
theorem cI_21 : (21 : Int32) = nI 21 := rfl
theorem cI_22 : (22 : Int32) = nI 22 := rfl
theorem cI_23 : (23 : Int32) = nI 23 := rfl
theorem cI_24 : (24 : Int32) = nI 24 := rfl
theorem cI_25 : (25 : Int32) = nI 25 := rfl
theorem cI_26 : (26 : Int32) = nI 26 := rfl
theorem cI_27 : (27 : Int32) = nI 27 := rfl
theorem cI_28 : (28 : Int32) = nI 28 := rfl
theorem cI_29 : (29 : Int32) = nI 29 := rfl
theorem cI_30 : (30 : Int32) = nI 30 := rfl
theorem cI_31 : (31 : Int32) = nI 31 := rfl
theorem cI_32 : (32 : Int32) = nI 32 := rfl
theorem cI_33 : (33 : Int32) = nI 33 := rfl
theorem cI_34 : (34 : Int32) = nI 34 := rfl
theorem cI_35 : (35 : Int32) = nI 35 := rfl
theorem cI_36 : (36 : Int32) = nI 36 := rfl
theorem cI_37 : (37 : Int32) = nI 37 := rfl
theorem cI_38 : (38 : Int32) = nI 38 := rfl
theorem cI_39 : (39 : Int32) = nI 39 := rfl
theorem cI_40 : (40 : Int32) = nI 40 := rfl
theorem cI_41 : (41 : Int32) = nI 41 := rfl
theorem cI_42 : (42 : Int32) = nI 42 := rfl
theorem cI_43 : (43 : Int32) = nI 43 := rfl
theorem cI_44 : (44 : Int32) = nI 44 := rfl
theorem cI_45 : (45 : Int32) = nI 45 := rfl
theorem cI_46 : (46 : Int32) = nI 46 := rfl
theorem cI_47 : (47 : Int32) = nI 47 := rfl
theorem cI_48 : (48 : Int32) = nI 48 := rfl
theorem cI_49 : (49 : Int32) = nI 49 := rfl
theorem cI_50 : (50 : Int32) = nI 50 := rfl
theorem cI_51 : (51 : Int32) = nI 51 := rfl
theorem cI_52 : (52 : Int32) = nI 52 := rfl
theorem cI_53 : (53 : Int32) = nI 53 := rfl
theorem cI_54 : (54 : Int32) = nI 54 := rfl
theorem cI_55 : (55 : Int32) = nI 55 := rfl
theorem cI_56 : (56 : Int32) = nI 56 := rfl
theorem cI_57 : (57 : Int32) = nI 57 := rfl
theorem cI_58 : (58 : Int32) = nI 58 := rfl
theorem cI_59 : (59 : Int32) = nI 59 := rfl
theorem cI_60 : (60 : Int32) = nI 60 := rfl
theorem cI_61 : (61 : Int32) = nI 61 := rfl
theorem cI_62 : (62 : Int32) = nI 62 := rfl
theorem cI_63 : (63 : Int32) = nI 63 := rfl
theorem cI_64 : (64 : Int32) = nI 64 := rfl
theorem cI_65 : (65 : Int32) = nI 65 := rfl
theorem cI_66 : (66 : Int32) = nI 66 := rfl
theorem cI_67 : (67 : Int32) = nI 67 := rfl
theorem cI_68 : (68 : Int32) = nI 68 := rfl
theorem cI_69 : (69 : Int32) = nI 69 := rfl
theorem cI_70 : (70 : Int32) = nI 70 := rfl
theorem cI_71 : (71 : Int32) = nI 71 := rfl
theorem cI_72 : (72 : Int32) = nI 72 := rfl
theorem cI_73 : (73 : Int32) = nI 73 := rfl
theorem cI_74 : (74 : Int32) = nI 74 := rfl
theorem cI_75 : (75 : Int32) = nI 75 := rfl
theorem cI_76 : (76 : Int32) = nI 76 := rfl
theorem cI_77 : (77 : Int32) = nI 77 := rfl
theorem cI_78 : (78 : Int32) = nI 78 := rfl
theorem cI_79 : (79 : Int32) = nI 79 := rfl
theorem cI_80 : (80 : Int32) = nI 80 := rfl
theorem cI_81 : (81 : Int32) = nI 81 := rfl
theorem cI_82 : (82 : Int32) = nI 82 := rfl
theorem cI_83 : (83 : Int32) = nI 83 := rfl
theorem cI_84 : (84 : Int32) = nI 84 := rfl
theorem cI_85 : (85 : Int32) = nI 85 := rfl
theorem cI_86 : (86 : Int32) = nI 86 := rfl
theorem cI_87 : (87 : Int32) = nI 87 := rfl
theorem cI_88 : (88 : Int32) = nI 88 := rfl
theorem cI_89 : (89 : Int32) = nI 89 := rfl
theorem cI_90 : (90 : Int32) = nI 90 := rfl
theorem cI_91 : (91 : Int32) = nI 91 := rfl
theorem cI_92 : (92 : Int32) = nI 92 := rfl
theorem cI_93 : (93 : Int32) = nI 93 := rfl
theorem cI_94 : (94 : Int32) = nI 94 := rfl
theorem cI_95 : (95 : Int32) = nI 95 := rfl
theorem cI_96 : (96 : Int32) = nI 96 := rfl
theorem cI_97 : (97 : Int32) = nI 97 := rfl
theorem cI_98 : (98 : Int32) = nI 98 := rfl
theorem cI_99 : (99 : Int32) = nI 99 := rfl
theorem cI_100 : (100 : Int32) = nI 100 := rfl
theorem cI_101 : (101 : Int32) = nI 101 := rfl
theorem cI_102 : (102 : Int32) = nI 102 := rfl
theorem cI_103 : (103 : Int32) = nI 103 := rfl
theorem cI_104 : (104 : Int32) = nI 104 := rfl
theorem cI_105 : (105 : Int32) = nI 105 := rfl
theorem cI_106 : (106 : Int32) = nI 106 := rfl
theorem cI_107 : (107 : Int32) = nI 107 := rfl
theorem cI_108 : (108 : Int32) = nI 108 := rfl
theorem cI_109 : (109 : Int32) = nI 109 := rfl
theorem cI_110 : (110 : Int32) = nI 110 := rfl
theorem cI_111 : (111 : Int32) = nI 111 := rfl
theorem cI_112 : (112 : Int32) = nI 112 := rfl
theorem cI_113 : (113 : Int32) = nI 113 := rfl
theorem cI_114 : (114 : Int32) = nI 114 := rfl
theorem cI_115 : (115 : Int32) = nI 115 := rfl
theorem cI_116 : (116 : Int32) = nI 116 := rfl
theorem cI_117 : (117 : Int32) = nI 117 := rfl
theorem cI_118 : (118 : Int32) = nI 118 := rfl
theorem cI_119 : (119 : Int32) = nI 119 := rfl
theorem cI_120 : (120 : Int32) = nI 120 := rfl
theorem cI_121 : (121 : Int32) = nI 121 := rfl
theorem cI_122 : (122 : Int32) = nI 122 := rfl
theorem cI_123 : (123 : Int32) = nI 123 := rfl
theorem cI_124 : (124 : Int32) = nI 124 := rfl
theorem cI_125 : (125 : Int32) = nI 125 := rfl
theorem cI_126 : (126 : Int32) = nI 126 := rfl
theorem cI_127 : (127 : Int32) = nI 127 := rfl
theorem cI_128 : (128 : Int32) = nI 128 := rfl
theorem cI_129 : (129 : Int32) = nI 129 := rfl
theorem cI_130 : (130 : Int32) = nI 130 := rfl
theorem cI_131 : (131 : Int32) = nI 131 := rfl
theorem cI_132 : (132 : Int32) = nI 132 := rfl
theorem cI_133 : (133 : Int32) = nI 133 := rfl
theorem cI_134 : (134 : Int32) = nI 134 := rfl
theorem cI_135 : (135 : Int32) = nI 135 := rfl
theorem cI_136 : (136 : Int32) = nI 136 := rfl
theorem cI_137 : (137 : Int32) = nI 137 := rfl
theorem cI_138 : (138 : Int32) = nI 138 := rfl
theorem cI_139 : (139 : Int32) = nI 139 := rfl
theorem cI_140 : (140 : Int32) = nI 140 := rfl
theorem cI_141 : (141 : Int32) = nI 141 := rfl
theorem cI_142 : (142 : Int32) = nI 142 := rfl
theorem cI_143 : (143 : Int32) = nI 143 := rfl
theorem cI_144 : (144 : Int32) = nI 144 := rfl
theorem cI_145 : (145 : Int32) = nI 145 := rfl
theorem cI_146 : (146 : Int32) = nI 146 := rfl
theorem cI_147 : (147 : Int32) = nI 147 := rfl
theorem cI_148 : (148 : Int32) = nI 148 := rfl
theorem cI_149 : (149 : Int32) = nI 149 := rfl
theorem cI_150 : (150 : Int32) = nI 150 := rfl
theorem cI_151 : (151 : Int32) = nI 151 := rfl
theorem cI_152 : (152 : Int32) = nI 152 := rfl
theorem cI_153 : (153 : Int32) = nI 153 := rfl
theorem cI_154 : (154 : Int32) = nI 154 := rfl
theorem cI_155 : (155 : Int32) = nI 155 := rfl
theorem cI_156 : (156 : Int32) = nI 156 := rfl
theorem cI_157 : (157 : Int32) = nI 157 := rfl
theorem cI_158 : (158 : Int32) = nI 158 := rfl
theorem cI_159 : (159 : Int32) = nI 159 := rfl
theorem cI_160 : (160 : Int32) = nI 160 := rfl
theorem cI_161 : (161 : Int32) = nI 161 := rfl
theorem cI_162 : (162 : Int32) = nI 162 := rfl
theorem cI_163 : (163 : Int32) = nI 163 := rfl
theorem cI_164 : (164 : Int32) = nI 164 := rfl
theorem cI_165 : (165 : Int32) = nI 165 := rfl
theorem cI_166 : (166 : Int32) = nI 166 := rfl
theorem cI_167 : (167 : Int32) = nI 167 := rfl
theorem cI_168 : (168 : Int32) = nI 168 := rfl
theorem cI_169 : (169 : Int32) = nI 169 := rfl
theorem cI_170 : (170 : Int32) = nI 170 := rfl
theorem cI_171 : (171 : Int32) = nI 171 := rfl
theorem cI_172 : (172 : Int32) = nI 172 := rfl
theorem cI_173 : (173 : Int32) = nI 173 := rfl
theorem cI_174 : (174 : Int32) = nI 174 := rfl
theorem cI_175 : (175 : Int32) = nI 175 := rfl
theorem cI_176 : (176 : Int32) = nI 176 := rfl
theorem cI_177 : (177 : Int32) = nI 177 := rfl
theorem cI_178 : (178 : Int32) = nI 178 := rfl
theorem cI_179 : (179 : Int32) = nI 179 := rfl
theorem cI_180 : (180 : Int32) = nI 180 := rfl
theorem cI_181 : (181 : Int32) = nI 181 := rfl
theorem cI_182 : (182 : Int32) = nI 182 := rfl
theorem cI_183 : (183 : Int32) = nI 183 := rfl
theorem cI_184 : (184 : Int32) = nI 184 := rfl
theorem cI_185 : (185 : Int32) = nI 185 := rfl
theorem cI_186 : (186 : Int32) = nI 186 := rfl
theorem cI_187 : (187 : Int32) = nI 187 := rfl
theorem cI_188 : (188 : Int32) = nI 188 := rfl
theorem cI_189 : (189 : Int32) = nI 189 := rfl
theorem cI_190 : (190 : Int32) = nI 190 := rfl
theorem cI_191 : (191 : Int32) = nI 191 := rfl
theorem cI_192 : (192 : Int32) = nI 192 := rfl
theorem cI_193 : (193 : Int32) = nI 193 := rfl
theorem cI_194 : (194 : Int32) = nI 194 := rfl
theorem cI_195 : (195 : Int32) = nI 195 := rfl
theorem cI_196 : (196 : Int32) = nI 196 := rfl
theorem cI_197 : (197 : Int32) = nI 197 := rfl
theorem cI_198 : (198 : Int32) = nI 198 := rfl
theorem cI_199 : (199 : Int32) = nI 199 := rfl
theorem cI_255 : (255 : Int32) = nI 255 := rfl
theorem cI_256 : (256 : Int32) = nI 256 := rfl
theorem cI_300 : (300 : Int32) = nI 300 := rfl
theorem cI_399 : (399 : Int32) = nI 399 := rfl
theorem cI_400 : (400 : Int32) = nI 400 := rfl
theorem cI_500 : (500 : Int32) = nI 500 := rfl
theorem cI_900 : (900 : Int32) = nI 900 := rfl
theorem cI_999 : (999 : Int32) = nI 999 := rfl
theorem cI_1000 : (1000 : Int32) = nI 1000 := rfl
theorem cI_1001 : (1001 : Int32) = nI 1001 := rfl
theorem cI_1024 : (1024 : Int32) = nI 1024 := rfl
theorem cI_2048 : (2048 : Int32) = nI 2048 := rfl
theorem cI_2176 : (2176 : Int32) = nI 2176 := rfl
theorem cI_3536 : (3536 : Int32) = nI 3536 := rfl
theorem cI_4095 : (4095 : Int32) = nI 4095 := rfl
theorem cI_4096 : (4096 : Int32) = nI 4096 := rfl
theorem cI_5580 : (5580 : Int32) = nI 5580 := rfl
theorem cI_11160 : (11160 : Int32) = nI 11160 := rfl
theorem cI_12345 : (12345 : Int32) = nI 12345 := rfl
theorem cI_1103 : (1103 : Int32) = nI 1103 := rfl
theorem cI_99999 : (99999 : Int32) = nI 99999 := rfl
theorem cI_1000000 : (1000000 : Int32) = nI 1000000 := rfl
theorem cI_1000003 : (1000003 : Int32) = nI 1000003 := rfl
theorem cI_100000000 : (100000000 : Int32) = nI 100000000 := rfl
theorem cI_1000000000 : (1000000000 : Int32) = nI 1000000000 := rfl
theorem t64_le {x y : Int32} : (x.toInt64 ≤ y.toInt64) = (x ≤ y) := by
  apply propext
  rw [Int64.le_iff_toInt_le, Int32.le_iff_toInt_le]
  simp
theorem t64_lt {x y : Int32} : (x.toInt64 < y.toInt64) = (x < y) := by
  apply propext
  rw [Int64.lt_iff_toInt_lt, Int32.lt_iff_toInt_lt]
  simp
theorem t64_eq {x y : Int32} : (x.toInt64 = y.toInt64) = (x = y) := by
  apply propext
  rw [← Int64.toInt_inj, ← Int32.toInt_inj]
  simp
theorem t64_pred {x y : Int32} : (x.toInt64 ≤ y.toInt64 - 1) = (x < y) := by
  apply propext
  rw [Int64.le_iff_toInt_le, Int32.lt_iff_toInt_lt]
  have h1 := x.toInt_lt
  have h2 := x.le_toInt
  have h3 := y.toInt_lt
  have h4 := y.le_toInt
  have : (y.toInt64 - 1).toInt = y.toInt - 1 := by
    rw [Int64.toInt_sub]
    rw [Int32.toInt_toInt64, show (1 : Int64).toInt = 1 from rfl]
    apply Int.bmod_eq_of_le <;> omega
  rw [this, Int32.toInt_toInt64]
  omega
theorem ite10 {c : Prop} {inst : Decidable c} : ((if c then (1 : Int32) else 0) = 0) = ¬ c := by
  apply propext
  by_cases h : c <;> simp [h]
theorem ite11 {c : Prop} {inst : Decidable c} : ((if c then (1 : Int32) else 0) = 1) = c := by
  apply propext
  by_cases h : c <;> simp [h]
theorem em01 {c : Prop} : (¬ c ∨ c) = True := eq_true (Classical.em c).symm
theorem ite01 {c : Prop} {inst : Decidable c} : ((if c then (1 : Int32) else 0) = 0 ∨ (if c then (1 : Int32) else 0) = 1) = True := by
  apply propext
  by_cases h : c <;> simp [h]
theorem l64_0 {x : Int32} : (x.toInt64 ≤ 0) = (x ≤ 0) := t64_le (y := 0)
theorem g64_0 {x : Int32} : (0 ≤ x.toInt64) = (0 ≤ x) := t64_le (x := 0)
theorem l64_1 {x : Int32} : (x.toInt64 ≤ 1) = (x ≤ 1) := t64_le (y := 1)
theorem g64_1 {x : Int32} : (1 ≤ x.toInt64) = (1 ≤ x) := t64_le (x := 1)
theorem l64_2 {x : Int32} : (x.toInt64 ≤ 2) = (x ≤ 2) := t64_le (y := 2)
theorem g64_2 {x : Int32} : (2 ≤ x.toInt64) = (2 ≤ x) := t64_le (x := 2)
theorem l64_3 {x : Int32} : (x.toInt64 ≤ 3) = (x ≤ 3) := t64_le (y := 3)
theorem g64_3 {x : Int32} : (3 ≤ x.toInt64) = (3 ≤ x) := t64_le (x := 3)
theorem l64_6 {x : Int32} : (x.toInt64 ≤ 6) = (x ≤ 6) := t64_le (y := 6)
theorem g64_6 {x : Int32} : (6 ≤ x.toInt64) = (6 ≤ x) := t64_le (x := 6)
theorem l64_7 {x : Int32} : (x.toInt64 ≤ 7) = (x ≤ 7) := t64_le (y := 7)
theorem g64_7 {x : Int32} : (7 ≤ x.toInt64) = (7 ≤ x) := t64_le (x := 7)
theorem l64_9 {x : Int32} : (x.toInt64 ≤ 9) = (x ≤ 9) := t64_le (y := 9)
theorem g64_9 {x : Int32} : (9 ≤ x.toInt64) = (9 ≤ x) := t64_le (x := 9)
theorem l64_11 {x : Int32} : (x.toInt64 ≤ 11) = (x ≤ 11) := t64_le (y := 11)
theorem g64_11 {x : Int32} : (11 ≤ x.toInt64) = (11 ≤ x) := t64_le (x := 11)
theorem l64_12 {x : Int32} : (x.toInt64 ≤ 12) = (x ≤ 12) := t64_le (y := 12)
theorem g64_12 {x : Int32} : (12 ≤ x.toInt64) = (12 ≤ x) := t64_le (x := 12)
theorem l64_20 {x : Int32} : (x.toInt64 ≤ 20) = (x ≤ 20) := t64_le (y := 20)
theorem g64_20 {x : Int32} : (20 ≤ x.toInt64) = (20 ≤ x) := t64_le (x := 20)
theorem l64_30 {x : Int32} : (x.toInt64 ≤ 30) = (x ≤ 30) := t64_le (y := 30)
theorem g64_30 {x : Int32} : (30 ≤ x.toInt64) = (30 ≤ x) := t64_le (x := 30)
theorem l64_50 {x : Int32} : (x.toInt64 ≤ 50) = (x ≤ 50) := t64_le (y := 50)
theorem g64_50 {x : Int32} : (50 ≤ x.toInt64) = (50 ≤ x) := t64_le (x := 50)
theorem l64_60 {x : Int32} : (x.toInt64 ≤ 60) = (x ≤ 60) := t64_le (y := 60)
theorem g64_60 {x : Int32} : (60 ≤ x.toInt64) = (60 ≤ x) := t64_le (x := 60)
theorem l64_99 {x : Int32} : (x.toInt64 ≤ 99) = (x ≤ 99) := t64_le (y := 99)
theorem g64_99 {x : Int32} : (99 ≤ x.toInt64) = (99 ≤ x) := t64_le (x := 99)
theorem l64_999 {x : Int32} : (x.toInt64 ≤ 999) = (x ≤ 999) := t64_le (y := 999)
theorem g64_999 {x : Int32} : (999 ≤ x.toInt64) = (999 ≤ x) := t64_le (x := 999)
theorem l64_1000 {x : Int32} : (x.toInt64 ≤ 1000) = (x ≤ 1000) := t64_le (y := 1000)
theorem g64_1000 {x : Int32} : (1000 ≤ x.toInt64) = (1000 ≤ x) := t64_le (x := 1000)
theorem l64_99999 {x : Int32} : (x.toInt64 ≤ 99999) = (x ≤ 99999) := t64_le (y := 99999)
theorem g64_99999 {x : Int32} : (99999 ≤ x.toInt64) = (99999 ≤ x) := t64_le (x := 99999)
theorem l64_1000000 {x : Int32} : (x.toInt64 ≤ 1000000) = (x ≤ 1000000) := t64_le (y := 1000000)
theorem g64_1000000 {x : Int32} : (1000000 ≤ x.toInt64) = (1000000 ≤ x) := t64_le (x := 1000000)
theorem l64_1000000000 {x : Int32} : (x.toInt64 ≤ 1000000000) = (x ≤ 1000000000) := t64_le (y := 1000000000)
theorem g64_1000000000 {x : Int32} : (1000000000 ≤ x.toInt64) = (1000000000 ≤ x) := t64_le (x := 1000000000)
theorem g64_m1 {x : Int32} : ((-1) ≤ x.toInt64) = ((-1) ≤ x) := t64_le (x := -1)
theorem cl_lt {x : Int32} {n : Nat} (h : x < Int32.ofNat n) (h0 : 0 ≤ x) (hn : n < 2 ^ 31) : x.toNatClampNeg < n := by
  have h1 := Int32.lt_iff_toInt_lt.mp h
  have h2 := Int32.le_iff_toInt_le.mp h0
  rw [Int32.toInt_ofNat_of_lt hn] at h1
  simp at h2
  show x.toInt.toNat < n
  omega
theorem ge0_0 : ((0 : Int32) ≤ 0) = True := eq_true (by decide +kernel)
theorem ge0_1 : ((0 : Int32) ≤ 1) = True := eq_true (by decide +kernel)
theorem ge0_2 : ((0 : Int32) ≤ 2) = True := eq_true (by decide +kernel)
theorem ge0_3 : ((0 : Int32) ≤ 3) = True := eq_true (by decide +kernel)
theorem ge0_4 : ((0 : Int32) ≤ 4) = True := eq_true (by decide +kernel)
theorem ge0_5 : ((0 : Int32) ≤ 5) = True := eq_true (by decide +kernel)
theorem ge0_6 : ((0 : Int32) ≤ 6) = True := eq_true (by decide +kernel)
theorem ge0_7 : ((0 : Int32) ≤ 7) = True := eq_true (by decide +kernel)
theorem ge0_8 : ((0 : Int32) ≤ 8) = True := eq_true (by decide +kernel)
theorem ge0_9 : ((0 : Int32) ≤ 9) = True := eq_true (by decide +kernel)
theorem ge0_10 : ((0 : Int32) ≤ 10) = True := eq_true (by decide +kernel)
theorem ge0_11 : ((0 : Int32) ≤ 11) = True := eq_true (by decide +kernel)
theorem ge0_12 : ((0 : Int32) ≤ 12) = True := eq_true (by decide +kernel)
theorem ge0_13 : ((0 : Int32) ≤ 13) = True := eq_true (by decide +kernel)
theorem ge0_14 : ((0 : Int32) ≤ 14) = True := eq_true (by decide +kernel)
theorem ge0_15 : ((0 : Int32) ≤ 15) = True := eq_true (by decide +kernel)
theorem ge0_16 : ((0 : Int32) ≤ 16) = True := eq_true (by decide +kernel)
theorem ge0_17 : ((0 : Int32) ≤ 17) = True := eq_true (by decide +kernel)
theorem ge0_18 : ((0 : Int32) ≤ 18) = True := eq_true (by decide +kernel)
theorem ge0_19 : ((0 : Int32) ≤ 19) = True := eq_true (by decide +kernel)
theorem ge0_20 : ((0 : Int32) ≤ 20) = True := eq_true (by decide +kernel)
theorem ge0_21 : ((0 : Int32) ≤ 21) = True := eq_true (by decide +kernel)
theorem ge0_22 : ((0 : Int32) ≤ 22) = True := eq_true (by decide +kernel)
theorem ge0_23 : ((0 : Int32) ≤ 23) = True := eq_true (by decide +kernel)
theorem ge0_24 : ((0 : Int32) ≤ 24) = True := eq_true (by decide +kernel)
theorem ge0_25 : ((0 : Int32) ≤ 25) = True := eq_true (by decide +kernel)
theorem ge0_26 : ((0 : Int32) ≤ 26) = True := eq_true (by decide +kernel)
theorem ge0_27 : ((0 : Int32) ≤ 27) = True := eq_true (by decide +kernel)
theorem ge0_28 : ((0 : Int32) ≤ 28) = True := eq_true (by decide +kernel)
theorem ge0_29 : ((0 : Int32) ≤ 29) = True := eq_true (by decide +kernel)
theorem ge0_30 : ((0 : Int32) ≤ 30) = True := eq_true (by decide +kernel)
theorem ge0_31 : ((0 : Int32) ≤ 31) = True := eq_true (by decide +kernel)
theorem ge0_32 : ((0 : Int32) ≤ 32) = True := eq_true (by decide +kernel)
theorem ge0_33 : ((0 : Int32) ≤ 33) = True := eq_true (by decide +kernel)
theorem ge0_34 : ((0 : Int32) ≤ 34) = True := eq_true (by decide +kernel)
theorem ge0_35 : ((0 : Int32) ≤ 35) = True := eq_true (by decide +kernel)
theorem ge0_36 : ((0 : Int32) ≤ 36) = True := eq_true (by decide +kernel)
theorem ge0_37 : ((0 : Int32) ≤ 37) = True := eq_true (by decide +kernel)
theorem ge0_38 : ((0 : Int32) ≤ 38) = True := eq_true (by decide +kernel)
theorem ge0_39 : ((0 : Int32) ≤ 39) = True := eq_true (by decide +kernel)
theorem ge0_40 : ((0 : Int32) ≤ 40) = True := eq_true (by decide +kernel)
theorem ge0_41 : ((0 : Int32) ≤ 41) = True := eq_true (by decide +kernel)
theorem ge0_42 : ((0 : Int32) ≤ 42) = True := eq_true (by decide +kernel)
theorem ge0_43 : ((0 : Int32) ≤ 43) = True := eq_true (by decide +kernel)
theorem ge0_44 : ((0 : Int32) ≤ 44) = True := eq_true (by decide +kernel)
theorem ge0_45 : ((0 : Int32) ≤ 45) = True := eq_true (by decide +kernel)
theorem ge0_46 : ((0 : Int32) ≤ 46) = True := eq_true (by decide +kernel)
theorem ge0_47 : ((0 : Int32) ≤ 47) = True := eq_true (by decide +kernel)
theorem ge0_48 : ((0 : Int32) ≤ 48) = True := eq_true (by decide +kernel)
theorem ge0_49 : ((0 : Int32) ≤ 49) = True := eq_true (by decide +kernel)
theorem ge0_50 : ((0 : Int32) ≤ 50) = True := eq_true (by decide +kernel)
theorem ge0_51 : ((0 : Int32) ≤ 51) = True := eq_true (by decide +kernel)
theorem ge0_52 : ((0 : Int32) ≤ 52) = True := eq_true (by decide +kernel)
theorem ge0_53 : ((0 : Int32) ≤ 53) = True := eq_true (by decide +kernel)
theorem ge0_54 : ((0 : Int32) ≤ 54) = True := eq_true (by decide +kernel)
theorem ge0_55 : ((0 : Int32) ≤ 55) = True := eq_true (by decide +kernel)
theorem ge0_56 : ((0 : Int32) ≤ 56) = True := eq_true (by decide +kernel)
theorem ge0_57 : ((0 : Int32) ≤ 57) = True := eq_true (by decide +kernel)
theorem ge0_58 : ((0 : Int32) ≤ 58) = True := eq_true (by decide +kernel)
theorem ge0_59 : ((0 : Int32) ≤ 59) = True := eq_true (by decide +kernel)
theorem ge0_60 : ((0 : Int32) ≤ 60) = True := eq_true (by decide +kernel)
theorem ge0_61 : ((0 : Int32) ≤ 61) = True := eq_true (by decide +kernel)
theorem ge0_62 : ((0 : Int32) ≤ 62) = True := eq_true (by decide +kernel)
theorem ge0_63 : ((0 : Int32) ≤ 63) = True := eq_true (by decide +kernel)
theorem ge0_64 : ((0 : Int32) ≤ 64) = True := eq_true (by decide +kernel)
theorem ge0_65 : ((0 : Int32) ≤ 65) = True := eq_true (by decide +kernel)
theorem ge0_66 : ((0 : Int32) ≤ 66) = True := eq_true (by decide +kernel)
theorem ge0_67 : ((0 : Int32) ≤ 67) = True := eq_true (by decide +kernel)
theorem ge0_68 : ((0 : Int32) ≤ 68) = True := eq_true (by decide +kernel)
theorem ge0_69 : ((0 : Int32) ≤ 69) = True := eq_true (by decide +kernel)
theorem ge0_70 : ((0 : Int32) ≤ 70) = True := eq_true (by decide +kernel)
theorem ge0_71 : ((0 : Int32) ≤ 71) = True := eq_true (by decide +kernel)
theorem ge0_72 : ((0 : Int32) ≤ 72) = True := eq_true (by decide +kernel)
theorem ge0_73 : ((0 : Int32) ≤ 73) = True := eq_true (by decide +kernel)
theorem ge0_74 : ((0 : Int32) ≤ 74) = True := eq_true (by decide +kernel)
theorem ge0_75 : ((0 : Int32) ≤ 75) = True := eq_true (by decide +kernel)
theorem ge0_76 : ((0 : Int32) ≤ 76) = True := eq_true (by decide +kernel)
theorem ge0_77 : ((0 : Int32) ≤ 77) = True := eq_true (by decide +kernel)
theorem ge0_78 : ((0 : Int32) ≤ 78) = True := eq_true (by decide +kernel)
theorem ge0_79 : ((0 : Int32) ≤ 79) = True := eq_true (by decide +kernel)
theorem ge0_80 : ((0 : Int32) ≤ 80) = True := eq_true (by decide +kernel)
theorem ge0_81 : ((0 : Int32) ≤ 81) = True := eq_true (by decide +kernel)
theorem ge0_82 : ((0 : Int32) ≤ 82) = True := eq_true (by decide +kernel)
theorem ge0_83 : ((0 : Int32) ≤ 83) = True := eq_true (by decide +kernel)
theorem ge0_84 : ((0 : Int32) ≤ 84) = True := eq_true (by decide +kernel)
theorem ge0_85 : ((0 : Int32) ≤ 85) = True := eq_true (by decide +kernel)
theorem ge0_86 : ((0 : Int32) ≤ 86) = True := eq_true (by decide +kernel)
theorem ge0_87 : ((0 : Int32) ≤ 87) = True := eq_true (by decide +kernel)
theorem ge0_88 : ((0 : Int32) ≤ 88) = True := eq_true (by decide +kernel)
theorem ge0_89 : ((0 : Int32) ≤ 89) = True := eq_true (by decide +kernel)
theorem ge0_90 : ((0 : Int32) ≤ 90) = True := eq_true (by decide +kernel)
theorem ge0_91 : ((0 : Int32) ≤ 91) = True := eq_true (by decide +kernel)
theorem ge0_92 : ((0 : Int32) ≤ 92) = True := eq_true (by decide +kernel)
theorem ge0_93 : ((0 : Int32) ≤ 93) = True := eq_true (by decide +kernel)
theorem ge0_94 : ((0 : Int32) ≤ 94) = True := eq_true (by decide +kernel)
theorem ge0_95 : ((0 : Int32) ≤ 95) = True := eq_true (by decide +kernel)
theorem ge0_96 : ((0 : Int32) ≤ 96) = True := eq_true (by decide +kernel)
theorem ge0_97 : ((0 : Int32) ≤ 97) = True := eq_true (by decide +kernel)
theorem ge0_98 : ((0 : Int32) ≤ 98) = True := eq_true (by decide +kernel)
theorem ge0_99 : ((0 : Int32) ≤ 99) = True := eq_true (by decide +kernel)
theorem ge0_100 : ((0 : Int32) ≤ 100) = True := eq_true (by decide +kernel)
theorem ge0_101 : ((0 : Int32) ≤ 101) = True := eq_true (by decide +kernel)
theorem ge0_102 : ((0 : Int32) ≤ 102) = True := eq_true (by decide +kernel)
theorem ge0_103 : ((0 : Int32) ≤ 103) = True := eq_true (by decide +kernel)
theorem ge0_104 : ((0 : Int32) ≤ 104) = True := eq_true (by decide +kernel)
theorem ge0_105 : ((0 : Int32) ≤ 105) = True := eq_true (by decide +kernel)
theorem ge0_106 : ((0 : Int32) ≤ 106) = True := eq_true (by decide +kernel)
theorem ge0_107 : ((0 : Int32) ≤ 107) = True := eq_true (by decide +kernel)
theorem ge0_108 : ((0 : Int32) ≤ 108) = True := eq_true (by decide +kernel)
theorem ge0_109 : ((0 : Int32) ≤ 109) = True := eq_true (by decide +kernel)
theorem ge0_110 : ((0 : Int32) ≤ 110) = True := eq_true (by decide +kernel)
theorem ge0_111 : ((0 : Int32) ≤ 111) = True := eq_true (by decide +kernel)
theorem ge0_112 : ((0 : Int32) ≤ 112) = True := eq_true (by decide +kernel)
theorem ge0_113 : ((0 : Int32) ≤ 113) = True := eq_true (by decide +kernel)
theorem ge0_114 : ((0 : Int32) ≤ 114) = True := eq_true (by decide +kernel)
theorem ge0_115 : ((0 : Int32) ≤ 115) = True := eq_true (by decide +kernel)
theorem ge0_116 : ((0 : Int32) ≤ 116) = True := eq_true (by decide +kernel)
theorem ge0_117 : ((0 : Int32) ≤ 117) = True := eq_true (by decide +kernel)
theorem ge0_118 : ((0 : Int32) ≤ 118) = True := eq_true (by decide +kernel)
theorem ge0_119 : ((0 : Int32) ≤ 119) = True := eq_true (by decide +kernel)
theorem ge0_120 : ((0 : Int32) ≤ 120) = True := eq_true (by decide +kernel)
theorem ge0_121 : ((0 : Int32) ≤ 121) = True := eq_true (by decide +kernel)
theorem ge0_122 : ((0 : Int32) ≤ 122) = True := eq_true (by decide +kernel)
theorem ge0_123 : ((0 : Int32) ≤ 123) = True := eq_true (by decide +kernel)
theorem ge0_124 : ((0 : Int32) ≤ 124) = True := eq_true (by decide +kernel)
theorem ge0_125 : ((0 : Int32) ≤ 125) = True := eq_true (by decide +kernel)
theorem ge0_126 : ((0 : Int32) ≤ 126) = True := eq_true (by decide +kernel)
theorem ge0_127 : ((0 : Int32) ≤ 127) = True := eq_true (by decide +kernel)
theorem ge0_128 : ((0 : Int32) ≤ 128) = True := eq_true (by decide +kernel)
theorem ge0_129 : ((0 : Int32) ≤ 129) = True := eq_true (by decide +kernel)
theorem ge0_130 : ((0 : Int32) ≤ 130) = True := eq_true (by decide +kernel)
theorem ge0_131 : ((0 : Int32) ≤ 131) = True := eq_true (by decide +kernel)
theorem ge0_132 : ((0 : Int32) ≤ 132) = True := eq_true (by decide +kernel)
theorem ge0_133 : ((0 : Int32) ≤ 133) = True := eq_true (by decide +kernel)
theorem ge0_134 : ((0 : Int32) ≤ 134) = True := eq_true (by decide +kernel)
theorem ge0_135 : ((0 : Int32) ≤ 135) = True := eq_true (by decide +kernel)
theorem ge0_136 : ((0 : Int32) ≤ 136) = True := eq_true (by decide +kernel)
theorem ge0_137 : ((0 : Int32) ≤ 137) = True := eq_true (by decide +kernel)
theorem ge0_138 : ((0 : Int32) ≤ 138) = True := eq_true (by decide +kernel)
theorem ge0_139 : ((0 : Int32) ≤ 139) = True := eq_true (by decide +kernel)
theorem ge0_140 : ((0 : Int32) ≤ 140) = True := eq_true (by decide +kernel)
theorem ge0_141 : ((0 : Int32) ≤ 141) = True := eq_true (by decide +kernel)
theorem ge0_142 : ((0 : Int32) ≤ 142) = True := eq_true (by decide +kernel)
theorem ge0_143 : ((0 : Int32) ≤ 143) = True := eq_true (by decide +kernel)
theorem ge0_144 : ((0 : Int32) ≤ 144) = True := eq_true (by decide +kernel)
theorem ge0_145 : ((0 : Int32) ≤ 145) = True := eq_true (by decide +kernel)
theorem ge0_146 : ((0 : Int32) ≤ 146) = True := eq_true (by decide +kernel)
theorem ge0_147 : ((0 : Int32) ≤ 147) = True := eq_true (by decide +kernel)
theorem ge0_148 : ((0 : Int32) ≤ 148) = True := eq_true (by decide +kernel)
theorem ge0_149 : ((0 : Int32) ≤ 149) = True := eq_true (by decide +kernel)
theorem ge0_150 : ((0 : Int32) ≤ 150) = True := eq_true (by decide +kernel)
theorem ge0_151 : ((0 : Int32) ≤ 151) = True := eq_true (by decide +kernel)
theorem ge0_152 : ((0 : Int32) ≤ 152) = True := eq_true (by decide +kernel)
theorem ge0_153 : ((0 : Int32) ≤ 153) = True := eq_true (by decide +kernel)
theorem ge0_154 : ((0 : Int32) ≤ 154) = True := eq_true (by decide +kernel)
theorem ge0_155 : ((0 : Int32) ≤ 155) = True := eq_true (by decide +kernel)
theorem ge0_156 : ((0 : Int32) ≤ 156) = True := eq_true (by decide +kernel)
theorem ge0_157 : ((0 : Int32) ≤ 157) = True := eq_true (by decide +kernel)
theorem ge0_158 : ((0 : Int32) ≤ 158) = True := eq_true (by decide +kernel)
theorem ge0_159 : ((0 : Int32) ≤ 159) = True := eq_true (by decide +kernel)
theorem ge0_160 : ((0 : Int32) ≤ 160) = True := eq_true (by decide +kernel)
theorem ge0_161 : ((0 : Int32) ≤ 161) = True := eq_true (by decide +kernel)
theorem ge0_162 : ((0 : Int32) ≤ 162) = True := eq_true (by decide +kernel)
theorem ge0_163 : ((0 : Int32) ≤ 163) = True := eq_true (by decide +kernel)
theorem ge0_164 : ((0 : Int32) ≤ 164) = True := eq_true (by decide +kernel)
theorem ge0_165 : ((0 : Int32) ≤ 165) = True := eq_true (by decide +kernel)
theorem ge0_166 : ((0 : Int32) ≤ 166) = True := eq_true (by decide +kernel)
theorem ge0_167 : ((0 : Int32) ≤ 167) = True := eq_true (by decide +kernel)
theorem ge0_168 : ((0 : Int32) ≤ 168) = True := eq_true (by decide +kernel)
theorem ge0_169 : ((0 : Int32) ≤ 169) = True := eq_true (by decide +kernel)
theorem ge0_170 : ((0 : Int32) ≤ 170) = True := eq_true (by decide +kernel)
theorem ge0_171 : ((0 : Int32) ≤ 171) = True := eq_true (by decide +kernel)
theorem ge0_172 : ((0 : Int32) ≤ 172) = True := eq_true (by decide +kernel)
theorem ge0_173 : ((0 : Int32) ≤ 173) = True := eq_true (by decide +kernel)
theorem ge0_174 : ((0 : Int32) ≤ 174) = True := eq_true (by decide +kernel)
theorem ge0_175 : ((0 : Int32) ≤ 175) = True := eq_true (by decide +kernel)
theorem ge0_176 : ((0 : Int32) ≤ 176) = True := eq_true (by decide +kernel)
theorem ge0_177 : ((0 : Int32) ≤ 177) = True := eq_true (by decide +kernel)
theorem ge0_178 : ((0 : Int32) ≤ 178) = True := eq_true (by decide +kernel)
theorem ge0_179 : ((0 : Int32) ≤ 179) = True := eq_true (by decide +kernel)
theorem ge0_180 : ((0 : Int32) ≤ 180) = True := eq_true (by decide +kernel)
theorem ge0_181 : ((0 : Int32) ≤ 181) = True := eq_true (by decide +kernel)
theorem ge0_182 : ((0 : Int32) ≤ 182) = True := eq_true (by decide +kernel)
theorem ge0_183 : ((0 : Int32) ≤ 183) = True := eq_true (by decide +kernel)
theorem ge0_184 : ((0 : Int32) ≤ 184) = True := eq_true (by decide +kernel)
theorem ge0_185 : ((0 : Int32) ≤ 185) = True := eq_true (by decide +kernel)
theorem ge0_186 : ((0 : Int32) ≤ 186) = True := eq_true (by decide +kernel)
theorem ge0_187 : ((0 : Int32) ≤ 187) = True := eq_true (by decide +kernel)
theorem ge0_188 : ((0 : Int32) ≤ 188) = True := eq_true (by decide +kernel)
theorem ge0_189 : ((0 : Int32) ≤ 189) = True := eq_true (by decide +kernel)
theorem ge0_190 : ((0 : Int32) ≤ 190) = True := eq_true (by decide +kernel)
theorem ge0_191 : ((0 : Int32) ≤ 191) = True := eq_true (by decide +kernel)
theorem ge0_192 : ((0 : Int32) ≤ 192) = True := eq_true (by decide +kernel)
theorem ge0_193 : ((0 : Int32) ≤ 193) = True := eq_true (by decide +kernel)
theorem ge0_194 : ((0 : Int32) ≤ 194) = True := eq_true (by decide +kernel)
theorem ge0_195 : ((0 : Int32) ≤ 195) = True := eq_true (by decide +kernel)
theorem ge0_196 : ((0 : Int32) ≤ 196) = True := eq_true (by decide +kernel)
theorem ge0_197 : ((0 : Int32) ≤ 197) = True := eq_true (by decide +kernel)
theorem ge0_198 : ((0 : Int32) ≤ 198) = True := eq_true (by decide +kernel)
theorem ge0_199 : ((0 : Int32) ≤ 199) = True := eq_true (by decide +kernel)
theorem ge0_255 : ((0 : Int32) ≤ 255) = True := eq_true (by decide +kernel)
theorem ge0_256 : ((0 : Int32) ≤ 256) = True := eq_true (by decide +kernel)
theorem ge0_300 : ((0 : Int32) ≤ 300) = True := eq_true (by decide +kernel)
theorem ge0_399 : ((0 : Int32) ≤ 399) = True := eq_true (by decide +kernel)
theorem ge0_400 : ((0 : Int32) ≤ 400) = True := eq_true (by decide +kernel)
theorem ge0_500 : ((0 : Int32) ≤ 500) = True := eq_true (by decide +kernel)
theorem ge0_900 : ((0 : Int32) ≤ 900) = True := eq_true (by decide +kernel)
theorem ge0_999 : ((0 : Int32) ≤ 999) = True := eq_true (by decide +kernel)
theorem ge0_1000 : ((0 : Int32) ≤ 1000) = True := eq_true (by decide +kernel)
theorem ge0_1001 : ((0 : Int32) ≤ 1001) = True := eq_true (by decide +kernel)
theorem ge0_1024 : ((0 : Int32) ≤ 1024) = True := eq_true (by decide +kernel)
theorem ge0_2048 : ((0 : Int32) ≤ 2048) = True := eq_true (by decide +kernel)
theorem ge0_2176 : ((0 : Int32) ≤ 2176) = True := eq_true (by decide +kernel)
theorem ge0_3536 : ((0 : Int32) ≤ 3536) = True := eq_true (by decide +kernel)
theorem ge0_4095 : ((0 : Int32) ≤ 4095) = True := eq_true (by decide +kernel)
theorem ge0_4096 : ((0 : Int32) ≤ 4096) = True := eq_true (by decide +kernel)
theorem ge0_5580 : ((0 : Int32) ≤ 5580) = True := eq_true (by decide +kernel)
theorem ge0_11160 : ((0 : Int32) ≤ 11160) = True := eq_true (by decide +kernel)
theorem ge0_12345 : ((0 : Int32) ≤ 12345) = True := eq_true (by decide +kernel)
theorem ge0_1103 : ((0 : Int32) ≤ 1103) = True := eq_true (by decide +kernel)
theorem ge0_99999 : ((0 : Int32) ≤ 99999) = True := eq_true (by decide +kernel)
theorem ge0_1000000 : ((0 : Int32) ≤ 1000000) = True := eq_true (by decide +kernel)
theorem ge0_1000003 : ((0 : Int32) ≤ 1000003) = True := eq_true (by decide +kernel)
theorem ge0_100000000 : ((0 : Int32) ≤ 100000000) = True := eq_true (by decide +kernel)
theorem ge0_1000000000 : ((0 : Int32) ≤ 1000000000) = True := eq_true (by decide +kernel)
