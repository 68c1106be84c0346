/-! the cells behind the constructors: printed out of a run of them (proved of the machine further on) -/
def bt_shl : List (Nat × Nat) := [(10, 14), (7, 10), (12, 1000), (14, 30), (3, 8), (13, 40), (0, 6), (13, 5), (13, 1000), (13, 32), (1, 9), (13, 6), (13, 6), (13, 24), (13, 6), (13, 6), (13, 5), (13, 5), (13, 6), (5, 9), (1, 9), (13, 6), (13, 6), (13, 24), (13, 6), (13, 6), (13, 5), (13, 5), (13, 6), (6, 5), (13, 6), (13, 6), (13, 5), (13, 6), (13, 6), (13, 1792), (8, 5), (1, 9), (13, 6), (13, 6), (13, 24), (13, 6), (13, 6), (13, 5), (13, 5), (13, 6), (17, 6), (6, 5), (13, 6), (13, 6), (13, 5), (6, 5), (13, 6), (13, 6), (13, 5), (6, 5), (13, 6), (13, 6), (13, 5), (6, 5), (13, 6), (13, 6), (13, 5), (6, 5), (13, 6), (13, 6), (13, 5), (6, 5), (13, 6), (13, 6), (13, 5), (4, 5), (13, 6), (13, 6), (13, 6), (9, 20), (14, 6), (14, 6), (14, 5), (13, 6), (13, 6), (13, 5), (13, 6), (13, 36), (13, 120), (13, 720), (6, 5), (13, 6), (13, 6), (13, 5), (9, 20), (14, 6), (14, 6), (14, 5), (13, 6), (13, 6), (13, 5), (13, 6), (13, 36), (13, 120), (13, 720), (6, 5), (13, 6), (13, 6), (13, 5), (2, 6), (6, 5), (13, 6), (13, 6), (13, 5), (13, 40), (16, 4), (2, 6), (6, 5), (13, 6), (13, 6), (13, 5), (13, 40), (2, 6), (6, 5), (13, 6), (13, 6), (13, 5), (13, 40), (2, 6), (6, 5), (13, 6), (13, 6), (13, 5), (13, 40), (2, 6), (6, 5), (13, 6), (13, 6), (13, 5), (13, 40), (6, 5), (13, 6), (13, 6), (13, 5), (17, 16), (6, 5), (13, 6), (13, 6), (13, 5), (6, 5), (13, 6), (13, 6), (13, 5), (6, 5), (13, 6), (13, 6), (13, 5), (6, 5), (13, 6), (13, 6), (13, 5), (6, 5), (13, 6), (13, 6), (13, 5), (6, 5), (13, 6), (13, 6), (13, 5), (6, 5), (13, 6), (13, 6), (13, 5), (6, 5), (13, 6), (13, 6), (13, 5), (6, 5), (13, 6), (13, 6), (13, 5), (6, 5), (13, 6), (13, 6), (13, 5), (6, 5), (13, 6), (13, 6), (13, 5), (6, 5), (13, 6), (13, 6), (13, 5), (6, 5), (13, 6), (13, 6), (13, 5), (6, 5), (13, 6), (13, 6), (13, 5), (6, 5), (13, 6), (13, 6), (13, 5), (6, 5), (13, 6), (13, 6), (13, 5), (11, 76), (13, 1000), (13, 18), (14, 12), (14, 12), (14, 10), (13, 12), (13, 12), (13, 12), (13, 12), (13, 10), (13, 10), (13, 72), (13, 12), (13, 4), (13, 4), (13, 2000), (13, 7), (15, 7), (13, 7), (13, 7), (13, 7), (13, 7), (13, 7), (13, 7), (13, 7), (13, 7), (13, 7), (13, 20), (13, 6), (13, 240), (13, 240), (13, 240), (13, 5), (13, 5), (13, 19), (13, 19), (13, 133), (13, 76), (13, 304), (15, 4), (13, 320), (13, 6), (13, 6), (13, 5), (13, 5), (13, 6), (13, 6), (13, 6), (13, 6), (13, 6), (13, 6), (13, 6), (13, 36), (13, 6), (13, 6), (14, 1)]
def bt_sh0 (a : Nat) : Nat × Nat := bt_shl.getD a (99, 0)
def bt_rfl : List (List (Option Nat)) := [[some 1, some 4, some 10, some 19, some 36, some 71, some 75, some 90, some 105, some 111, some 136, some 140, none, none], [some 2, some 3, none, none, none, none, none, none, none, none], [], [], [some 1, some 6, some 5, none, none, none, none, none], [], [some 1, some 7, some 8, some 9, none, none], [], [], [], [some 11, some 12, some 13, some 14, some 15, some 16, some 17, some 18, none], [], [], [], [], [], [], [], [], [some 20, some 29, some 33, some 34, some 35, none, none, none, none], [some 21, some 22, some 23, some 24, some 25, some 26, some 27, some 28, none], [], [], [], [], [], [], [], [], [none, none, some 30, some 31, some 32], [], [], [], [], [], [], [some 37, some 46, none, none, none], [some 38, some 39, some 40, some 41, some 42, some 43, some 44, some 45, none], [], [], [], [], [], [], [], [], [some 47, some 51, some 55, some 59, some 63, some 67], [none, none, some 48, some 49, some 50], [], [], [], [none, none, some 52, some 53, some 54], [], [], [], [none, none, some 56, some 57, some 58], [], [], [], [none, none, some 60, some 61, some 62], [], [], [], [none, none, some 64, some 65, some 66], [], [], [], [none, none, some 68, some 69, some 70], [], [], [], [some 72, some 73, some 74, none, none], [], [], [], [none, none, none, none, none, none, none, none, none, some 76, some 77, some 78, some 79, some 80, some 81, some 82, some 83, some 84, some 85, some 86], [], [], [], [], [], [], [], [], [], [], [none, none, some 87, some 88, some 89], [], [], [], [none, none, none, none, none, none, none, none, none, some 91, some 92, some 93, some 94, some 95, some 96, some 97, some 98, some 99, some 100, some 101], [], [], [], [], [], [], [], [], [], [], [none, none, some 102, some 103, some 104], [], [], [], [some 106, some 110, none, none, none, none], [none, none, some 107, some 108, some 109], [], [], [], [], [some 112, some 118, some 124, some 130], [some 113, some 117, none, none, none, none], [none, none, some 114, some 115, some 116], [], [], [], [], [some 119, some 123, none, none, none, none], [none, none, some 120, some 121, some 122], [], [], [], [], [some 125, some 129, none, none, none, none], [none, none, some 126, some 127, some 128], [], [], [], [], [some 131, some 135, none, none, none, none], [none, none, some 132, some 133, some 134], [], [], [], [], [none, none, some 137, some 138, some 139], [], [], [], [some 141, some 145, some 149, some 153, some 157, some 161, some 165, some 169, some 173, some 177, some 181, some 185, some 189, some 193, some 197, some 201], [none, none, some 142, some 143, some 144], [], [], [], [none, none, some 146, some 147, some 148], [], [], [], [none, none, some 150, some 151, some 152], [], [], [], [none, none, some 154, some 155, some 156], [], [], [], [none, none, some 158, some 159, some 160], [], [], [], [none, none, some 162, some 163, some 164], [], [], [], [none, none, some 166, some 167, some 168], [], [], [], [none, none, some 170, some 171, some 172], [], [], [], [none, none, some 174, some 175, some 176], [], [], [], [none, none, some 178, some 179, some 180], [], [], [], [none, none, some 182, some 183, some 184], [], [], [], [none, none, some 186, some 187, some 188], [], [], [], [none, none, some 190, some 191, some 192], [], [], [], [none, none, some 194, some 195, some 196], [], [], [], [none, none, some 198, some 199, some 200], [], [], [], [none, none, some 202, some 203, some 204], [], [], [], [none, none, some 206, none, none, none, none, none, none, none, some 207, some 208, some 209, some 210, some 211, some 212, some 213, some 214, some 215, some 216, some 217, some 218, some 219, some 220, some 221, none, none, none, some 222, some 223, some 224, some 225, some 226, some 227, some 228, some 229, some 230, some 231, some 232, some 233, none, none, some 234, some 235, some 236, some 237, some 238, some 239, some 240, some 241, some 242, some 243, some 244, some 245, none, some 246, some 247, some 248, some 249, some 250, some 251, some 252, some 253, some 254, none, none, some 255, some 256, some 257, none, some 258, some 259, some 260, none, none, none], [], [], [], [], [], [], [], [], [], [], [], [], [], [], [], [], [], [], [], [], [], [], [], [], [], [], [], [], [], [], [], [], [], [], [], [], [], [], [], [], [], [], [], [], [], [], [], [], [], [], [], [], [], [], [], []]
def bt_rf0 (a k : Nat) : Option Nat := (bt_rfl.getD a []).getD k none
theorem sh_0 : bt_sh0 0 = (10, 14) := rfl
theorem sh_1 : bt_sh0 1 = (7, 10) := rfl
theorem sh_2 : bt_sh0 2 = (12, 1000) := rfl
theorem sh_3 : bt_sh0 3 = (14, 30) := rfl
theorem sh_4 : bt_sh0 4 = (3, 8) := rfl
theorem sh_5 : bt_sh0 5 = (13, 40) := rfl
theorem sh_6 : bt_sh0 6 = (0, 6) := rfl
theorem sh_7 : bt_sh0 7 = (13, 5) := rfl
theorem sh_8 : bt_sh0 8 = (13, 1000) := rfl
theorem sh_9 : bt_sh0 9 = (13, 32) := rfl
theorem sh_10 : bt_sh0 10 = (1, 9) := rfl
theorem sh_11 : bt_sh0 11 = (13, 6) := rfl
theorem sh_12 : bt_sh0 12 = (13, 6) := rfl
theorem sh_13 : bt_sh0 13 = (13, 24) := rfl
theorem sh_14 : bt_sh0 14 = (13, 6) := rfl
theorem sh_15 : bt_sh0 15 = (13, 6) := rfl
theorem sh_16 : bt_sh0 16 = (13, 5) := rfl
theorem sh_17 : bt_sh0 17 = (13, 5) := rfl
theorem sh_18 : bt_sh0 18 = (13, 6) := rfl
theorem sh_19 : bt_sh0 19 = (5, 9) := rfl
theorem sh_20 : bt_sh0 20 = (1, 9) := rfl
theorem sh_21 : bt_sh0 21 = (13, 6) := rfl
theorem sh_22 : bt_sh0 22 = (13, 6) := rfl
theorem sh_23 : bt_sh0 23 = (13, 24) := rfl
theorem sh_24 : bt_sh0 24 = (13, 6) := rfl
theorem sh_25 : bt_sh0 25 = (13, 6) := rfl
theorem sh_26 : bt_sh0 26 = (13, 5) := rfl
theorem sh_27 : bt_sh0 27 = (13, 5) := rfl
theorem sh_28 : bt_sh0 28 = (13, 6) := rfl
theorem sh_29 : bt_sh0 29 = (6, 5) := rfl
theorem sh_30 : bt_sh0 30 = (13, 6) := rfl
theorem sh_31 : bt_sh0 31 = (13, 6) := rfl
theorem sh_32 : bt_sh0 32 = (13, 5) := rfl
theorem sh_33 : bt_sh0 33 = (13, 6) := rfl
theorem sh_34 : bt_sh0 34 = (13, 6) := rfl
theorem sh_35 : bt_sh0 35 = (13, 1792) := rfl
theorem sh_36 : bt_sh0 36 = (8, 5) := rfl
theorem sh_37 : bt_sh0 37 = (1, 9) := rfl
theorem sh_38 : bt_sh0 38 = (13, 6) := rfl
theorem sh_39 : bt_sh0 39 = (13, 6) := rfl
theorem sh_40 : bt_sh0 40 = (13, 24) := rfl
theorem sh_41 : bt_sh0 41 = (13, 6) := rfl
theorem sh_42 : bt_sh0 42 = (13, 6) := rfl
theorem sh_43 : bt_sh0 43 = (13, 5) := rfl
theorem sh_44 : bt_sh0 44 = (13, 5) := rfl
theorem sh_45 : bt_sh0 45 = (13, 6) := rfl
theorem sh_46 : bt_sh0 46 = (17, 6) := rfl
theorem sh_47 : bt_sh0 47 = (6, 5) := rfl
theorem sh_48 : bt_sh0 48 = (13, 6) := rfl
theorem sh_49 : bt_sh0 49 = (13, 6) := rfl
theorem sh_50 : bt_sh0 50 = (13, 5) := rfl
theorem sh_51 : bt_sh0 51 = (6, 5) := rfl
theorem sh_52 : bt_sh0 52 = (13, 6) := rfl
theorem sh_53 : bt_sh0 53 = (13, 6) := rfl
theorem sh_54 : bt_sh0 54 = (13, 5) := rfl
theorem sh_55 : bt_sh0 55 = (6, 5) := rfl
theorem sh_56 : bt_sh0 56 = (13, 6) := rfl
theorem sh_57 : bt_sh0 57 = (13, 6) := rfl
theorem sh_58 : bt_sh0 58 = (13, 5) := rfl
theorem sh_59 : bt_sh0 59 = (6, 5) := rfl
theorem sh_60 : bt_sh0 60 = (13, 6) := rfl
theorem sh_61 : bt_sh0 61 = (13, 6) := rfl
theorem sh_62 : bt_sh0 62 = (13, 5) := rfl
theorem sh_63 : bt_sh0 63 = (6, 5) := rfl
theorem sh_64 : bt_sh0 64 = (13, 6) := rfl
theorem sh_65 : bt_sh0 65 = (13, 6) := rfl
theorem sh_66 : bt_sh0 66 = (13, 5) := rfl
theorem sh_67 : bt_sh0 67 = (6, 5) := rfl
theorem sh_68 : bt_sh0 68 = (13, 6) := rfl
theorem sh_69 : bt_sh0 69 = (13, 6) := rfl
theorem sh_70 : bt_sh0 70 = (13, 5) := rfl
theorem sh_71 : bt_sh0 71 = (4, 5) := rfl
theorem sh_72 : bt_sh0 72 = (13, 6) := rfl
theorem sh_73 : bt_sh0 73 = (13, 6) := rfl
theorem sh_74 : bt_sh0 74 = (13, 6) := rfl
theorem sh_75 : bt_sh0 75 = (9, 20) := rfl
theorem sh_76 : bt_sh0 76 = (14, 6) := rfl
theorem sh_77 : bt_sh0 77 = (14, 6) := rfl
theorem sh_78 : bt_sh0 78 = (14, 5) := rfl
theorem sh_79 : bt_sh0 79 = (13, 6) := rfl
theorem sh_80 : bt_sh0 80 = (13, 6) := rfl
theorem sh_81 : bt_sh0 81 = (13, 5) := rfl
theorem sh_82 : bt_sh0 82 = (13, 6) := rfl
theorem sh_83 : bt_sh0 83 = (13, 36) := rfl
theorem sh_84 : bt_sh0 84 = (13, 120) := rfl
theorem sh_85 : bt_sh0 85 = (13, 720) := rfl
theorem sh_86 : bt_sh0 86 = (6, 5) := rfl
theorem sh_87 : bt_sh0 87 = (13, 6) := rfl
theorem sh_88 : bt_sh0 88 = (13, 6) := rfl
theorem sh_89 : bt_sh0 89 = (13, 5) := rfl
theorem sh_90 : bt_sh0 90 = (9, 20) := rfl
theorem sh_91 : bt_sh0 91 = (14, 6) := rfl
theorem sh_92 : bt_sh0 92 = (14, 6) := rfl
theorem sh_93 : bt_sh0 93 = (14, 5) := rfl
theorem sh_94 : bt_sh0 94 = (13, 6) := rfl
theorem sh_95 : bt_sh0 95 = (13, 6) := rfl
theorem sh_96 : bt_sh0 96 = (13, 5) := rfl
theorem sh_97 : bt_sh0 97 = (13, 6) := rfl
theorem sh_98 : bt_sh0 98 = (13, 36) := rfl
theorem sh_99 : bt_sh0 99 = (13, 120) := rfl
theorem sh_100 : bt_sh0 100 = (13, 720) := rfl
theorem sh_101 : bt_sh0 101 = (6, 5) := rfl
theorem sh_102 : bt_sh0 102 = (13, 6) := rfl
theorem sh_103 : bt_sh0 103 = (13, 6) := rfl
theorem sh_104 : bt_sh0 104 = (13, 5) := rfl
theorem sh_105 : bt_sh0 105 = (2, 6) := rfl
theorem sh_106 : bt_sh0 106 = (6, 5) := rfl
theorem sh_107 : bt_sh0 107 = (13, 6) := rfl
theorem sh_108 : bt_sh0 108 = (13, 6) := rfl
theorem sh_109 : bt_sh0 109 = (13, 5) := rfl
theorem sh_110 : bt_sh0 110 = (13, 40) := rfl
theorem sh_111 : bt_sh0 111 = (16, 4) := rfl
theorem sh_112 : bt_sh0 112 = (2, 6) := rfl
theorem sh_113 : bt_sh0 113 = (6, 5) := rfl
theorem sh_114 : bt_sh0 114 = (13, 6) := rfl
theorem sh_115 : bt_sh0 115 = (13, 6) := rfl
theorem sh_116 : bt_sh0 116 = (13, 5) := rfl
theorem sh_117 : bt_sh0 117 = (13, 40) := rfl
theorem sh_118 : bt_sh0 118 = (2, 6) := rfl
theorem sh_119 : bt_sh0 119 = (6, 5) := rfl
theorem sh_120 : bt_sh0 120 = (13, 6) := rfl
theorem sh_121 : bt_sh0 121 = (13, 6) := rfl
theorem sh_122 : bt_sh0 122 = (13, 5) := rfl
theorem sh_123 : bt_sh0 123 = (13, 40) := rfl
theorem sh_124 : bt_sh0 124 = (2, 6) := rfl
theorem sh_125 : bt_sh0 125 = (6, 5) := rfl
theorem sh_126 : bt_sh0 126 = (13, 6) := rfl
theorem sh_127 : bt_sh0 127 = (13, 6) := rfl
theorem sh_128 : bt_sh0 128 = (13, 5) := rfl
theorem sh_129 : bt_sh0 129 = (13, 40) := rfl
theorem sh_130 : bt_sh0 130 = (2, 6) := rfl
theorem sh_131 : bt_sh0 131 = (6, 5) := rfl
theorem sh_132 : bt_sh0 132 = (13, 6) := rfl
theorem sh_133 : bt_sh0 133 = (13, 6) := rfl
theorem sh_134 : bt_sh0 134 = (13, 5) := rfl
theorem sh_135 : bt_sh0 135 = (13, 40) := rfl
theorem sh_136 : bt_sh0 136 = (6, 5) := rfl
theorem sh_137 : bt_sh0 137 = (13, 6) := rfl
theorem sh_138 : bt_sh0 138 = (13, 6) := rfl
theorem sh_139 : bt_sh0 139 = (13, 5) := rfl
theorem sh_140 : bt_sh0 140 = (17, 16) := rfl
theorem sh_141 : bt_sh0 141 = (6, 5) := rfl
theorem sh_142 : bt_sh0 142 = (13, 6) := rfl
theorem sh_143 : bt_sh0 143 = (13, 6) := rfl
theorem sh_144 : bt_sh0 144 = (13, 5) := rfl
theorem sh_145 : bt_sh0 145 = (6, 5) := rfl
theorem sh_146 : bt_sh0 146 = (13, 6) := rfl
theorem sh_147 : bt_sh0 147 = (13, 6) := rfl
theorem sh_148 : bt_sh0 148 = (13, 5) := rfl
theorem sh_149 : bt_sh0 149 = (6, 5) := rfl
theorem sh_150 : bt_sh0 150 = (13, 6) := rfl
theorem sh_151 : bt_sh0 151 = (13, 6) := rfl
theorem sh_152 : bt_sh0 152 = (13, 5) := rfl
theorem sh_153 : bt_sh0 153 = (6, 5) := rfl
theorem sh_154 : bt_sh0 154 = (13, 6) := rfl
theorem sh_155 : bt_sh0 155 = (13, 6) := rfl
theorem sh_156 : bt_sh0 156 = (13, 5) := rfl
theorem sh_157 : bt_sh0 157 = (6, 5) := rfl
theorem sh_158 : bt_sh0 158 = (13, 6) := rfl
theorem sh_159 : bt_sh0 159 = (13, 6) := rfl
theorem sh_160 : bt_sh0 160 = (13, 5) := rfl
theorem sh_161 : bt_sh0 161 = (6, 5) := rfl
theorem sh_162 : bt_sh0 162 = (13, 6) := rfl
theorem sh_163 : bt_sh0 163 = (13, 6) := rfl
theorem sh_164 : bt_sh0 164 = (13, 5) := rfl
theorem sh_165 : bt_sh0 165 = (6, 5) := rfl
theorem sh_166 : bt_sh0 166 = (13, 6) := rfl
theorem sh_167 : bt_sh0 167 = (13, 6) := rfl
theorem sh_168 : bt_sh0 168 = (13, 5) := rfl
theorem sh_169 : bt_sh0 169 = (6, 5) := rfl
theorem sh_170 : bt_sh0 170 = (13, 6) := rfl
theorem sh_171 : bt_sh0 171 = (13, 6) := rfl
theorem sh_172 : bt_sh0 172 = (13, 5) := rfl
theorem sh_173 : bt_sh0 173 = (6, 5) := rfl
theorem sh_174 : bt_sh0 174 = (13, 6) := rfl
theorem sh_175 : bt_sh0 175 = (13, 6) := rfl
theorem sh_176 : bt_sh0 176 = (13, 5) := rfl
theorem sh_177 : bt_sh0 177 = (6, 5) := rfl
theorem sh_178 : bt_sh0 178 = (13, 6) := rfl
theorem sh_179 : bt_sh0 179 = (13, 6) := rfl
theorem sh_180 : bt_sh0 180 = (13, 5) := rfl
theorem sh_181 : bt_sh0 181 = (6, 5) := rfl
theorem sh_182 : bt_sh0 182 = (13, 6) := rfl
theorem sh_183 : bt_sh0 183 = (13, 6) := rfl
theorem sh_184 : bt_sh0 184 = (13, 5) := rfl
theorem sh_185 : bt_sh0 185 = (6, 5) := rfl
theorem sh_186 : bt_sh0 186 = (13, 6) := rfl
theorem sh_187 : bt_sh0 187 = (13, 6) := rfl
theorem sh_188 : bt_sh0 188 = (13, 5) := rfl
theorem sh_189 : bt_sh0 189 = (6, 5) := rfl
theorem sh_190 : bt_sh0 190 = (13, 6) := rfl
theorem sh_191 : bt_sh0 191 = (13, 6) := rfl
theorem sh_192 : bt_sh0 192 = (13, 5) := rfl
theorem sh_193 : bt_sh0 193 = (6, 5) := rfl
theorem sh_194 : bt_sh0 194 = (13, 6) := rfl
theorem sh_195 : bt_sh0 195 = (13, 6) := rfl
theorem sh_196 : bt_sh0 196 = (13, 5) := rfl
theorem sh_197 : bt_sh0 197 = (6, 5) := rfl
theorem sh_198 : bt_sh0 198 = (13, 6) := rfl
theorem sh_199 : bt_sh0 199 = (13, 6) := rfl
theorem sh_200 : bt_sh0 200 = (13, 5) := rfl
theorem sh_201 : bt_sh0 201 = (6, 5) := rfl
theorem sh_202 : bt_sh0 202 = (13, 6) := rfl
theorem sh_203 : bt_sh0 203 = (13, 6) := rfl
theorem sh_204 : bt_sh0 204 = (13, 5) := rfl
theorem sh_205 : bt_sh0 205 = (11, 76) := rfl
theorem sh_206 : bt_sh0 206 = (13, 1000) := rfl
theorem sh_207 : bt_sh0 207 = (13, 18) := rfl
theorem sh_208 : bt_sh0 208 = (14, 12) := rfl
theorem sh_209 : bt_sh0 209 = (14, 12) := rfl
theorem sh_210 : bt_sh0 210 = (14, 10) := rfl
theorem sh_211 : bt_sh0 211 = (13, 12) := rfl
theorem sh_212 : bt_sh0 212 = (13, 12) := rfl
theorem sh_213 : bt_sh0 213 = (13, 12) := rfl
theorem sh_214 : bt_sh0 214 = (13, 12) := rfl
theorem sh_215 : bt_sh0 215 = (13, 10) := rfl
theorem sh_216 : bt_sh0 216 = (13, 10) := rfl
theorem sh_217 : bt_sh0 217 = (13, 72) := rfl
theorem sh_218 : bt_sh0 218 = (13, 12) := rfl
theorem sh_219 : bt_sh0 219 = (13, 4) := rfl
theorem sh_220 : bt_sh0 220 = (13, 4) := rfl
theorem sh_221 : bt_sh0 221 = (13, 2000) := rfl
theorem sh_222 : bt_sh0 222 = (13, 7) := rfl
theorem sh_223 : bt_sh0 223 = (15, 7) := rfl
theorem sh_224 : bt_sh0 224 = (13, 7) := rfl
theorem sh_225 : bt_sh0 225 = (13, 7) := rfl
theorem sh_226 : bt_sh0 226 = (13, 7) := rfl
theorem sh_227 : bt_sh0 227 = (13, 7) := rfl
theorem sh_228 : bt_sh0 228 = (13, 7) := rfl
theorem sh_229 : bt_sh0 229 = (13, 7) := rfl
theorem sh_230 : bt_sh0 230 = (13, 7) := rfl
theorem sh_231 : bt_sh0 231 = (13, 7) := rfl
theorem sh_232 : bt_sh0 232 = (13, 7) := rfl
theorem sh_233 : bt_sh0 233 = (13, 20) := rfl
theorem sh_234 : bt_sh0 234 = (13, 6) := rfl
theorem sh_235 : bt_sh0 235 = (13, 240) := rfl
theorem sh_236 : bt_sh0 236 = (13, 240) := rfl
theorem sh_237 : bt_sh0 237 = (13, 240) := rfl
theorem sh_238 : bt_sh0 238 = (13, 5) := rfl
theorem sh_239 : bt_sh0 239 = (13, 5) := rfl
theorem sh_240 : bt_sh0 240 = (13, 19) := rfl
theorem sh_241 : bt_sh0 241 = (13, 19) := rfl
theorem sh_242 : bt_sh0 242 = (13, 133) := rfl
theorem sh_243 : bt_sh0 243 = (13, 76) := rfl
theorem sh_244 : bt_sh0 244 = (13, 304) := rfl
theorem sh_245 : bt_sh0 245 = (15, 4) := rfl
theorem sh_246 : bt_sh0 246 = (13, 320) := rfl
theorem sh_247 : bt_sh0 247 = (13, 6) := rfl
theorem sh_248 : bt_sh0 248 = (13, 6) := rfl
theorem sh_249 : bt_sh0 249 = (13, 5) := rfl
theorem sh_250 : bt_sh0 250 = (13, 5) := rfl
theorem sh_251 : bt_sh0 251 = (13, 6) := rfl
theorem sh_252 : bt_sh0 252 = (13, 6) := rfl
theorem sh_253 : bt_sh0 253 = (13, 6) := rfl
theorem sh_254 : bt_sh0 254 = (13, 6) := rfl
theorem sh_255 : bt_sh0 255 = (13, 6) := rfl
theorem sh_256 : bt_sh0 256 = (13, 6) := rfl
theorem sh_257 : bt_sh0 257 = (13, 6) := rfl
theorem sh_258 : bt_sh0 258 = (13, 36) := rfl
theorem sh_259 : bt_sh0 259 = (13, 6) := rfl
theorem sh_260 : bt_sh0 260 = (13, 6) := rfl
theorem sh_261 : bt_sh0 261 = (14, 1) := rfl
theorem rf_0_0 : bt_rf0 0 0 = some 1 := rfl
theorem rf_0_1 : bt_rf0 0 1 = some 4 := rfl
theorem rf_0_2 : bt_rf0 0 2 = some 10 := rfl
theorem rf_0_3 : bt_rf0 0 3 = some 19 := rfl
theorem rf_0_4 : bt_rf0 0 4 = some 36 := rfl
theorem rf_0_5 : bt_rf0 0 5 = some 71 := rfl
theorem rf_0_6 : bt_rf0 0 6 = some 75 := rfl
theorem rf_0_7 : bt_rf0 0 7 = some 90 := rfl
theorem rf_0_8 : bt_rf0 0 8 = some 105 := rfl
theorem rf_0_9 : bt_rf0 0 9 = some 111 := rfl
theorem rf_0_10 : bt_rf0 0 10 = some 136 := rfl
theorem rf_0_11 : bt_rf0 0 11 = some 140 := rfl
theorem rf_1_0 : bt_rf0 1 0 = some 2 := rfl
theorem rf_1_1 : bt_rf0 1 1 = some 3 := rfl
theorem rf_4_0 : bt_rf0 4 0 = some 1 := rfl
theorem rf_4_1 : bt_rf0 4 1 = some 6 := rfl
theorem rf_4_2 : bt_rf0 4 2 = some 5 := rfl
theorem rf_6_0 : bt_rf0 6 0 = some 1 := rfl
theorem rf_6_1 : bt_rf0 6 1 = some 7 := rfl
theorem rf_6_2 : bt_rf0 6 2 = some 8 := rfl
theorem rf_6_3 : bt_rf0 6 3 = some 9 := rfl
theorem rf_10_0 : bt_rf0 10 0 = some 11 := rfl
theorem rf_10_1 : bt_rf0 10 1 = some 12 := rfl
theorem rf_10_2 : bt_rf0 10 2 = some 13 := rfl
theorem rf_10_3 : bt_rf0 10 3 = some 14 := rfl
theorem rf_10_4 : bt_rf0 10 4 = some 15 := rfl
theorem rf_10_5 : bt_rf0 10 5 = some 16 := rfl
theorem rf_10_6 : bt_rf0 10 6 = some 17 := rfl
theorem rf_10_7 : bt_rf0 10 7 = some 18 := rfl
theorem rf_19_0 : bt_rf0 19 0 = some 20 := rfl
theorem rf_19_1 : bt_rf0 19 1 = some 29 := rfl
theorem rf_19_2 : bt_rf0 19 2 = some 33 := rfl
theorem rf_19_3 : bt_rf0 19 3 = some 34 := rfl
theorem rf_19_4 : bt_rf0 19 4 = some 35 := rfl
theorem rf_20_0 : bt_rf0 20 0 = some 21 := rfl
theorem rf_20_1 : bt_rf0 20 1 = some 22 := rfl
theorem rf_20_2 : bt_rf0 20 2 = some 23 := rfl
theorem rf_20_3 : bt_rf0 20 3 = some 24 := rfl
theorem rf_20_4 : bt_rf0 20 4 = some 25 := rfl
theorem rf_20_5 : bt_rf0 20 5 = some 26 := rfl
theorem rf_20_6 : bt_rf0 20 6 = some 27 := rfl
theorem rf_20_7 : bt_rf0 20 7 = some 28 := rfl
theorem rf_29_2 : bt_rf0 29 2 = some 30 := rfl
theorem rf_29_3 : bt_rf0 29 3 = some 31 := rfl
theorem rf_29_4 : bt_rf0 29 4 = some 32 := rfl
theorem rf_36_0 : bt_rf0 36 0 = some 37 := rfl
theorem rf_36_1 : bt_rf0 36 1 = some 46 := rfl
theorem rf_37_0 : bt_rf0 37 0 = some 38 := rfl
theorem rf_37_1 : bt_rf0 37 1 = some 39 := rfl
theorem rf_37_2 : bt_rf0 37 2 = some 40 := rfl
theorem rf_37_3 : bt_rf0 37 3 = some 41 := rfl
theorem rf_37_4 : bt_rf0 37 4 = some 42 := rfl
theorem rf_37_5 : bt_rf0 37 5 = some 43 := rfl
theorem rf_37_6 : bt_rf0 37 6 = some 44 := rfl
theorem rf_37_7 : bt_rf0 37 7 = some 45 := rfl
theorem rf_46_0 : bt_rf0 46 0 = some 47 := rfl
theorem rf_46_1 : bt_rf0 46 1 = some 51 := rfl
theorem rf_46_2 : bt_rf0 46 2 = some 55 := rfl
theorem rf_46_3 : bt_rf0 46 3 = some 59 := rfl
theorem rf_46_4 : bt_rf0 46 4 = some 63 := rfl
theorem rf_46_5 : bt_rf0 46 5 = some 67 := rfl
theorem rf_47_2 : bt_rf0 47 2 = some 48 := rfl
theorem rf_47_3 : bt_rf0 47 3 = some 49 := rfl
theorem rf_47_4 : bt_rf0 47 4 = some 50 := rfl
theorem rf_51_2 : bt_rf0 51 2 = some 52 := rfl
theorem rf_51_3 : bt_rf0 51 3 = some 53 := rfl
theorem rf_51_4 : bt_rf0 51 4 = some 54 := rfl
theorem rf_55_2 : bt_rf0 55 2 = some 56 := rfl
theorem rf_55_3 : bt_rf0 55 3 = some 57 := rfl
theorem rf_55_4 : bt_rf0 55 4 = some 58 := rfl
theorem rf_59_2 : bt_rf0 59 2 = some 60 := rfl
theorem rf_59_3 : bt_rf0 59 3 = some 61 := rfl
theorem rf_59_4 : bt_rf0 59 4 = some 62 := rfl
theorem rf_63_2 : bt_rf0 63 2 = some 64 := rfl
theorem rf_63_3 : bt_rf0 63 3 = some 65 := rfl
theorem rf_63_4 : bt_rf0 63 4 = some 66 := rfl
theorem rf_67_2 : bt_rf0 67 2 = some 68 := rfl
theorem rf_67_3 : bt_rf0 67 3 = some 69 := rfl
theorem rf_67_4 : bt_rf0 67 4 = some 70 := rfl
theorem rf_71_0 : bt_rf0 71 0 = some 72 := rfl
theorem rf_71_1 : bt_rf0 71 1 = some 73 := rfl
theorem rf_71_2 : bt_rf0 71 2 = some 74 := rfl
theorem rf_75_9 : bt_rf0 75 9 = some 76 := rfl
theorem rf_75_10 : bt_rf0 75 10 = some 77 := rfl
theorem rf_75_11 : bt_rf0 75 11 = some 78 := rfl
theorem rf_75_12 : bt_rf0 75 12 = some 79 := rfl
theorem rf_75_13 : bt_rf0 75 13 = some 80 := rfl
theorem rf_75_14 : bt_rf0 75 14 = some 81 := rfl
theorem rf_75_15 : bt_rf0 75 15 = some 82 := rfl
theorem rf_75_16 : bt_rf0 75 16 = some 83 := rfl
theorem rf_75_17 : bt_rf0 75 17 = some 84 := rfl
theorem rf_75_18 : bt_rf0 75 18 = some 85 := rfl
theorem rf_75_19 : bt_rf0 75 19 = some 86 := rfl
theorem rf_86_2 : bt_rf0 86 2 = some 87 := rfl
theorem rf_86_3 : bt_rf0 86 3 = some 88 := rfl
theorem rf_86_4 : bt_rf0 86 4 = some 89 := rfl
theorem rf_90_9 : bt_rf0 90 9 = some 91 := rfl
theorem rf_90_10 : bt_rf0 90 10 = some 92 := rfl
theorem rf_90_11 : bt_rf0 90 11 = some 93 := rfl
theorem rf_90_12 : bt_rf0 90 12 = some 94 := rfl
theorem rf_90_13 : bt_rf0 90 13 = some 95 := rfl
theorem rf_90_14 : bt_rf0 90 14 = some 96 := rfl
theorem rf_90_15 : bt_rf0 90 15 = some 97 := rfl
theorem rf_90_16 : bt_rf0 90 16 = some 98 := rfl
theorem rf_90_17 : bt_rf0 90 17 = some 99 := rfl
theorem rf_90_18 : bt_rf0 90 18 = some 100 := rfl
theorem rf_90_19 : bt_rf0 90 19 = some 101 := rfl
theorem rf_101_2 : bt_rf0 101 2 = some 102 := rfl
theorem rf_101_3 : bt_rf0 101 3 = some 103 := rfl
theorem rf_101_4 : bt_rf0 101 4 = some 104 := rfl
theorem rf_105_0 : bt_rf0 105 0 = some 106 := rfl
theorem rf_105_1 : bt_rf0 105 1 = some 110 := rfl
theorem rf_106_2 : bt_rf0 106 2 = some 107 := rfl
theorem rf_106_3 : bt_rf0 106 3 = some 108 := rfl
theorem rf_106_4 : bt_rf0 106 4 = some 109 := rfl
theorem rf_111_0 : bt_rf0 111 0 = some 112 := rfl
theorem rf_111_1 : bt_rf0 111 1 = some 118 := rfl
theorem rf_111_2 : bt_rf0 111 2 = some 124 := rfl
theorem rf_111_3 : bt_rf0 111 3 = some 130 := rfl
theorem rf_112_0 : bt_rf0 112 0 = some 113 := rfl
theorem rf_112_1 : bt_rf0 112 1 = some 117 := rfl
theorem rf_113_2 : bt_rf0 113 2 = some 114 := rfl
theorem rf_113_3 : bt_rf0 113 3 = some 115 := rfl
theorem rf_113_4 : bt_rf0 113 4 = some 116 := rfl
theorem rf_118_0 : bt_rf0 118 0 = some 119 := rfl
theorem rf_118_1 : bt_rf0 118 1 = some 123 := rfl
theorem rf_119_2 : bt_rf0 119 2 = some 120 := rfl
theorem rf_119_3 : bt_rf0 119 3 = some 121 := rfl
theorem rf_119_4 : bt_rf0 119 4 = some 122 := rfl
theorem rf_124_0 : bt_rf0 124 0 = some 125 := rfl
theorem rf_124_1 : bt_rf0 124 1 = some 129 := rfl
theorem rf_125_2 : bt_rf0 125 2 = some 126 := rfl
theorem rf_125_3 : bt_rf0 125 3 = some 127 := rfl
theorem rf_125_4 : bt_rf0 125 4 = some 128 := rfl
theorem rf_130_0 : bt_rf0 130 0 = some 131 := rfl
theorem rf_130_1 : bt_rf0 130 1 = some 135 := rfl
theorem rf_131_2 : bt_rf0 131 2 = some 132 := rfl
theorem rf_131_3 : bt_rf0 131 3 = some 133 := rfl
theorem rf_131_4 : bt_rf0 131 4 = some 134 := rfl
theorem rf_136_2 : bt_rf0 136 2 = some 137 := rfl
theorem rf_136_3 : bt_rf0 136 3 = some 138 := rfl
theorem rf_136_4 : bt_rf0 136 4 = some 139 := rfl
theorem rf_140_0 : bt_rf0 140 0 = some 141 := rfl
theorem rf_140_1 : bt_rf0 140 1 = some 145 := rfl
theorem rf_140_2 : bt_rf0 140 2 = some 149 := rfl
theorem rf_140_3 : bt_rf0 140 3 = some 153 := rfl
theorem rf_140_4 : bt_rf0 140 4 = some 157 := rfl
theorem rf_140_5 : bt_rf0 140 5 = some 161 := rfl
theorem rf_140_6 : bt_rf0 140 6 = some 165 := rfl
theorem rf_140_7 : bt_rf0 140 7 = some 169 := rfl
theorem rf_140_8 : bt_rf0 140 8 = some 173 := rfl
theorem rf_140_9 : bt_rf0 140 9 = some 177 := rfl
theorem rf_140_10 : bt_rf0 140 10 = some 181 := rfl
theorem rf_140_11 : bt_rf0 140 11 = some 185 := rfl
theorem rf_140_12 : bt_rf0 140 12 = some 189 := rfl
theorem rf_140_13 : bt_rf0 140 13 = some 193 := rfl
theorem rf_140_14 : bt_rf0 140 14 = some 197 := rfl
theorem rf_140_15 : bt_rf0 140 15 = some 201 := rfl
theorem rf_141_2 : bt_rf0 141 2 = some 142 := rfl
theorem rf_141_3 : bt_rf0 141 3 = some 143 := rfl
theorem rf_141_4 : bt_rf0 141 4 = some 144 := rfl
theorem rf_145_2 : bt_rf0 145 2 = some 146 := rfl
theorem rf_145_3 : bt_rf0 145 3 = some 147 := rfl
theorem rf_145_4 : bt_rf0 145 4 = some 148 := rfl
theorem rf_149_2 : bt_rf0 149 2 = some 150 := rfl
theorem rf_149_3 : bt_rf0 149 3 = some 151 := rfl
theorem rf_149_4 : bt_rf0 149 4 = some 152 := rfl
theorem rf_153_2 : bt_rf0 153 2 = some 154 := rfl
theorem rf_153_3 : bt_rf0 153 3 = some 155 := rfl
theorem rf_153_4 : bt_rf0 153 4 = some 156 := rfl
theorem rf_157_2 : bt_rf0 157 2 = some 158 := rfl
theorem rf_157_3 : bt_rf0 157 3 = some 159 := rfl
theorem rf_157_4 : bt_rf0 157 4 = some 160 := rfl
theorem rf_161_2 : bt_rf0 161 2 = some 162 := rfl
theorem rf_161_3 : bt_rf0 161 3 = some 163 := rfl
theorem rf_161_4 : bt_rf0 161 4 = some 164 := rfl
theorem rf_165_2 : bt_rf0 165 2 = some 166 := rfl
theorem rf_165_3 : bt_rf0 165 3 = some 167 := rfl
theorem rf_165_4 : bt_rf0 165 4 = some 168 := rfl
theorem rf_169_2 : bt_rf0 169 2 = some 170 := rfl
theorem rf_169_3 : bt_rf0 169 3 = some 171 := rfl
theorem rf_169_4 : bt_rf0 169 4 = some 172 := rfl
theorem rf_173_2 : bt_rf0 173 2 = some 174 := rfl
theorem rf_173_3 : bt_rf0 173 3 = some 175 := rfl
theorem rf_173_4 : bt_rf0 173 4 = some 176 := rfl
theorem rf_177_2 : bt_rf0 177 2 = some 178 := rfl
theorem rf_177_3 : bt_rf0 177 3 = some 179 := rfl
theorem rf_177_4 : bt_rf0 177 4 = some 180 := rfl
theorem rf_181_2 : bt_rf0 181 2 = some 182 := rfl
theorem rf_181_3 : bt_rf0 181 3 = some 183 := rfl
theorem rf_181_4 : bt_rf0 181 4 = some 184 := rfl
theorem rf_185_2 : bt_rf0 185 2 = some 186 := rfl
theorem rf_185_3 : bt_rf0 185 3 = some 187 := rfl
theorem rf_185_4 : bt_rf0 185 4 = some 188 := rfl
theorem rf_189_2 : bt_rf0 189 2 = some 190 := rfl
theorem rf_189_3 : bt_rf0 189 3 = some 191 := rfl
theorem rf_189_4 : bt_rf0 189 4 = some 192 := rfl
theorem rf_193_2 : bt_rf0 193 2 = some 194 := rfl
theorem rf_193_3 : bt_rf0 193 3 = some 195 := rfl
theorem rf_193_4 : bt_rf0 193 4 = some 196 := rfl
theorem rf_197_2 : bt_rf0 197 2 = some 198 := rfl
theorem rf_197_3 : bt_rf0 197 3 = some 199 := rfl
theorem rf_197_4 : bt_rf0 197 4 = some 200 := rfl
theorem rf_201_2 : bt_rf0 201 2 = some 202 := rfl
theorem rf_201_3 : bt_rf0 201 3 = some 203 := rfl
theorem rf_201_4 : bt_rf0 201 4 = some 204 := rfl
theorem rf_205_2 : bt_rf0 205 2 = some 206 := rfl
theorem rf_205_10 : bt_rf0 205 10 = some 207 := rfl
theorem rf_205_11 : bt_rf0 205 11 = some 208 := rfl
theorem rf_205_12 : bt_rf0 205 12 = some 209 := rfl
theorem rf_205_13 : bt_rf0 205 13 = some 210 := rfl
theorem rf_205_14 : bt_rf0 205 14 = some 211 := rfl
theorem rf_205_15 : bt_rf0 205 15 = some 212 := rfl
theorem rf_205_16 : bt_rf0 205 16 = some 213 := rfl
theorem rf_205_17 : bt_rf0 205 17 = some 214 := rfl
theorem rf_205_18 : bt_rf0 205 18 = some 215 := rfl
theorem rf_205_19 : bt_rf0 205 19 = some 216 := rfl
theorem rf_205_20 : bt_rf0 205 20 = some 217 := rfl
theorem rf_205_21 : bt_rf0 205 21 = some 218 := rfl
theorem rf_205_22 : bt_rf0 205 22 = some 219 := rfl
theorem rf_205_23 : bt_rf0 205 23 = some 220 := rfl
theorem rf_205_24 : bt_rf0 205 24 = some 221 := rfl
theorem rf_205_28 : bt_rf0 205 28 = some 222 := rfl
theorem rf_205_29 : bt_rf0 205 29 = some 223 := rfl
theorem rf_205_30 : bt_rf0 205 30 = some 224 := rfl
theorem rf_205_31 : bt_rf0 205 31 = some 225 := rfl
theorem rf_205_32 : bt_rf0 205 32 = some 226 := rfl
theorem rf_205_33 : bt_rf0 205 33 = some 227 := rfl
theorem rf_205_34 : bt_rf0 205 34 = some 228 := rfl
theorem rf_205_35 : bt_rf0 205 35 = some 229 := rfl
theorem rf_205_36 : bt_rf0 205 36 = some 230 := rfl
theorem rf_205_37 : bt_rf0 205 37 = some 231 := rfl
theorem rf_205_38 : bt_rf0 205 38 = some 232 := rfl
theorem rf_205_39 : bt_rf0 205 39 = some 233 := rfl
theorem rf_205_42 : bt_rf0 205 42 = some 234 := rfl
theorem rf_205_43 : bt_rf0 205 43 = some 235 := rfl
theorem rf_205_44 : bt_rf0 205 44 = some 236 := rfl
theorem rf_205_45 : bt_rf0 205 45 = some 237 := rfl
theorem rf_205_46 : bt_rf0 205 46 = some 238 := rfl
theorem rf_205_47 : bt_rf0 205 47 = some 239 := rfl
theorem rf_205_48 : bt_rf0 205 48 = some 240 := rfl
theorem rf_205_49 : bt_rf0 205 49 = some 241 := rfl
theorem rf_205_50 : bt_rf0 205 50 = some 242 := rfl
theorem rf_205_51 : bt_rf0 205 51 = some 243 := rfl
theorem rf_205_52 : bt_rf0 205 52 = some 244 := rfl
theorem rf_205_53 : bt_rf0 205 53 = some 245 := rfl
theorem rf_205_55 : bt_rf0 205 55 = some 246 := rfl
theorem rf_205_56 : bt_rf0 205 56 = some 247 := rfl
theorem rf_205_57 : bt_rf0 205 57 = some 248 := rfl
theorem rf_205_58 : bt_rf0 205 58 = some 249 := rfl
theorem rf_205_59 : bt_rf0 205 59 = some 250 := rfl
theorem rf_205_60 : bt_rf0 205 60 = some 251 := rfl
theorem rf_205_61 : bt_rf0 205 61 = some 252 := rfl
theorem rf_205_62 : bt_rf0 205 62 = some 253 := rfl
theorem rf_205_63 : bt_rf0 205 63 = some 254 := rfl
theorem rf_205_66 : bt_rf0 205 66 = some 255 := rfl
theorem rf_205_67 : bt_rf0 205 67 = some 256 := rfl
theorem rf_205_68 : bt_rf0 205 68 = some 257 := rfl
theorem rf_205_70 : bt_rf0 205 70 = some 258 := rfl
theorem rf_205_71 : bt_rf0 205 71 = some 259 := rfl
theorem rf_205_72 : bt_rf0 205 72 = some 260 := rfl
def bt_sts : List Nat := [29, 47, 51, 55, 59, 63, 67, 86, 101, 106, 113, 119, 125, 131, 136, 141, 145, 149, 153, 157, 161, 165, 169, 173, 177, 181, 185, 189, 193, 197, 201]
def bt_zos : List Nat := [75, 90]
def bt_hos : List Nat := [10, 20, 37]
def bt_mes : List Nat := [105, 112, 118, 124, 130]
abbrev bt_wd (ρ : Nat → Nat → Option Nat) (μ : Nat → Nat → Int) : bt_W := (262, bt_sh0, ρ, μ)
/-- the references but the class's own park and spare -/
def bt_Rf (ρ : Nat → Nat → Option Nat) : Prop := ∀ a k, a ≠ 0 → ρ a k = bt_rf0 a k
theorem bt_st_f : ∀ a ∈ bt_sts, a + 3 < 262 ∧ a ≠ 0 ∧ bt_sh0 a = (6, 5) ∧ bt_sh0 (a + 1) = (13, 6) ∧ bt_sh0 (a + 2) = (13, 6) ∧ bt_sh0 (a + 3) = (13, 5) ∧ bt_rf0 a 2 = some (a + 1) ∧ bt_rf0 a 3 = some (a + 2) ∧ bt_rf0 a 4 = some (a + 3) := by decide
theorem bt_zo_f : ∀ a ∈ bt_zos, a + 14 < 262 ∧ a ≠ 0 ∧ bt_sh0 a = (9, 20) ∧ bt_sh0 (a + 1) = (14, 6) ∧ bt_sh0 (a + 2) = (14, 6) ∧ bt_sh0 (a + 3) = (14, 5) ∧ bt_sh0 (a + 4) = (13, 6) ∧ bt_sh0 (a + 5) = (13, 6) ∧ bt_sh0 (a + 6) = (13, 5) ∧ bt_sh0 (a + 7) = (13, 6) ∧ bt_sh0 (a + 8) = (13, 36) ∧ bt_sh0 (a + 9) = (13, 120) ∧ bt_sh0 (a + 10) = (13, 720) ∧ bt_rf0 a 9 = some (a + 1) ∧ bt_rf0 a 10 = some (a + 2) ∧ bt_rf0 a 11 = some (a + 3) ∧ bt_rf0 a 12 = some (a + 4) ∧ bt_rf0 a 13 = some (a + 5) ∧ bt_rf0 a 14 = some (a + 6) ∧ bt_rf0 a 15 = some (a + 7) ∧ bt_rf0 a 16 = some (a + 8) ∧ bt_rf0 a 17 = some (a + 9) ∧ bt_rf0 a 18 = some (a + 10) ∧ bt_rf0 a 19 = some (a + 11) ∧ (a + 11) ∈ bt_sts := by decide
theorem bt_ho_f : ∀ a ∈ bt_hos, a + 8 < 262 ∧ a ≠ 0 ∧ bt_sh0 a = (1, 9) ∧ bt_sh0 (a + 1) = (13, 6) ∧ bt_sh0 (a + 2) = (13, 6) ∧ bt_sh0 (a + 3) = (13, 24) ∧ bt_sh0 (a + 4) = (13, 6) ∧ bt_sh0 (a + 5) = (13, 6) ∧ bt_sh0 (a + 6) = (13, 5) ∧ bt_sh0 (a + 7) = (13, 5) ∧ bt_sh0 (a + 8) = (13, 6) ∧ bt_rf0 a 0 = some (a + 1) ∧ bt_rf0 a 1 = some (a + 2) ∧ bt_rf0 a 2 = some (a + 3) ∧ bt_rf0 a 3 = some (a + 4) ∧ bt_rf0 a 4 = some (a + 5) ∧ bt_rf0 a 5 = some (a + 6) ∧ bt_rf0 a 6 = some (a + 7) ∧ bt_rf0 a 7 = some (a + 8) := by decide
theorem bt_me_f : ∀ a ∈ bt_mes, a + 5 < 262 ∧ a ≠ 0 ∧ bt_sh0 a = (2, 6) ∧ bt_sh0 (a + 5) = (13, 40) ∧ bt_rf0 a 0 = some (a + 1) ∧ bt_rf0 a 1 = some (a + 5) ∧ (a + 1) ∈ bt_sts := by decide
theorem bt_st_ho : ∀ s ∈ bt_sts, ∀ h ∈ bt_hos, s + 3 < h ∨ h + 8 < s := by decide
theorem bt_st_zo : ∀ s ∈ bt_sts, ∀ z ∈ bt_zos, s = z + 11 ∨ s + 3 < z ∨ z + 14 < s := by decide
theorem bt_ho_zo : ∀ h ∈ bt_hos, ∀ z ∈ bt_zos, h + 8 < z ∨ z + 14 < h := by decide
theorem bt_st_st : ∀ s ∈ bt_sts, ∀ t ∈ bt_sts, s = t ∨ s + 3 < t ∨ t + 3 < s := by decide
theorem bt_up_same (μ : Nat → Nat → Int) (a k : Nat) (x : Int) : bt_up μ a k x a k = x := by simp [bt_up]
theorem bt_up_cell {μ : Nat → Nat → Int} {a k b : Nat} {x : Int} (h : b ≠ a) : bt_up μ a k x b = μ b := by funext j; simp [bt_up, h]
theorem bt_up_ix {μ : Nat → Nat → Int} {a k j : Nat} {x : Int} (h : j ≠ k) : bt_up μ a k x a j = μ a j := by simp [bt_up, h]
theorem bt_cp_cell {μ : Nat → Nat → Int} {s sp d dp n b : Nat} (h : b ≠ d) : bt_cp μ s sp d dp n b = μ b := by funext j; simp [bt_cp, h]
