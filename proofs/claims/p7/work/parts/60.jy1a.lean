set_option maxRecDepth 20000 in
theorem ac_238 : allC[238]? = some cl238 := rfl
theorem cd_238_0 : cd 238 0 = some (4, 1, 0, 0, 0, []) := cd_row ac_238 rfl
theorem cd_238_1 : cd 238 1 = some (23, 4, 10, 0, 0, []) := cd_row ac_238 rfl
theorem cd_238_4 : cd 238 4 = some (0, 7, 0, 0, 602, []) := cd_row ac_238 rfl
theorem cd_238_7 : cd 238 7 = some (0, 9, 0, 0, 6, []) := cd_row ac_238 rfl
theorem cd_238_9 : cd 238 9 = some (2, 10, 1, 0, 0, []) := cd_row ac_238 rfl
theorem cd_238_10 : cd 238 10 = some (0, 13, 0, 0, 1536, []) := cd_row ac_238 rfl
theorem cd_238_13 : cd 238 13 = some (9, 14, 0, 7, 0, []) := cd_row ac_238 rfl
theorem cd_238_14 : cd 238 14 = some (9, 15, 0, 2, 0, []) := cd_row ac_238 rfl
theorem cd_238_15 : cd 238 15 = some (9, 16, 0, 0, 0, []) := cd_row ac_238 rfl
theorem cd_238_16 : cd 238 16 = some (2, 17, 2, 0, 0, []) := cd_row ac_238 rfl
theorem cd_238_17 : cd 238 17 = some (9, 18, 0, 0, 0, []) := cd_row ac_238 rfl
theorem cd_238_18 : cd 238 18 = some (26, 19, 0, 0, 0, []) := cd_row ac_238 rfl
theorem cd_238_19 : cd 238 19 = some (40, 20, 0, 0, 0, []) := cd_row ac_238 rfl
set_option maxRecDepth 20000 in
theorem ac_239 : allC[239]? = some cl239 := rfl
theorem cd_239_0 : cd 239 0 = some (4, 1, 0, 0, 0, []) := cd_row ac_239 rfl
theorem cd_239_1 : cd 239 1 = some (23, 4, 10, 21, 0, []) := cd_row ac_239 rfl
theorem cd_239_4 : cd 239 4 = some (2, 5, 1, 0, 0, []) := cd_row ac_239 rfl
theorem cd_239_5 : cd 239 5 = some (9, 6, 0, 1, 0, []) := cd_row ac_239 rfl
theorem cd_239_6 : cd 239 6 = some (4, 7, 0, 0, 0, []) := cd_row ac_239 rfl
theorem cd_239_7 : cd 239 7 = some (23, 10, 10, 22, 0, []) := cd_row ac_239 rfl
theorem cd_239_10 : cd 239 10 = some (21, 13, 17, 3, 0, []) := cd_row ac_239 rfl
theorem cd_239_13 : cd 239 13 = some (0, 14, 0, 0, 0, []) := cd_row ac_239 rfl
theorem cd_239_14 : cd 239 14 = some (22, 17, 28, 0, 0, []) := cd_row ac_239 rfl
theorem cd_239_17 : cd 239 17 = some (4, 18, 0, 0, 0, []) := cd_row ac_239 rfl
theorem cd_239_18 : cd 239 18 = some (4, 19, 0, 0, 0, []) := cd_row ac_239 rfl
theorem cd_239_19 : cd 239 19 = some (23, 22, 10, 21, 0, []) := cd_row ac_239 rfl
theorem cd_239_22 : cd 239 22 = some (2, 23, 1, 0, 0, []) := cd_row ac_239 rfl
theorem cd_239_23 : cd 239 23 = some (9, 24, 0, 1, 0, []) := cd_row ac_239 rfl
theorem cd_239_24 : cd 239 24 = some (2, 25, 2, 0, 0, []) := cd_row ac_239 rfl
theorem cd_239_25 : cd 239 25 = some (46, 28, 238, 3, 10, []) := cd_row ac_239 rfl
theorem cd_239_28 : cd 239 28 = some (40, 29, 0, 0, 0, []) := cd_row ac_239 rfl
set_option maxRecDepth 20000 in
theorem ac_240 : allC[240]? = some cl240 := rfl
set_option maxRecDepth 20000 in
theorem cd_240_0 : cd 240 0 = some (0, 3, 0, 0, 753, []) := cd_row ac_240 rfl
set_option maxRecDepth 20000 in
theorem cd_240_3 : cd 240 3 = some (2, 4, 1, 0, 0, []) := cd_row ac_240 rfl
set_option maxRecDepth 20000 in
theorem cd_240_4 : cd 240 4 = some (9, 5, 0, 2, 0, []) := cd_row ac_240 rfl
set_option maxRecDepth 20000 in
theorem cd_240_5 : cd 240 5 = some (0, 6, 0, 0, 1, []) := cd_row ac_240 rfl
set_option maxRecDepth 20000 in
theorem cd_240_6 : cd 240 6 = some (9, 7, 0, 0, 0, []) := cd_row ac_240 rfl
set_option maxRecDepth 20000 in
theorem cd_240_7 : cd 240 7 = some (0, 9, 0, 0, 6, []) := cd_row ac_240 rfl
set_option maxRecDepth 20000 in
theorem cd_240_9 : cd 240 9 = some (2, 10, 2, 0, 0, []) := cd_row ac_240 rfl
set_option maxRecDepth 20000 in
theorem cd_240_10 : cd 240 10 = some (9, 11, 0, 2, 0, []) := cd_row ac_240 rfl
set_option maxRecDepth 20000 in
theorem cd_240_11 : cd 240 11 = some (9, 12, 0, 0, 0, []) := cd_row ac_240 rfl
set_option maxRecDepth 20000 in
theorem cd_240_12 : cd 240 12 = some (5, 13, 3, 0, 0, []) := cd_row ac_240 rfl
set_option maxRecDepth 20000 in
theorem cd_240_13 : cd 240 13 = some (0, 16, 0, 0, 753, []) := cd_row ac_240 rfl
set_option maxRecDepth 20000 in
theorem cd_240_16 : cd 240 16 = some (2, 17, 1, 0, 0, []) := cd_row ac_240 rfl
set_option maxRecDepth 20000 in
theorem cd_240_17 : cd 240 17 = some (9, 18, 0, 2, 0, []) := cd_row ac_240 rfl
set_option maxRecDepth 20000 in
theorem cd_240_18 : cd 240 18 = some (0, 21, 0, 0, 145, []) := cd_row ac_240 rfl
set_option maxRecDepth 20000 in
theorem cd_240_21 : cd 240 21 = some (9, 22, 0, 0, 0, []) := cd_row ac_240 rfl
set_option maxRecDepth 20000 in
theorem cd_240_22 : cd 240 22 = some (5, 24, 4, 0, 0, []) := cd_row ac_240 rfl
set_option maxRecDepth 20000 in
theorem cd_240_24 : cd 240 24 = some (0, 25, 0, 0, 0, []) := cd_row ac_240 rfl
set_option maxRecDepth 20000 in
theorem cd_240_25 : cd 240 25 = some (5, 27, 5, 0, 0, []) := cd_row ac_240 rfl
set_option maxRecDepth 20000 in
theorem cd_240_27 : cd 240 27 = some (0, 28, 0, 0, 0, []) := cd_row ac_240 rfl
set_option maxRecDepth 20000 in
theorem cd_240_28 : cd 240 28 = some (5, 30, 6, 0, 0, []) := cd_row ac_240 rfl
set_option maxRecDepth 20000 in
theorem cd_240_30 : cd 240 30 = some (4, 31, 0, 0, 0, []) := cd_row ac_240 rfl
set_option maxRecDepth 20000 in
theorem cd_240_31 : cd 240 31 = some (23, 34, 10, 2, 0, []) := cd_row ac_240 rfl
set_option maxRecDepth 20000 in
theorem cd_240_34 : cd 240 34 = some (2, 35, 3, 0, 0, []) := cd_row ac_240 rfl
set_option maxRecDepth 20000 in
theorem cd_240_35 : cd 240 35 = some (0, 36, 0, 0, 1, []) := cd_row ac_240 rfl
set_option maxRecDepth 20000 in
theorem cd_240_36 : cd 240 36 = some (9, 37, 0, 0, 0, []) := cd_row ac_240 rfl
set_option maxRecDepth 20000 in
theorem cd_240_37 : cd 240 37 = some (26, 38, 0, 0, 0, []) := cd_row ac_240 rfl
set_option maxRecDepth 20000 in
theorem cd_240_38 : cd 240 38 = some (5, 40, 7, 0, 0, []) := cd_row ac_240 rfl
set_option maxRecDepth 20000 in
theorem cd_240_40 : cd 240 40 = some (2, 42, 7, 0, 0, []) := cd_row ac_240 rfl
set_option maxRecDepth 20000 in
theorem cd_240_42 : cd 240 42 = some (4, 43, 0, 0, 0, []) := cd_row ac_240 rfl
set_option maxRecDepth 20000 in
theorem cd_240_43 : cd 240 43 = some (23, 46, 10, 2, 0, []) := cd_row ac_240 rfl
set_option maxRecDepth 20000 in
theorem cd_240_46 : cd 240 46 = some (2, 47, 3, 0, 0, []) := cd_row ac_240 rfl
set_option maxRecDepth 20000 in
theorem cd_240_47 : cd 240 47 = some (0, 48, 0, 0, 2, []) := cd_row ac_240 rfl
set_option maxRecDepth 20000 in
theorem cd_240_48 : cd 240 48 = some (9, 49, 0, 0, 0, []) := cd_row ac_240 rfl
set_option maxRecDepth 20000 in
theorem cd_240_49 : cd 240 49 = some (26, 50, 0, 0, 0, []) := cd_row ac_240 rfl
set_option maxRecDepth 20000 in
theorem cd_240_50 : cd 240 50 = some (21, 53, 473, 3, 0, []) := cd_row ac_240 rfl
set_option maxRecDepth 20000 in
theorem cd_240_53 : cd 240 53 = some (4, 54, 0, 0, 0, []) := cd_row ac_240 rfl
set_option maxRecDepth 20000 in
theorem cd_240_54 : cd 240 54 = some (23, 57, 10, 2, 0, []) := cd_row ac_240 rfl
set_option maxRecDepth 20000 in
theorem cd_240_57 : cd 240 57 = some (2, 59, 4, 0, 0, []) := cd_row ac_240 rfl
set_option maxRecDepth 20000 in
theorem cd_240_59 : cd 240 59 = some (0, 60, 0, 0, 2, []) := cd_row ac_240 rfl
set_option maxRecDepth 20000 in
theorem cd_240_60 : cd 240 60 = some (2, 62, 7, 0, 0, []) := cd_row ac_240 rfl
set_option maxRecDepth 20000 in
theorem cd_240_62 : cd 240 62 = some (9, 63, 0, 2, 0, []) := cd_row ac_240 rfl
set_option maxRecDepth 20000 in
theorem cd_240_63 : cd 240 63 = some (9, 64, 0, 0, 0, []) := cd_row ac_240 rfl
set_option maxRecDepth 20000 in
theorem cd_240_64 : cd 240 64 = some (26, 65, 0, 0, 0, []) := cd_row ac_240 rfl
set_option maxRecDepth 20000 in
theorem cd_240_65 : cd 240 65 = some (5, 67, 8, 0, 0, []) := cd_row ac_240 rfl
set_option maxRecDepth 20000 in
theorem cd_240_67 : cd 240 67 = some (4, 68, 0, 0, 0, []) := cd_row ac_240 rfl
set_option maxRecDepth 20000 in
theorem cd_240_68 : cd 240 68 = some (23, 71, 10, 2, 0, []) := cd_row ac_240 rfl
set_option maxRecDepth 20000 in
theorem cd_240_71 : cd 240 71 = some (2, 73, 4, 0, 0, []) := cd_row ac_240 rfl
set_option maxRecDepth 20000 in
theorem cd_240_73 : cd 240 73 = some (0, 74, 0, 0, 2, []) := cd_row ac_240 rfl
set_option maxRecDepth 20000 in
theorem cd_240_74 : cd 240 74 = some (2, 76, 7, 0, 0, []) := cd_row ac_240 rfl
set_option maxRecDepth 20000 in
theorem cd_240_76 : cd 240 76 = some (9, 77, 0, 2, 0, []) := cd_row ac_240 rfl
set_option maxRecDepth 20000 in
theorem cd_240_77 : cd 240 77 = some (9, 78, 0, 0, 0, []) := cd_row ac_240 rfl
set_option maxRecDepth 20000 in
theorem cd_240_78 : cd 240 78 = some (0, 79, 0, 0, 1, []) := cd_row ac_240 rfl
set_option maxRecDepth 20000 in
theorem cd_240_79 : cd 240 79 = some (9, 80, 0, 0, 0, []) := cd_row ac_240 rfl
set_option maxRecDepth 20000 in
theorem cd_240_80 : cd 240 80 = some (26, 81, 0, 0, 0, []) := cd_row ac_240 rfl
set_option maxRecDepth 20000 in
theorem cd_240_81 : cd 240 81 = some (5, 83, 9, 0, 0, []) := cd_row ac_240 rfl
set_option maxRecDepth 20000 in
theorem cd_240_83 : cd 240 83 = some (2, 85, 8, 0, 0, []) := cd_row ac_240 rfl
set_option maxRecDepth 20000 in
theorem cd_240_85 : cd 240 85 = some (0, 86, 0, 0, 2, []) := cd_row ac_240 rfl
set_option maxRecDepth 20000 in
theorem cd_240_86 : cd 240 86 = some (21, 89, 145, 4, 0, []) := cd_row ac_240 rfl
set_option maxRecDepth 20000 in
theorem cd_240_89 : cd 240 89 = some (4, 90, 0, 0, 0, []) := cd_row ac_240 rfl
set_option maxRecDepth 20000 in
theorem cd_240_90 : cd 240 90 = some (23, 93, 10, 23, 0, []) := cd_row ac_240 rfl
set_option maxRecDepth 20000 in
theorem cd_240_93 : cd 240 93 = some (2, 95, 5, 0, 0, []) := cd_row ac_240 rfl
set_option maxRecDepth 20000 in
theorem cd_240_95 : cd 240 95 = some (2, 97, 8, 0, 0, []) := cd_row ac_240 rfl
set_option maxRecDepth 20000 in
theorem cd_240_97 : cd 240 97 = some (20, 100, 106, 1, 0, []) := cd_row ac_240 rfl
set_option maxRecDepth 20000 in
theorem cd_240_100 : cd 240 100 = some (2, 102, 9, 0, 0, []) := cd_row ac_240 rfl
set_option maxRecDepth 20000 in
theorem cd_240_102 : cd 240 102 = some (14, 103, 0, 0, 0, []) := cd_row ac_240 rfl
set_option maxRecDepth 20000 in
theorem cd_240_103 : cd 240 103 = some (22, 106, 138, 0, 0, []) := cd_row ac_240 rfl
set_option maxRecDepth 20000 in
theorem cd_240_106 : cd 240 106 = some (2, 108, 8, 0, 0, []) := cd_row ac_240 rfl
set_option maxRecDepth 20000 in
theorem cd_240_108 : cd 240 108 = some (0, 109, 0, 0, 1, []) := cd_row ac_240 rfl
set_option maxRecDepth 20000 in
theorem cd_240_109 : cd 240 109 = some (21, 112, 123, 1, 0, []) := cd_row ac_240 rfl
set_option maxRecDepth 20000 in
theorem cd_240_112 : cd 240 112 = some (4, 113, 0, 0, 0, []) := cd_row ac_240 rfl
set_option maxRecDepth 20000 in
theorem cd_240_113 : cd 240 113 = some (23, 116, 10, 20, 0, []) := cd_row ac_240 rfl
set_option maxRecDepth 20000 in
theorem cd_240_116 : cd 240 116 = some (2, 118, 9, 0, 0, []) := cd_row ac_240 rfl
set_option maxRecDepth 20000 in
theorem cd_240_118 : cd 240 118 = some (26, 119, 0, 0, 0, []) := cd_row ac_240 rfl
set_option maxRecDepth 20000 in
theorem cd_240_119 : cd 240 119 = some (14, 120, 0, 0, 0, []) := cd_row ac_240 rfl
set_option maxRecDepth 20000 in
theorem cd_240_120 : cd 240 120 = some (22, 123, 138, 0, 0, []) := cd_row ac_240 rfl
set_option maxRecDepth 20000 in
theorem cd_240_123 : cd 240 123 = some (4, 124, 0, 0, 0, []) := cd_row ac_240 rfl
set_option maxRecDepth 20000 in
theorem cd_240_124 : cd 240 124 = some (2, 126, 9, 0, 0, []) := cd_row ac_240 rfl
set_option maxRecDepth 20000 in
theorem cd_240_126 : cd 240 126 = some (0, 128, 0, 0, 10, []) := cd_row ac_240 rfl
set_option maxRecDepth 20000 in
theorem cd_240_128 : cd 240 128 = some (9, 129, 0, 6, 0, []) := cd_row ac_240 rfl
set_option maxRecDepth 20000 in
theorem cd_240_129 : cd 240 129 = some (2, 131, 9, 0, 0, []) := cd_row ac_240 rfl
set_option maxRecDepth 20000 in
theorem cd_240_131 : cd 240 131 = some (0, 133, 0, 0, 10, []) := cd_row ac_240 rfl
set_option maxRecDepth 20000 in
theorem cd_240_133 : cd 240 133 = some (9, 134, 0, 7, 0, []) := cd_row ac_240 rfl
set_option maxRecDepth 20000 in
theorem cd_240_134 : cd 240 134 = some (46, 137, 239, 3, 10, []) := cd_row ac_240 rfl
set_option maxRecDepth 20000 in
theorem cd_240_137 : cd 240 137 = some (14, 138, 0, 0, 0, []) := cd_row ac_240 rfl
set_option maxRecDepth 20000 in
theorem cd_240_138 : cd 240 138 = some (31, 139, 0, 0, 0, []) := cd_row ac_240 rfl
set_option maxRecDepth 20000 in
theorem cd_240_139 : cd 240 139 = some (8, 142, 5, 0, 1, []) := cd_row ac_240 rfl
set_option maxRecDepth 20000 in
theorem cd_240_142 : cd 240 142 = some (22, 145, 467, 0, 0, []) := cd_row ac_240 rfl
set_option maxRecDepth 20000 in
theorem cd_240_145 : cd 240 145 = some (2, 147, 8, 0, 0, []) := cd_row ac_240 rfl
set_option maxRecDepth 20000 in
theorem cd_240_147 : cd 240 147 = some (0, 148, 0, 0, 3, []) := cd_row ac_240 rfl
set_option maxRecDepth 20000 in
theorem cd_240_148 : cd 240 148 = some (21, 151, 186, 1, 0, []) := cd_row ac_240 rfl
set_option maxRecDepth 20000 in
theorem cd_240_151 : cd 240 151 = some (8, 154, 5, 0, -1, []) := cd_row ac_240 rfl
set_option maxRecDepth 20000 in
theorem cd_240_154 : cd 240 154 = some (8, 157, 6, 0, -1, []) := cd_row ac_240 rfl
set_option maxRecDepth 20000 in
theorem cd_240_157 : cd 240 157 = some (4, 158, 0, 0, 0, []) := cd_row ac_240 rfl
set_option maxRecDepth 20000 in
theorem cd_240_158 : cd 240 158 = some (23, 161, 10, 24, 0, []) := cd_row ac_240 rfl
set_option maxRecDepth 20000 in
theorem cd_240_161 : cd 240 161 = some (2, 163, 6, 0, 0, []) := cd_row ac_240 rfl
set_option maxRecDepth 20000 in
theorem cd_240_163 : cd 240 163 = some (28, 164, 0, 0, 0, []) := cd_row ac_240 rfl
set_option maxRecDepth 20000 in
theorem cd_240_164 : cd 240 164 = some (20, 167, 467, 1, 0, []) := cd_row ac_240 rfl
set_option maxRecDepth 20000 in
theorem cd_240_167 : cd 240 167 = some (4, 168, 0, 0, 0, []) := cd_row ac_240 rfl
set_option maxRecDepth 20000 in
theorem cd_240_168 : cd 240 168 = some (23, 171, 10, 23, 0, []) := cd_row ac_240 rfl
set_option maxRecDepth 20000 in
theorem cd_240_171 : cd 240 171 = some (2, 173, 5, 0, 0, []) := cd_row ac_240 rfl
set_option maxRecDepth 20000 in
theorem cd_240_173 : cd 240 173 = some (0, 174, 0, 0, 1, []) := cd_row ac_240 rfl
set_option maxRecDepth 20000 in
theorem cd_240_174 : cd 240 174 = some (9, 175, 0, 1, 0, []) := cd_row ac_240 rfl
set_option maxRecDepth 20000 in
theorem cd_240_175 : cd 240 175 = some (4, 176, 0, 0, 0, []) := cd_row ac_240 rfl
set_option maxRecDepth 20000 in
theorem cd_240_176 : cd 240 176 = some (23, 179, 10, 23, 0, []) := cd_row ac_240 rfl
set_option maxRecDepth 20000 in
theorem cd_240_179 : cd 240 179 = some (2, 181, 5, 0, 0, []) := cd_row ac_240 rfl
set_option maxRecDepth 20000 in
theorem cd_240_181 : cd 240 181 = some (27, 182, 0, 0, 0, []) := cd_row ac_240 rfl
set_option maxRecDepth 20000 in
theorem cd_240_182 : cd 240 182 = some (31, 183, 0, 0, 0, []) := cd_row ac_240 rfl
set_option maxRecDepth 20000 in
theorem cd_240_183 : cd 240 183 = some (22, 186, 467, 0, 0, []) := cd_row ac_240 rfl
set_option maxRecDepth 20000 in
theorem cd_240_186 : cd 240 186 = some (2, 188, 8, 0, 0, []) := cd_row ac_240 rfl
set_option maxRecDepth 20000 in
theorem cd_240_188 : cd 240 188 = some (0, 189, 0, 0, 4, []) := cd_row ac_240 rfl
set_option maxRecDepth 20000 in
theorem cd_240_189 : cd 240 189 = some (21, 192, 214, 1, 0, []) := cd_row ac_240 rfl
set_option maxRecDepth 20000 in
theorem cd_240_192 : cd 240 192 = some (4, 193, 0, 0, 0, []) := cd_row ac_240 rfl
set_option maxRecDepth 20000 in
theorem cd_240_193 : cd 240 193 = some (23, 196, 10, 23, 0, []) := cd_row ac_240 rfl
set_option maxRecDepth 20000 in
theorem cd_240_196 : cd 240 196 = some (2, 198, 5, 0, 0, []) := cd_row ac_240 rfl
set_option maxRecDepth 20000 in
theorem cd_240_198 : cd 240 198 = some (0, 199, 0, 0, 1, []) := cd_row ac_240 rfl
set_option maxRecDepth 20000 in
theorem cd_240_199 : cd 240 199 = some (9, 200, 0, 1, 0, []) := cd_row ac_240 rfl
set_option maxRecDepth 20000 in
theorem cd_240_200 : cd 240 200 = some (4, 201, 0, 0, 0, []) := cd_row ac_240 rfl
set_option maxRecDepth 20000 in
theorem cd_240_201 : cd 240 201 = some (23, 204, 10, 23, 0, []) := cd_row ac_240 rfl
set_option maxRecDepth 20000 in
theorem cd_240_204 : cd 240 204 = some (2, 206, 5, 0, 0, []) := cd_row ac_240 rfl
set_option maxRecDepth 20000 in
theorem cd_240_206 : cd 240 206 = some (0, 207, 0, 0, 1, []) := cd_row ac_240 rfl
set_option maxRecDepth 20000 in
theorem cd_240_207 : cd 240 207 = some (9, 208, 0, 1, 0, []) := cd_row ac_240 rfl
set_option maxRecDepth 20000 in
theorem cd_240_208 : cd 240 208 = some (27, 209, 0, 0, 0, []) := cd_row ac_240 rfl
set_option maxRecDepth 20000 in
theorem cd_240_209 : cd 240 209 = some (12, 210, 0, 0, 0, []) := cd_row ac_240 rfl
set_option maxRecDepth 20000 in
theorem cd_240_210 : cd 240 210 = some (31, 211, 0, 0, 0, []) := cd_row ac_240 rfl
set_option maxRecDepth 20000 in
theorem cd_240_211 : cd 240 211 = some (22, 214, 467, 0, 0, []) := cd_row ac_240 rfl
set_option maxRecDepth 20000 in
theorem cd_240_214 : cd 240 214 = some (2, 216, 8, 0, 0, []) := cd_row ac_240 rfl
set_option maxRecDepth 20000 in
theorem cd_240_216 : cd 240 216 = some (0, 217, 0, 0, 5, []) := cd_row ac_240 rfl
set_option maxRecDepth 20000 in
theorem cd_240_217 : cd 240 217 = some (21, 220, 268, 1, 0, []) := cd_row ac_240 rfl
set_option maxRecDepth 20000 in
theorem cd_240_220 : cd 240 220 = some (4, 221, 0, 0, 0, []) := cd_row ac_240 rfl
set_option maxRecDepth 20000 in
theorem cd_240_221 : cd 240 221 = some (23, 224, 10, 23, 0, []) := cd_row ac_240 rfl
set_option maxRecDepth 20000 in
theorem cd_240_224 : cd 240 224 = some (2, 226, 5, 0, 0, []) := cd_row ac_240 rfl
set_option maxRecDepth 20000 in
theorem cd_240_226 : cd 240 226 = some (0, 227, 0, 0, 1, []) := cd_row ac_240 rfl
set_option maxRecDepth 20000 in
theorem cd_240_227 : cd 240 227 = some (9, 228, 0, 1, 0, []) := cd_row ac_240 rfl
set_option maxRecDepth 20000 in
theorem cd_240_228 : cd 240 228 = some (4, 229, 0, 0, 0, []) := cd_row ac_240 rfl
set_option maxRecDepth 20000 in
theorem cd_240_229 : cd 240 229 = some (23, 232, 10, 23, 0, []) := cd_row ac_240 rfl
set_option maxRecDepth 20000 in
theorem cd_240_232 : cd 240 232 = some (2, 234, 5, 0, 0, []) := cd_row ac_240 rfl
set_option maxRecDepth 20000 in
theorem cd_240_234 : cd 240 234 = some (0, 235, 0, 0, 1, []) := cd_row ac_240 rfl
set_option maxRecDepth 20000 in
theorem cd_240_235 : cd 240 235 = some (9, 236, 0, 1, 0, []) := cd_row ac_240 rfl
set_option maxRecDepth 20000 in
theorem cd_240_236 : cd 240 236 = some (27, 237, 0, 0, 0, []) := cd_row ac_240 rfl
set_option maxRecDepth 20000 in
theorem cd_240_237 : cd 240 237 = some (1, 238, 0, 0, 0, []) := cd_row ac_240 rfl
set_option maxRecDepth 20000 in
theorem cd_240_238 : cd 240 238 = some (16, 239, 0, 0, 0, []) := cd_row ac_240 rfl
set_option maxRecDepth 20000 in
theorem cd_240_239 : cd 240 239 = some (20, 242, 255, 3, 0, []) := cd_row ac_240 rfl
set_option maxRecDepth 20000 in
theorem cd_240_242 : cd 240 242 = some (4, 243, 0, 0, 0, []) := cd_row ac_240 rfl
set_option maxRecDepth 20000 in
theorem cd_240_243 : cd 240 243 = some (23, 246, 10, 23, 0, []) := cd_row ac_240 rfl
set_option maxRecDepth 20000 in
theorem cd_240_246 : cd 240 246 = some (2, 248, 5, 0, 0, []) := cd_row ac_240 rfl
set_option maxRecDepth 20000 in
theorem cd_240_248 : cd 240 248 = some (0, 249, 0, 0, 1, []) := cd_row ac_240 rfl
set_option maxRecDepth 20000 in
theorem cd_240_249 : cd 240 249 = some (9, 250, 0, 1, 0, []) := cd_row ac_240 rfl
set_option maxRecDepth 20000 in
theorem cd_240_250 : cd 240 250 = some (27, 251, 0, 0, 0, []) := cd_row ac_240 rfl
set_option maxRecDepth 20000 in
theorem cd_240_251 : cd 240 251 = some (12, 252, 0, 0, 0, []) := cd_row ac_240 rfl
set_option maxRecDepth 20000 in
theorem cd_240_252 : cd 240 252 = some (22, 255, 264, 0, 0, []) := cd_row ac_240 rfl
set_option maxRecDepth 20000 in
theorem cd_240_255 : cd 240 255 = some (4, 256, 0, 0, 0, []) := cd_row ac_240 rfl
set_option maxRecDepth 20000 in
theorem cd_240_256 : cd 240 256 = some (23, 259, 10, 23, 0, []) := cd_row ac_240 rfl
set_option maxRecDepth 20000 in
theorem cd_240_259 : cd 240 259 = some (2, 261, 5, 0, 0, []) := cd_row ac_240 rfl
set_option maxRecDepth 20000 in
theorem cd_240_261 : cd 240 261 = some (0, 262, 0, 0, 1, []) := cd_row ac_240 rfl
set_option maxRecDepth 20000 in
theorem cd_240_262 : cd 240 262 = some (9, 263, 0, 1, 0, []) := cd_row ac_240 rfl
set_option maxRecDepth 20000 in
theorem cd_240_263 : cd 240 263 = some (27, 264, 0, 0, 0, []) := cd_row ac_240 rfl
set_option maxRecDepth 20000 in
theorem cd_240_264 : cd 240 264 = some (31, 265, 0, 0, 0, []) := cd_row ac_240 rfl
set_option maxRecDepth 20000 in
theorem cd_240_265 : cd 240 265 = some (22, 268, 467, 0, 0, []) := cd_row ac_240 rfl
set_option maxRecDepth 20000 in
theorem cd_240_268 : cd 240 268 = some (2, 270, 8, 0, 0, []) := cd_row ac_240 rfl
set_option maxRecDepth 20000 in
theorem cd_240_270 : cd 240 270 = some (0, 272, 0, 0, 10, []) := cd_row ac_240 rfl
set_option maxRecDepth 20000 in
theorem cd_240_272 : cd 240 272 = some (21, 275, 311, 3, 0, []) := cd_row ac_240 rfl
set_option maxRecDepth 20000 in
theorem cd_240_275 : cd 240 275 = some (8, 278, 5, 0, -1, []) := cd_row ac_240 rfl
set_option maxRecDepth 20000 in
theorem cd_240_278 : cd 240 278 = some (4, 279, 0, 0, 0, []) := cd_row ac_240 rfl
set_option maxRecDepth 20000 in
theorem cd_240_279 : cd 240 279 = some (23, 282, 10, 23, 0, []) := cd_row ac_240 rfl
set_option maxRecDepth 20000 in
theorem cd_240_282 : cd 240 282 = some (2, 284, 5, 0, 0, []) := cd_row ac_240 rfl
set_option maxRecDepth 20000 in
theorem cd_240_284 : cd 240 284 = some (0, 285, 0, 0, 1, []) := cd_row ac_240 rfl
set_option maxRecDepth 20000 in
theorem cd_240_285 : cd 240 285 = some (9, 286, 0, 1, 0, []) := cd_row ac_240 rfl
set_option maxRecDepth 20000 in
theorem cd_240_286 : cd 240 286 = some (2, 288, 8, 0, 0, []) := cd_row ac_240 rfl
set_option maxRecDepth 20000 in
theorem cd_240_288 : cd 240 288 = some (4, 289, 0, 0, 0, []) := cd_row ac_240 rfl
set_option maxRecDepth 20000 in
theorem cd_240_289 : cd 240 289 = some (23, 292, 10, 23, 0, []) := cd_row ac_240 rfl
set_option maxRecDepth 20000 in
theorem cd_240_292 : cd 240 292 = some (2, 294, 5, 0, 0, []) := cd_row ac_240 rfl
set_option maxRecDepth 20000 in
theorem cd_240_294 : cd 240 294 = some (0, 295, 0, 0, 1, []) := cd_row ac_240 rfl
set_option maxRecDepth 20000 in
theorem cd_240_295 : cd 240 295 = some (9, 296, 0, 1, 0, []) := cd_row ac_240 rfl
set_option maxRecDepth 20000 in
theorem cd_240_296 : cd 240 296 = some (27, 297, 0, 0, 0, []) := cd_row ac_240 rfl
set_option maxRecDepth 20000 in
theorem cd_240_297 : cd 240 297 = some (4, 298, 0, 0, 0, []) := cd_row ac_240 rfl
set_option maxRecDepth 20000 in
theorem cd_240_298 : cd 240 298 = some (23, 301, 10, 23, 0, []) := cd_row ac_240 rfl
set_option maxRecDepth 20000 in
theorem cd_240_301 : cd 240 301 = some (2, 303, 5, 0, 0, []) := cd_row ac_240 rfl
set_option maxRecDepth 20000 in
theorem cd_240_303 : cd 240 303 = some (27, 304, 0, 0, 0, []) := cd_row ac_240 rfl
set_option maxRecDepth 20000 in
theorem cd_240_304 : cd 240 304 = some (38, 307, 236, 3, 0, []) := cd_row ac_240 rfl
set_option maxRecDepth 20000 in
theorem cd_240_307 : cd 240 307 = some (31, 308, 0, 0, 0, []) := cd_row ac_240 rfl
set_option maxRecDepth 20000 in
theorem cd_240_308 : cd 240 308 = some (22, 311, 467, 0, 0, []) := cd_row ac_240 rfl
set_option maxRecDepth 20000 in
theorem cd_240_311 : cd 240 311 = some (2, 313, 8, 0, 0, []) := cd_row ac_240 rfl
set_option maxRecDepth 20000 in
theorem cd_240_313 : cd 240 313 = some (0, 315, 0, 0, 20, []) := cd_row ac_240 rfl
set_option maxRecDepth 20000 in
theorem cd_240_315 : cd 240 315 = some (21, 318, 355, 3, 0, []) := cd_row ac_240 rfl
set_option maxRecDepth 20000 in
theorem cd_240_318 : cd 240 318 = some (8, 321, 5, 0, -2, []) := cd_row ac_240 rfl
set_option maxRecDepth 20000 in
theorem cd_240_321 : cd 240 321 = some (4, 322, 0, 0, 0, []) := cd_row ac_240 rfl
set_option maxRecDepth 20000 in
theorem cd_240_322 : cd 240 322 = some (23, 325, 10, 24, 0, []) := cd_row ac_240 rfl
set_option maxRecDepth 20000 in
theorem cd_240_325 : cd 240 325 = some (2, 327, 6, 0, 0, []) := cd_row ac_240 rfl
set_option maxRecDepth 20000 in
theorem cd_240_327 : cd 240 327 = some (2, 329, 8, 0, 0, []) := cd_row ac_240 rfl
set_option maxRecDepth 20000 in
theorem cd_240_329 : cd 240 329 = some (4, 330, 0, 0, 0, []) := cd_row ac_240 rfl
set_option maxRecDepth 20000 in
theorem cd_240_330 : cd 240 330 = some (23, 333, 10, 23, 0, []) := cd_row ac_240 rfl
set_option maxRecDepth 20000 in
theorem cd_240_333 : cd 240 333 = some (2, 335, 5, 0, 0, []) := cd_row ac_240 rfl
set_option maxRecDepth 20000 in
theorem cd_240_335 : cd 240 335 = some (27, 336, 0, 0, 0, []) := cd_row ac_240 rfl
set_option maxRecDepth 20000 in
theorem cd_240_336 : cd 240 336 = some (4, 337, 0, 0, 0, []) := cd_row ac_240 rfl
set_option maxRecDepth 20000 in
theorem cd_240_337 : cd 240 337 = some (23, 340, 10, 23, 0, []) := cd_row ac_240 rfl
set_option maxRecDepth 20000 in
theorem cd_240_340 : cd 240 340 = some (2, 342, 5, 0, 0, []) := cd_row ac_240 rfl
set_option maxRecDepth 20000 in
theorem cd_240_342 : cd 240 342 = some (0, 343, 0, 0, 1, []) := cd_row ac_240 rfl
set_option maxRecDepth 20000 in
theorem cd_240_343 : cd 240 343 = some (9, 344, 0, 0, 0, []) := cd_row ac_240 rfl
set_option maxRecDepth 20000 in
theorem cd_240_344 : cd 240 344 = some (27, 345, 0, 0, 0, []) := cd_row ac_240 rfl
set_option maxRecDepth 20000 in
theorem cd_240_345 : cd 240 345 = some (38, 348, 237, 3, 0, []) := cd_row ac_240 rfl
set_option maxRecDepth 20000 in
theorem cd_240_348 : cd 240 348 = some (32, 349, 0, 0, 0, []) := cd_row ac_240 rfl
set_option maxRecDepth 20000 in
theorem cd_240_349 : cd 240 349 = some (8, 352, 6, 0, 1, []) := cd_row ac_240 rfl
set_option maxRecDepth 20000 in
theorem cd_240_352 : cd 240 352 = some (22, 355, 467, 0, 0, []) := cd_row ac_240 rfl
set_option maxRecDepth 20000 in
theorem cd_240_355 : cd 240 355 = some (2, 357, 8, 0, 0, []) := cd_row ac_240 rfl
set_option maxRecDepth 20000 in
theorem cd_240_357 : cd 240 357 = some (0, 359, 0, 0, 20, []) := cd_row ac_240 rfl
set_option maxRecDepth 20000 in
theorem cd_240_359 : cd 240 359 = some (21, 362, 391, 1, 0, []) := cd_row ac_240 rfl
set_option maxRecDepth 20000 in
theorem cd_240_362 : cd 240 362 = some (4, 363, 0, 0, 0, []) := cd_row ac_240 rfl
set_option maxRecDepth 20000 in
theorem cd_240_363 : cd 240 363 = some (23, 366, 10, 24, 0, []) := cd_row ac_240 rfl
set_option maxRecDepth 20000 in
theorem cd_240_366 : cd 240 366 = some (2, 368, 6, 0, 0, []) := cd_row ac_240 rfl
set_option maxRecDepth 20000 in
theorem cd_240_368 : cd 240 368 = some (0, 369, 0, 0, 1, []) := cd_row ac_240 rfl
set_option maxRecDepth 20000 in
theorem cd_240_369 : cd 240 369 = some (9, 370, 0, 1, 0, []) := cd_row ac_240 rfl
set_option maxRecDepth 20000 in
theorem cd_240_370 : cd 240 370 = some (4, 371, 0, 0, 0, []) := cd_row ac_240 rfl
set_option maxRecDepth 20000 in
theorem cd_240_371 : cd 240 371 = some (23, 374, 10, 24, 0, []) := cd_row ac_240 rfl
set_option maxRecDepth 20000 in
theorem cd_240_374 : cd 240 374 = some (2, 376, 6, 0, 0, []) := cd_row ac_240 rfl
set_option maxRecDepth 20000 in
theorem cd_240_376 : cd 240 376 = some (0, 377, 0, 0, 1, []) := cd_row ac_240 rfl
set_option maxRecDepth 20000 in
theorem cd_240_377 : cd 240 377 = some (9, 378, 0, 1, 0, []) := cd_row ac_240 rfl
set_option maxRecDepth 20000 in
theorem cd_240_378 : cd 240 378 = some (28, 379, 0, 0, 0, []) := cd_row ac_240 rfl
set_option maxRecDepth 20000 in
theorem cd_240_379 : cd 240 379 = some (20, 382, 386, 1, 0, []) := cd_row ac_240 rfl
set_option maxRecDepth 20000 in
theorem cd_240_382 : cd 240 382 = some (0, 383, 0, 0, 1, []) := cd_row ac_240 rfl
set_option maxRecDepth 20000 in
theorem cd_240_383 : cd 240 383 = some (22, 386, 387, 0, 0, []) := cd_row ac_240 rfl
set_option maxRecDepth 20000 in
theorem cd_240_386 : cd 240 386 = some (0, 387, 0, 0, 0, []) := cd_row ac_240 rfl
set_option maxRecDepth 20000 in
theorem cd_240_387 : cd 240 387 = some (32, 388, 0, 0, 0, []) := cd_row ac_240 rfl
set_option maxRecDepth 20000 in
theorem cd_240_388 : cd 240 388 = some (22, 391, 467, 0, 0, []) := cd_row ac_240 rfl
set_option maxRecDepth 20000 in
theorem cd_240_391 : cd 240 391 = some (8, 394, 6, 0, -1, []) := cd_row ac_240 rfl
set_option maxRecDepth 20000 in
theorem cd_240_394 : cd 240 394 = some (4, 395, 0, 0, 0, []) := cd_row ac_240 rfl
set_option maxRecDepth 20000 in
theorem cd_240_395 : cd 240 395 = some (23, 398, 10, 24, 0, []) := cd_row ac_240 rfl
set_option maxRecDepth 20000 in
theorem cd_240_398 : cd 240 398 = some (2, 400, 6, 0, 0, []) := cd_row ac_240 rfl
set_option maxRecDepth 20000 in
theorem cd_240_400 : cd 240 400 = some (0, 401, 0, 0, 1, []) := cd_row ac_240 rfl
set_option maxRecDepth 20000 in
theorem cd_240_401 : cd 240 401 = some (9, 402, 0, 1, 0, []) := cd_row ac_240 rfl
set_option maxRecDepth 20000 in
theorem cd_240_402 : cd 240 402 = some (2, 404, 8, 0, 0, []) := cd_row ac_240 rfl
set_option maxRecDepth 20000 in
theorem cd_240_404 : cd 240 404 = some (0, 406, 0, 0, 21, []) := cd_row ac_240 rfl
set_option maxRecDepth 20000 in
theorem cd_240_406 : cd 240 406 = some (21, 409, 439, 1, 0, []) := cd_row ac_240 rfl
set_option maxRecDepth 20000 in
theorem cd_240_409 : cd 240 409 = some (4, 410, 0, 0, 0, []) := cd_row ac_240 rfl
set_option maxRecDepth 20000 in
theorem cd_240_410 : cd 240 410 = some (23, 413, 10, 24, 0, []) := cd_row ac_240 rfl
set_option maxRecDepth 20000 in
theorem cd_240_413 : cd 240 413 = some (2, 415, 6, 0, 0, []) := cd_row ac_240 rfl
set_option maxRecDepth 20000 in
theorem cd_240_415 : cd 240 415 = some (0, 416, 0, 0, 1, []) := cd_row ac_240 rfl
set_option maxRecDepth 20000 in
theorem cd_240_416 : cd 240 416 = some (9, 417, 0, 1, 0, []) := cd_row ac_240 rfl
set_option maxRecDepth 20000 in
theorem cd_240_417 : cd 240 417 = some (28, 418, 0, 0, 0, []) := cd_row ac_240 rfl
set_option maxRecDepth 20000 in
theorem cd_240_418 : cd 240 418 = some (20, 421, 435, 0, 0, []) := cd_row ac_240 rfl
set_option maxRecDepth 20000 in
theorem cd_240_421 : cd 240 421 = some (4, 422, 0, 0, 0, []) := cd_row ac_240 rfl
set_option maxRecDepth 20000 in
theorem cd_240_422 : cd 240 422 = some (23, 425, 10, 24, 0, []) := cd_row ac_240 rfl
set_option maxRecDepth 20000 in
theorem cd_240_425 : cd 240 425 = some (2, 427, 6, 0, 0, []) := cd_row ac_240 rfl
set_option maxRecDepth 20000 in
theorem cd_240_427 : cd 240 427 = some (28, 428, 0, 0, 0, []) := cd_row ac_240 rfl
set_option maxRecDepth 20000 in
theorem cd_240_428 : cd 240 428 = some (20, 431, 435, 0, 0, []) := cd_row ac_240 rfl
set_option maxRecDepth 20000 in
theorem cd_240_431 : cd 240 431 = some (0, 432, 0, 0, 1, []) := cd_row ac_240 rfl
set_option maxRecDepth 20000 in
theorem cd_240_432 : cd 240 432 = some (22, 435, 466, 0, 0, []) := cd_row ac_240 rfl
set_option maxRecDepth 20000 in
theorem cd_240_435 : cd 240 435 = some (0, 436, 0, 0, 0, []) := cd_row ac_240 rfl
set_option maxRecDepth 20000 in
theorem cd_240_436 : cd 240 436 = some (22, 439, 466, 0, 0, []) := cd_row ac_240 rfl
set_option maxRecDepth 20000 in
theorem cd_240_439 : cd 240 439 = some (4, 440, 0, 0, 0, []) := cd_row ac_240 rfl
set_option maxRecDepth 20000 in
theorem cd_240_440 : cd 240 440 = some (23, 443, 10, 24, 0, []) := cd_row ac_240 rfl
set_option maxRecDepth 20000 in
theorem cd_240_443 : cd 240 443 = some (2, 445, 6, 0, 0, []) := cd_row ac_240 rfl
set_option maxRecDepth 20000 in
theorem cd_240_445 : cd 240 445 = some (0, 446, 0, 0, 1, []) := cd_row ac_240 rfl
set_option maxRecDepth 20000 in
theorem cd_240_446 : cd 240 446 = some (9, 447, 0, 1, 0, []) := cd_row ac_240 rfl
set_option maxRecDepth 20000 in
theorem cd_240_447 : cd 240 447 = some (28, 448, 0, 0, 0, []) := cd_row ac_240 rfl
set_option maxRecDepth 20000 in
theorem cd_240_448 : cd 240 448 = some (20, 451, 461, 1, 0, []) := cd_row ac_240 rfl
set_option maxRecDepth 20000 in
theorem cd_240_451 : cd 240 451 = some (4, 452, 0, 0, 0, []) := cd_row ac_240 rfl
set_option maxRecDepth 20000 in
theorem cd_240_452 : cd 240 452 = some (23, 455, 10, 24, 0, []) := cd_row ac_240 rfl
set_option maxRecDepth 20000 in
theorem cd_240_455 : cd 240 455 = some (2, 457, 6, 0, 0, []) := cd_row ac_240 rfl
set_option maxRecDepth 20000 in
theorem cd_240_457 : cd 240 457 = some (28, 458, 0, 0, 0, []) := cd_row ac_240 rfl
set_option maxRecDepth 20000 in
theorem cd_240_458 : cd 240 458 = some (20, 461, 465, 0, 0, []) := cd_row ac_240 rfl
set_option maxRecDepth 20000 in
theorem cd_240_461 : cd 240 461 = some (0, 462, 0, 0, 1, []) := cd_row ac_240 rfl
set_option maxRecDepth 20000 in
theorem cd_240_462 : cd 240 462 = some (22, 465, 466, 0, 0, []) := cd_row ac_240 rfl
set_option maxRecDepth 20000 in
theorem cd_240_465 : cd 240 465 = some (0, 466, 0, 0, 0, []) := cd_row ac_240 rfl
set_option maxRecDepth 20000 in
theorem cd_240_466 : cd 240 466 = some (32, 467, 0, 0, 0, []) := cd_row ac_240 rfl
set_option maxRecDepth 20000 in
theorem cd_240_467 : cd 240 467 = some (8, 470, 7, 0, 1, []) := cd_row ac_240 rfl
set_option maxRecDepth 20000 in
theorem cd_240_470 : cd 240 470 = some (22, 473, 40, 0, 0, []) := cd_row ac_240 rfl
set_option maxRecDepth 20000 in
theorem cd_240_473 : cd 240 473 = some (4, 474, 0, 0, 0, []) := cd_row ac_240 rfl
set_option maxRecDepth 20000 in
theorem cd_240_474 : cd 240 474 = some (23, 477, 10, 23, 0, []) := cd_row ac_240 rfl
set_option maxRecDepth 20000 in
theorem cd_240_477 : cd 240 477 = some (0, 478, 0, 0, 0, []) := cd_row ac_240 rfl
set_option maxRecDepth 20000 in
theorem cd_240_478 : cd 240 478 = some (27, 479, 0, 0, 0, []) := cd_row ac_240 rfl
set_option maxRecDepth 20000 in
theorem cd_240_479 : cd 240 479 = some (15, 480, 0, 0, 0, []) := cd_row ac_240 rfl
set_option maxRecDepth 20000 in
theorem cd_240_480 : cd 240 480 = some (40, 481, 0, 0, 0, []) := cd_row ac_240 rfl
def rgB2 (q : Bool × Int × Int) (e : Option HV) : Bool := match e with
  | some (.inr (.inl q')) => leQQ q' q
  | _ => false
/-- an entry by its range -/
noncomputable def jF2 (k i : Nat) (q : Bool × Int × Int) : Bool := match gS JB k with
  | some s => rgB2 q s.2.2.1[i]?
  | none => false
theorem AH_exj : ∀ {h h' : AH}, hN h' = hN h → hS h' = hS h → hK h' = hK h → (∀ k i, hV h' k i = hV h k i) → h' = h := by
  rintro ⟨a, b, c, e⟩ ⟨a', b', c', e'⟩ h1 h2 h3 h4
  have g1 : a' = a := h1
  have g2 : b' = b := h2
  have g3 : c' = c := h3
  have g4 : e' = e := by funext k i; exact h4 k i
  rw [g1, g2, g3, g4]
theorem same_j {β : Nat} {h h' : AH} (hJ : k_H JB h) (hJ' : k_H JB h') (hf : n_F (W0 β) [] h h') : h' = h := AH_exj (by rw [hJ'.1, hJ.1]) (by rw [hJ'.2.1, hJ.2.1]) hf.1.1 (fun k i => hf.2 k i (fun z => by obtain ⟨q, q1, -⟩ := z; cases q1))
theorem X_pure {β d M : Nat} {c : KT} {vs : List AV} {h : AH} {q : Bool × Int × Int} (hc : KOK JB (W0 β) M c) (hd : c.2.2.2.2.2.2.2 ≤ d + 1) (ha : sa_S c.1 vs) (hJ : k_H JB h) (hW : W0 β h) (hp : k_F c.2.2.2.2.1 h) (hr : c.2.1 = some (.inr q)) (hm : c.2.2.1 = []) : ∃ v, inRg q v ∧ ∀ Q : Option AV → AH → Prop, XC (d + 1) M vs h Q = Q (some v) h := by
  have q0 : XC (d + 1) M vs h (fun r h' => h' = h ∧ ∃ v, r = some v ∧ inRg q v) := by
    refine hc (d + 1) vs h _ hd ha hJ hW hp (fun r h' hr' hJ' _ _ hF => ?_)
    rw [hr] at hr'
    rw [hm] at hF
    obtain ⟨v, rfl, hv⟩ := hr'
    exact ⟨same_j hJ hJ' hF, v, rfl, hv⟩
  obtain ⟨r, h', ⟨rfl, v, rfl, hv⟩, e⟩ := XC_dt q0
  exact ⟨v, hv, e⟩
theorem w64_j (z : Int) : -9223372036854775808 ≤ w64 z ∧ w64 z ≤ 9223372036854775807 := by unfold w64; omega
theorem w32_j (z : Int) : -2147483648 ≤ w32 z ∧ w32 z ≤ 2147483647 := by unfold w32; omega
theorem X_two {β d : Nat} {h : AH} {o x y : Int} (hJ : k_H JB h) (hW : W0 β h) (ho : -2147483648 ≤ o ∧ o ≤ 2147483647) (hx : -9223372036854775808 ≤ x ∧ x ≤ 9223372036854775807) (hy : -9223372036854775808 ≤ y ∧ y ≤ 9223372036854775807) : ∃ z : Int, (-9223372036854775808 ≤ z ∧ z ≤ 9223372036854775807) ∧ ∀ Q : Option AV → AH → Prop, XC (d + 2) 236 [vI o, vL x, vL y] h Q = Q (some (vL z)) h := by
  obtain ⟨v, ⟨z, rfl, z1, z2⟩, e⟩ := X_pure (d := d + 1) (vs := [vI o, vL x, vL y]) (okM236 (β := β)) (by show 2 ≤ d + 1 + 1; omega) ⟨_, _, rfl, ⟨o, rfl, ho⟩, _, _, rfl, ⟨x, rfl, hx⟩, _, _, rfl, ⟨y, rfl, hy⟩, rfl⟩ hJ hW (fun f hf => by cases hf) rfl rfl
  have z1 : (-1000000 : Int) ≤ z := z1
  have z2 : z ≤ 1000000 := z2
  exact ⟨z, by omega, e⟩
theorem X_ask {β d : Nat} {h : AH} {o x y : Int} (hJ : k_H JB h) (hW : W0 β h) (ho : -2147483648 ≤ o ∧ o ≤ 2147483647) (hx : -9223372036854775808 ≤ x ∧ x ≤ 9223372036854775807) (hy : -9223372036854775808 ≤ y ∧ y ≤ 9223372036854775807) : ∃ z : Int, (0 ≤ z ∧ z ≤ 1) ∧ ∀ Q : Option AV → AH → Prop, XC (d + 1) 237 [vI o, vL x, vL y] h Q = Q (some (vI z)) h := by
  obtain ⟨v, ⟨z, rfl, z1, z2⟩, e⟩ := X_pure (d := d) (vs := [vI o, vL x, vL y]) (okM237 (β := β)) (by show 1 ≤ d + 1; omega) ⟨_, _, rfl, ⟨o, rfl, ho⟩, _, _, rfl, ⟨x, rfl, hx⟩, _, _, rfl, ⟨y, rfl, hy⟩, rfl⟩ hJ hW (fun f hf => by cases hf) rfl rfl
  exact ⟨z, ⟨z1, z2⟩, e⟩
theorem jwk : (jF 76 0 77 = true ∧ jF 76 2 79 = true ∧ jF 76 20 82 = true ∧ jF 76 23 83 = true ∧ jF 76 24 84 = true) ∧ (jK 76 10 0 = true ∧ jK 77 11 9834 = true ∧ jK 79 11 3012 = true ∧ jK 82 11 8 = true ∧ jK 83 12 330 = true ∧ jK 84 13 330 = true) := ⟨⟨by decide +kernel, by decide +kernel, by decide +kernel, by decide +kernel, by decide +kernel⟩, by decide +kernel, by decide +kernel, by decide +kernel, by decide +kernel, by decide +kernel, by decide +kernel⟩
theorem jwg : jG 82 0 8 1 (false, -2147483648, 2147483647) = true ∧ jG 83 0 330 1 (true, -9223372036854775808, 9223372036854775807) = true ∧ jG 84 0 330 1 (false, 0, 1) = true ∧ jG 77 602 9818 1 (false, -2147483648, 2147483647) = true ∧ jG 77 9818 9834 1 (false, 0, 9999) = true := ⟨by decide +kernel, by decide +kernel, by decide +kernel, by decide +kernel, by decide +kernel⟩
theorem jww : jW1 83 (true, -9223372036854775808, 9223372036854775807) = true ∧ jW1 84 (false, 0, 1) = true := ⟨by decide +kernel, by decide +kernel⟩
def mdW : MD := [(83, 0, 330), (84, 0, 330)]
theorem wkF {h : AH} (hJ : k_H JB h) : (hV h 76 0 = vR 77 ∧ hV h 76 2 = vR 79 ∧ hV h 76 20 = vR 82 ∧ hV h 76 23 = vR 83 ∧ hV h 76 24 = vR 84) ∧ (hK h 76 = (10, 0) ∧ hK h 77 = (11, 9834) ∧ hK h 79 = (11, 3012) ∧ hK h 82 = (11, 8) ∧ hK h 83 = (12, 330) ∧ hK h 84 = (13, 330)) := by
  obtain ⟨⟨a1, a2, a3, a4, a5⟩, b1, b2, b3, b4, b5, b6⟩ := jwk
  exact ⟨⟨jF_s hJ a1, jF_s hJ a2, jF_s hJ a3, jF_s hJ a4, jF_s hJ a5⟩, jK_s hJ b1, jK_s hJ b2, jK_s hJ b3, jK_s hJ b4, jK_s hJ b5, jK_s hJ b6⟩
theorem v82 {h : AH} (hJ : k_H JB h) {i : Nat} (hi : i < 8) : ∃ x, hV h 82 i = vI x ∧ -2147483648 ≤ x ∧ x ≤ 2147483647 := jG_s (i := i) hJ jwg.1 (Nat.zero_le _) hi (Nat.mod_one i)
theorem v83 {h : AH} (hJ : k_H JB h) {i : Nat} (hi : i < 330) : ∃ x, hV h 83 i = vL x ∧ -9223372036854775808 ≤ x ∧ x ≤ 9223372036854775807 := jG_s (i := i) hJ jwg.2.1 (Nat.zero_le _) hi (Nat.mod_one i)
theorem v84 {h : AH} (hJ : k_H JB h) {i : Nat} (hi : i < 330) : ∃ x, hV h 84 i = vI x ∧ 0 ≤ x ∧ x ≤ 1 := jG_s (i := i) hJ jwg.2.2.1 (Nat.zero_le _) hi (Nat.mod_one i)
theorem v77p {h : AH} (hJ : k_H JB h) {i : Nat} (h1 : 602 ≤ i) (h2 : i < 9834) : ∃ x, hV h 77 i = vI x ∧ -2147483648 ≤ x ∧ x ≤ 2147483647 := by
  by_cases z : i < 9818
  · exact jG_s (i := i) hJ jwg.2.2.2.1 h1 z (Nat.mod_one i)
  · obtain ⟨x, hx, x1, x2⟩ := jG_s (i := i) hJ jwg.2.2.2.2 (by omega) h2 (Nat.mod_one i)
    have x1 : (0 : Int) ≤ x := x1
    have x2 : x ≤ 9999 := x2
    exact ⟨x, hx, by omega, by omega⟩
theorem s83 {β : Nat} {h0 h : AH} {i : Nat} {x : Int} (hs : STo β mdW h0 h) (hi : i < 330) (hx : -9223372036854775808 ≤ x ∧ x ≤ 9223372036854775807) : STo β mdW h0 (hSet h 83 i (vL x)) := ST_s1 (l := 0) (u := 330) hs jww.1 ⟨x, rfl, hx⟩ (by decide +kernel) (by decide +kernel) (Nat.zero_le _) (by omega)
theorem s84 {β : Nat} {h0 h : AH} {i : Nat} {x : Int} (hs : STo β mdW h0 h) (hi : i < 330) (hx : 0 ≤ x ∧ x ≤ 1) : STo β mdW h0 (hSet h 84 i (vI x)) := ST_s1 (l := 0) (u := 330) hs jww.2 ⟨x, rfl, hx⟩ (by decide +kernel) (by decide +kernel) (Nat.zero_le _) (by omega)
theorem jag : jF2 76 21 (false, 0, 10300) = true ∧ jF2 76 22 (false, 0, 10240) = true := ⟨by decide +kernel, by decide +kernel⟩

theorem jF2_s {h : AH} {k i : Nat} {q : Bool × Int × Int} (hJ : k_H JB h) (h1 : jF2 k i q = true) : inRg q (hV h k i) := by
  unfold jF2 at h1
  split at h1
  · rename_i s hs
    have hC := hJ.2.2 k s hs
    unfold rgB2 at h1
    split at h1
    · rename_i q' he
      exact leQQ_s h1 (hC.2.1 i _ he)
    · cases h1
  · cases h1
/-- what was some tenths ago -/
theorem ag_n {q w : Nat} (hq : q < 1536) (hw : w ≤ 9) : w32 (6 * (q : Int)) = ((6 * q : Nat) : Int) ∧ w32 (602 + ((6 * q : Nat) : Int)) = ((602 + 6 * q : Nat) : Int) ∧ w32 (((602 + 6 * q : Nat) : Int) + (w : Int)) = ((602 + 6 * q + w : Nat) : Int) ∧ ((0 : Int) ≤ ((602 + 6 * q + w : Nat) : Int) ∧ ((602 + 6 * q + w : Nat) : Int) < 9834) ∧ 602 ≤ 602 + 6 * q + w ∧ 602 + 6 * q + w < 9834 := by unfold w32; omega
theorem ag_m {m : Nat} : Int.tmod (m : Int) 1536 = ((m % 1536 : Nat) : Int) ∧ m % 1536 < 1536 := by rw [Int.tmod_eq_emod_of_nonneg (by omega)]; omega
theorem ag_f {f : Int} {k : Nat} (h1 : 0 ≤ f) (h2 : f ≤ 10300) (hk : k ≤ 9) : w32 (f - (k : Int)) = f - (k : Int) := by unfold w32; omega
def AGd (h : AH) (r : Option AV) (h' : AH) : Prop := h' = h ∧ ∃ z : Int, r = some (vI z) ∧ -2147483648 ≤ z ∧ z ≤ 2147483647
def AGe (h : AH) (x : Int) (r : Option AV) (h' : AH) : Prop := h' = h ∧ r = some (vI x)
set_option maxHeartbeats 1000000 in
theorem X_pas {d : Nat} {h : AH} {m w : Nat} (hJ : k_H JB h) (hw : w ≤ 9) : ∃ z : Int, (-2147483648 ≤ z ∧ z ≤ 2147483647) ∧ ∀ Q : Option AV → AH → Prop, XC (d + 1) 238 [vR 76, vI (m : Int), vI (w : Int)] h Q = Q (some (vI z)) h := by
  obtain ⟨⟨o1, o2, o3, o4, o5⟩, k1, k2, k3, k4, k5, k6⟩ := wkF hJ
  obtain ⟨t1, hq2⟩ := ag_m (m := m)
  generalize hq : m % 1536 = q at t1 hq2
  obtain ⟨a2, a3, a4, b4, c1, c2⟩ := ag_n hq2 hw
  obtain ⟨x, hx, x1, x2⟩ := v77p hJ c1 c2
  have y : AGe h x (some (vI x)) h := ⟨rfl, rfl⟩
  have q1 : XC (d + 1) 238 [vR 76, vI (m : Int), vI (w : Int)] h (AGe h x) := by
    refine XC_of (Nat.le_of_ble_eq_true rfl) ?_
    show XP d 238 0 [some (vR 76), some (vI (m : Int)), some (vI (w : Int))] [] h _
    refine xpk_sound (stops := []) (n := 30) ?_
    simp only [sk_0, sk_1, sk_2, sk_3, sk_4, sk_5, sk_6, sk_7, sk_8, sk_iadd, sk_isub, sk_imul, sk_iand, sk_ior, sk_ixor, sk_ishl, sk_ishr, sk_iushr, sk_idiv, sk_irem, sk_ineg, sk_ladd, sk_lsub, sk_lmul, sk_land, sk_lor, sk_ldiv, sk_lrem, sk_lneg, sk_lshl, sk_lshr, sk_i2l, sk_l2i, sk_lcmp, sk_dupI, sk_dupR, sk_dup2L, sk_dup2I, sk_popI, sk_ifeq, sk_ifne, sk_iflt, sk_ifge, sk_ifgt, sk_ifle, sk_iceq, sk_icne, sk_iclt, sk_icge, sk_icgt, sk_icle, sk_goto, sk_getf, sk_putf, sk_gets, sk_iald, sk_lald, sk_bald, sk_aald, sk_iast, sk_last, sk_bast, sk_aast, sk_alen, sk_newa, sk_newt, sk_new, sk_cs1, sk_cs2, sk_cs3, sk_cs4, sk_cs5, sk_cs6, sk_cv1, sk_cv2, sk_cv3, sk_cv4, sk_cv5, sk_cv6, sk_ci1, sk_ci2, sk_ci3, sk_ret0, sk_retI, sk_retL, sk_retR, sk_sw, sk_oin, sk_max, sk_min, sk_abs, lI_0, lI_s, lL_0, lL_s, lR_0, lR_s, vIo_e, vLo_e, vOo_e, stW_I, stW_L, stW_R, stW_0, stW_z, okSt_0, okSt_s, hV_eq, hK_eq, okF_0, okF_1, okF_3, is01_0, is01_1, is01_i, Int.toNat_natCast, Int.reduceEq, Int.reduceLE, Int.reduceLT, Int.reduceNeg, Nat.reduceLT, not_true_eq_false, not_false_eq_true, reduceIte, Option.toList, List.cons_append, List.nil_append, List.set_cons_zero, List.set_cons_succ, List.not_mem_nil, List.mem_cons, if_false, if_true, ite_true, ite_false, and_self, and_true, true_and, Nat.reduceAdd, Nat.reduceLeDiff, Nat.reduceEqDiff, Nat.zero_add, Nat.le_refl, Nat.zero_le, or_false, false_or, Int.reduceToNat, or_true, true_or, eq_self, and_false, false_and, inR_d, nc_4, nc_5, nc_6, nc_7, nc_8, nc_16, nc_18, nc_20, nc_24, nc_32, nc_40, nc_64, nc_104, nc_120, nc_160, nc_256, nc_300, nc_330, nc_390, nc_1200, nc_1260, nc_3012, nc_9834, okSt_1i, okSt_1r, okSt_1n, List.length_cons, List.length_nil, xpk_succ cd_238_0, xpk_succ cd_238_1, xpk_succ cd_238_4, xpk_succ cd_238_7, xpk_succ cd_238_9, xpk_succ cd_238_10, xpk_succ cd_238_13, xpk_succ cd_238_14, xpk_succ cd_238_15, xpk_succ cd_238_16, xpk_succ cd_238_17, xpk_succ cd_238_18, xpk_succ cd_238_19, k1, k2, o1, t1, a2, a3, a4, b4, hx]
    exact y
  obtain ⟨r, h', ⟨rfl, rfl⟩, e⟩ := XC_dt q1
  exact ⟨x, ⟨x1, x2⟩, e⟩
set_option maxHeartbeats 1000000 in
theorem X_ago {β d : Nat} {h : AH} {k w : Nat} (hJ : k_H JB h) (hW : W0 β h) (hk : k ≤ 9) (hw : w ≤ 9) : ∃ z : Int, (-2147483648 ≤ z ∧ z ≤ 2147483647) ∧ ∀ Q : Option AV → AH → Prop, XC (d + 2) 239 [vR 76, vI (k : Int), vI (w : Int)] h Q = Q (some (vI z)) h := by
  obtain ⟨⟨o1, o2, o3, o4, o5⟩, k1, k2, k3, k4, k5, k6⟩ := wkF hJ
  obtain ⟨f, v21, f1, f2⟩ : ∃ x, hV h 76 21 = vI x ∧ (0 : Int) ≤ x ∧ x ≤ 10300 := jF2_s hJ jag.1
  obtain ⟨g, v22, g1, g2⟩ : ∃ x, hV h 76 22 = vI x ∧ (0 : Int) ≤ x ∧ x ≤ 10240 := jF2_s hJ jag.2
  have a1 := ag_f f1 f2 hk
  have q0 : XC (d + 2) 239 [vR 76, vI (k : Int), vI (w : Int)] h (AGd h) := by
    refine XC_of (Nat.le_of_ble_eq_true rfl) ?_
    show XP (d + 1) 239 0 [some (vR 76), some (vI (k : Int)), some (vI (w : Int))] [] h _
    by_cases z : g ≤ f - (k : Int)
    · obtain ⟨m, hm⟩ : ∃ m : Nat, f - (k : Int) = (m : Int) := Int.eq_ofNat_of_zero_le (Int.le_trans g1 z)
      obtain ⟨x, ⟨x1, x2⟩, e⟩ := X_pas (d := d) (m := m) hJ hw
      have y : AGd h (some (vI x)) h := ⟨rfl, x, rfl, x1, x2⟩
      have z2 : g ≤ (m : Int) := by rw [← hm]; exact z
      have a1 : w32 (m : Int) = (m : Int) := by rw [← hm]; exact a1
      refine xpk_sound (stops := []) (n := 30) ?_
      simp only [sk_0, sk_1, sk_2, sk_3, sk_4, sk_5, sk_6, sk_7, sk_8, sk_iadd, sk_isub, sk_imul, sk_iand, sk_ior, sk_ixor, sk_ishl, sk_ishr, sk_iushr, sk_idiv, sk_irem, sk_ineg, sk_ladd, sk_lsub, sk_lmul, sk_land, sk_lor, sk_ldiv, sk_lrem, sk_lneg, sk_lshl, sk_lshr, sk_i2l, sk_l2i, sk_lcmp, sk_dupI, sk_dupR, sk_dup2L, sk_dup2I, sk_popI, sk_ifeq, sk_ifne, sk_iflt, sk_ifge, sk_ifgt, sk_ifle, sk_iceq, sk_icne, sk_iclt, sk_icge, sk_icgt, sk_icle, sk_goto, sk_getf, sk_putf, sk_gets, sk_iald, sk_lald, sk_bald, sk_aald, sk_iast, sk_last, sk_bast, sk_aast, sk_alen, sk_newa, sk_newt, sk_new, sk_cs1, sk_cs2, sk_cs3, sk_cs4, sk_cs5, sk_cs6, sk_cv1, sk_cv2, sk_cv3, sk_cv4, sk_cv5, sk_cv6, sk_ci1, sk_ci2, sk_ci3, sk_ret0, sk_retI, sk_retL, sk_retR, sk_sw, sk_oin, sk_max, sk_min, sk_abs, lI_0, lI_s, lL_0, lL_s, lR_0, lR_s, vIo_e, vLo_e, vOo_e, stW_I, stW_L, stW_R, stW_0, stW_z, okSt_0, okSt_s, hV_eq, hK_eq, okF_0, okF_1, okF_3, is01_0, is01_1, is01_i, Int.toNat_natCast, Int.reduceEq, Int.reduceLE, Int.reduceLT, Int.reduceNeg, Nat.reduceLT, not_true_eq_false, not_false_eq_true, reduceIte, Option.toList, List.cons_append, List.nil_append, List.set_cons_zero, List.set_cons_succ, List.not_mem_nil, List.mem_cons, if_false, if_true, ite_true, ite_false, and_self, and_true, true_and, Nat.reduceAdd, Nat.reduceLeDiff, Nat.reduceEqDiff, Nat.zero_add, Nat.le_refl, Nat.zero_le, or_false, false_or, Int.reduceToNat, or_true, true_or, eq_self, and_false, false_and, inR_d, nc_4, nc_5, nc_6, nc_7, nc_8, nc_16, nc_18, nc_20, nc_24, nc_32, nc_40, nc_64, nc_104, nc_120, nc_160, nc_256, nc_300, nc_330, nc_390, nc_1200, nc_1260, nc_3012, nc_9834, okSt_1i, okSt_1r, okSt_1n, List.length_cons, List.length_nil, xpk_succ cd_239_0, xpk_succ cd_239_1, xpk_succ cd_239_4, xpk_succ cd_239_5, xpk_succ cd_239_6, xpk_succ cd_239_7, xpk_succ cd_239_10, xpk_succ cd_239_13, xpk_succ cd_239_14, xpk_succ cd_239_17, xpk_succ cd_239_18, xpk_succ cd_239_19, xpk_succ cd_239_22, xpk_succ cd_239_23, xpk_succ cd_239_24, xpk_succ cd_239_25, xpk_succ cd_239_28, k1, v21, v22, a1, hm, z2, e]
      exact y
    · have y : AGd h (some (vI 0)) h := ⟨rfl, 0, rfl, by decide, by decide⟩
      refine xpk_sound (stops := []) (n := 30) ?_
      simp only [sk_0, sk_1, sk_2, sk_3, sk_4, sk_5, sk_6, sk_7, sk_8, sk_iadd, sk_isub, sk_imul, sk_iand, sk_ior, sk_ixor, sk_ishl, sk_ishr, sk_iushr, sk_idiv, sk_irem, sk_ineg, sk_ladd, sk_lsub, sk_lmul, sk_land, sk_lor, sk_ldiv, sk_lrem, sk_lneg, sk_lshl, sk_lshr, sk_i2l, sk_l2i, sk_lcmp, sk_dupI, sk_dupR, sk_dup2L, sk_dup2I, sk_popI, sk_ifeq, sk_ifne, sk_iflt, sk_ifge, sk_ifgt, sk_ifle, sk_iceq, sk_icne, sk_iclt, sk_icge, sk_icgt, sk_icle, sk_goto, sk_getf, sk_putf, sk_gets, sk_iald, sk_lald, sk_bald, sk_aald, sk_iast, sk_last, sk_bast, sk_aast, sk_alen, sk_newa, sk_newt, sk_new, sk_cs1, sk_cs2, sk_cs3, sk_cs4, sk_cs5, sk_cs6, sk_cv1, sk_cv2, sk_cv3, sk_cv4, sk_cv5, sk_cv6, sk_ci1, sk_ci2, sk_ci3, sk_ret0, sk_retI, sk_retL, sk_retR, sk_sw, sk_oin, sk_max, sk_min, sk_abs, lI_0, lI_s, lL_0, lL_s, lR_0, lR_s, vIo_e, vLo_e, vOo_e, stW_I, stW_L, stW_R, stW_0, stW_z, okSt_0, okSt_s, hV_eq, hK_eq, okF_0, okF_1, okF_3, is01_0, is01_1, is01_i, Int.toNat_natCast, Int.reduceEq, Int.reduceLE, Int.reduceLT, Int.reduceNeg, Nat.reduceLT, not_true_eq_false, not_false_eq_true, reduceIte, Option.toList, List.cons_append, List.nil_append, List.set_cons_zero, List.set_cons_succ, List.not_mem_nil, List.mem_cons, if_false, if_true, ite_true, ite_false, and_self, and_true, true_and, Nat.reduceAdd, Nat.reduceLeDiff, Nat.reduceEqDiff, Nat.zero_add, Nat.le_refl, Nat.zero_le, or_false, false_or, Int.reduceToNat, or_true, true_or, eq_self, and_false, false_and, inR_d, nc_4, nc_5, nc_6, nc_7, nc_8, nc_16, nc_18, nc_20, nc_24, nc_32, nc_40, nc_64, nc_104, nc_120, nc_160, nc_256, nc_300, nc_330, nc_390, nc_1200, nc_1260, nc_3012, nc_9834, okSt_1i, okSt_1r, okSt_1n, List.length_cons, List.length_nil, xpk_succ cd_239_0, xpk_succ cd_239_1, xpk_succ cd_239_4, xpk_succ cd_239_5, xpk_succ cd_239_6, xpk_succ cd_239_7, xpk_succ cd_239_10, xpk_succ cd_239_13, xpk_succ cd_239_14, xpk_succ cd_239_17, xpk_succ cd_239_18, xpk_succ cd_239_19, xpk_succ cd_239_22, xpk_succ cd_239_23, xpk_succ cd_239_24, xpk_succ cd_239_25, xpk_succ cd_239_28, k1, v21, v22, a1, z]
      exact y
  obtain ⟨r, h', ⟨rfl, z, rfl, z1, z2⟩, e⟩ := XC_dt q0
  exact ⟨z, ⟨z1, z2⟩, e⟩
