set_option maxRecDepth 20000 in
theorem ac_216 : allC[216]? = some cl216 := rfl
theorem cd_216_0 : cd 216 0 = some (4, 1, 0, 0, 0, []) := cd_row ac_216 rfl
theorem cd_216_1 : cd 216 1 = some (46, 4, 198, 1, 10, []) := cd_row ac_216 rfl
theorem cd_216_4 : cd 216 4 = some (4, 5, 0, 0, 0, []) := cd_row ac_216 rfl
theorem cd_216_5 : cd 216 5 = some (23, 8, 10, 9, 0, []) := cd_row ac_216 rfl
theorem cd_216_8 : cd 216 8 = some (0, 9, 0, 0, 1, []) := cd_row ac_216 rfl
theorem cd_216_9 : cd 216 9 = some (21, 12, 14, 0, 0, []) := cd_row ac_216 rfl
theorem cd_216_12 : cd 216 12 = some (0, 13, 0, 0, 1, []) := cd_row ac_216 rfl
theorem cd_216_13 : cd 216 13 = some (40, 14, 0, 0, 0, []) := cd_row ac_216 rfl
theorem cd_216_14 : cd 216 14 = some (4, 15, 0, 0, 0, []) := cd_row ac_216 rfl
theorem cd_216_15 : cd 216 15 = some (23, 18, 10, 10, 0, []) := cd_row ac_216 rfl
theorem cd_216_18 : cd 216 18 = some (0, 19, 0, 0, 1, []) := cd_row ac_216 rfl
theorem cd_216_19 : cd 216 19 = some (0, 21, 0, 0, 9, []) := cd_row ac_216 rfl
theorem cd_216_21 : cd 216 21 = some (38, 24, 182, 3, 0, []) := cd_row ac_216 rfl
theorem cd_216_24 : cd 216 24 = some (20, 27, 29, 1, 0, []) := cd_row ac_216 rfl
theorem cd_216_27 : cd 216 27 = some (0, 28, 0, 0, 2, []) := cd_row ac_216 rfl
theorem cd_216_28 : cd 216 28 = some (40, 29, 0, 0, 0, []) := cd_row ac_216 rfl
theorem cd_216_29 : cd 216 29 = some (4, 30, 0, 0, 0, []) := cd_row ac_216 rfl
theorem cd_216_30 : cd 216 30 = some (23, 33, 10, 10, 0, []) := cd_row ac_216 rfl
theorem cd_216_33 : cd 216 33 = some (5, 34, 1, 0, 0, []) := cd_row ac_216 rfl
theorem cd_216_34 : cd 216 34 = some (4, 35, 0, 0, 0, []) := cd_row ac_216 rfl
theorem cd_216_35 : cd 216 35 = some (46, 38, 198, 1, 10, []) := cd_row ac_216 rfl
theorem cd_216_38 : cd 216 38 = some (4, 39, 0, 0, 0, []) := cd_row ac_216 rfl
theorem cd_216_39 : cd 216 39 = some (46, 42, 206, 1, 10, []) := cd_row ac_216 rfl
theorem cd_216_42 : cd 216 42 = some (5, 43, 2, 0, 0, []) := cd_row ac_216 rfl
theorem cd_216_43 : cd 216 43 = some (2, 44, 2, 0, 0, []) := cd_row ac_216 rfl
theorem cd_216_44 : cd 216 44 = some (20, 47, 49, 3, 0, []) := cd_row ac_216 rfl
theorem cd_216_47 : cd 216 47 = some (0, 48, 0, 0, 1, []) := cd_row ac_216 rfl
theorem cd_216_48 : cd 216 48 = some (40, 49, 0, 0, 0, []) := cd_row ac_216 rfl
theorem cd_216_49 : cd 216 49 = some (2, 50, 2, 0, 0, []) := cd_row ac_216 rfl
theorem cd_216_50 : cd 216 50 = some (0, 51, 0, 0, 4, []) := cd_row ac_216 rfl
theorem cd_216_51 : cd 216 51 = some (21, 54, 62, 4, 0, []) := cd_row ac_216 rfl
theorem cd_216_54 : cd 216 54 = some (4, 55, 0, 0, 0, []) := cd_row ac_216 rfl
theorem cd_216_55 : cd 216 55 = some (2, 56, 2, 0, 0, []) := cd_row ac_216 rfl
theorem cd_216_56 : cd 216 56 = some (46, 59, 207, 2, 10, []) := cd_row ac_216 rfl
theorem cd_216_59 : cd 216 59 = some (20, 62, 64, 1, 0, []) := cd_row ac_216 rfl
theorem cd_216_62 : cd 216 62 = some (0, 63, 0, 0, 5, []) := cd_row ac_216 rfl
theorem cd_216_63 : cd 216 63 = some (40, 64, 0, 0, 0, []) := cd_row ac_216 rfl
theorem cd_216_64 : cd 216 64 = some (4, 65, 0, 0, 0, []) := cd_row ac_216 rfl
theorem cd_216_65 : cd 216 65 = some (0, 66, 0, 0, 2, []) := cd_row ac_216 rfl
theorem cd_216_66 : cd 216 66 = some (0, 68, 0, 0, 10, []) := cd_row ac_216 rfl
theorem cd_216_68 : cd 216 68 = some (2, 69, 1, 0, 0, []) := cd_row ac_216 rfl
theorem cd_216_69 : cd 216 69 = some (9, 70, 0, 2, 0, []) := cd_row ac_216 rfl
theorem cd_216_70 : cd 216 70 = some (2, 71, 2, 0, 0, []) := cd_row ac_216 rfl
theorem cd_216_71 : cd 216 71 = some (9, 72, 0, 0, 0, []) := cd_row ac_216 rfl
theorem cd_216_72 : cd 216 72 = some (46, 75, 215, 3, 10, []) := cd_row ac_216 rfl
theorem cd_216_75 : cd 216 75 = some (0, 76, 0, 0, 0, []) := cd_row ac_216 rfl
theorem cd_216_76 : cd 216 76 = some (40, 77, 0, 0, 0, []) := cd_row ac_216 rfl
set_option maxRecDepth 20000 in
theorem ac_217 : allC[217]? = some cl217 := rfl
theorem cd_217_0 : cd 217 0 = some (4, 1, 0, 0, 0, []) := cd_row ac_217 rfl
theorem cd_217_1 : cd 217 1 = some (23, 4, 10, 9, 0, []) := cd_row ac_217 rfl
theorem cd_217_4 : cd 217 4 = some (0, 5, 0, 0, 1, []) := cd_row ac_217 rfl
theorem cd_217_5 : cd 217 5 = some (21, 8, 20, 1, 0, []) := cd_row ac_217 rfl
theorem cd_217_8 : cd 217 8 = some (4, 9, 0, 0, 0, []) := cd_row ac_217 rfl
theorem cd_217_9 : cd 217 9 = some (23, 12, 10, 10, 0, []) := cd_row ac_217 rfl
theorem cd_217_12 : cd 217 12 = some (0, 15, 0, 0, 9999, []) := cd_row ac_217 rfl
theorem cd_217_15 : cd 217 15 = some (21, 18, 20, 5, 0, []) := cd_row ac_217 rfl
theorem cd_217_18 : cd 217 18 = some (0, 19, 0, 0, 2, []) := cd_row ac_217 rfl
theorem cd_217_19 : cd 217 19 = some (40, 20, 0, 0, 0, []) := cd_row ac_217 rfl
theorem cd_217_20 : cd 217 20 = some (4, 21, 0, 0, 0, []) := cd_row ac_217 rfl
theorem cd_217_21 : cd 217 21 = some (46, 24, 206, 1, 10, []) := cd_row ac_217 rfl
theorem cd_217_24 : cd 217 24 = some (5, 25, 1, 0, 0, []) := cd_row ac_217 rfl
theorem cd_217_25 : cd 217 25 = some (2, 26, 1, 0, 0, []) := cd_row ac_217 rfl
theorem cd_217_26 : cd 217 26 = some (20, 29, 39, 2, 0, []) := cd_row ac_217 rfl
theorem cd_217_29 : cd 217 29 = some (4, 30, 0, 0, 0, []) := cd_row ac_217 rfl
theorem cd_217_30 : cd 217 30 = some (2, 31, 1, 0, 0, []) := cd_row ac_217 rfl
theorem cd_217_31 : cd 217 31 = some (46, 34, 207, 2, 10, []) := cd_row ac_217 rfl
theorem cd_217_34 : cd 217 34 = some (20, 37, 39, 1, 0, []) := cd_row ac_217 rfl
theorem cd_217_37 : cd 217 37 = some (0, 38, 0, 0, 5, []) := cd_row ac_217 rfl
theorem cd_217_38 : cd 217 38 = some (40, 39, 0, 0, 0, []) := cd_row ac_217 rfl
theorem cd_217_39 : cd 217 39 = some (4, 40, 0, 0, 0, []) := cd_row ac_217 rfl
theorem cd_217_40 : cd 217 40 = some (23, 43, 10, 9, 0, []) := cd_row ac_217 rfl
theorem cd_217_43 : cd 217 43 = some (0, 44, 0, 0, 1, []) := cd_row ac_217 rfl
theorem cd_217_44 : cd 217 44 = some (21, 47, 51, 0, 0, []) := cd_row ac_217 rfl
theorem cd_217_47 : cd 217 47 = some (2, 48, 1, 0, 0, []) := cd_row ac_217 rfl
theorem cd_217_48 : cd 217 48 = some (20, 51, 86, 2, 0, []) := cd_row ac_217 rfl
theorem cd_217_51 : cd 217 51 = some (4, 52, 0, 0, 0, []) := cd_row ac_217 rfl
theorem cd_217_52 : cd 217 52 = some (4, 53, 0, 0, 0, []) := cd_row ac_217 rfl
theorem cd_217_53 : cd 217 53 = some (23, 56, 10, 9, 0, []) := cd_row ac_217 rfl
theorem cd_217_56 : cd 217 56 = some (0, 57, 0, 0, 1, []) := cd_row ac_217 rfl
theorem cd_217_57 : cd 217 57 = some (21, 60, 64, 1, 0, []) := cd_row ac_217 rfl
theorem cd_217_60 : cd 217 60 = some (0, 61, 0, 0, 0, []) := cd_row ac_217 rfl
theorem cd_217_61 : cd 217 61 = some (22, 64, 65, 0, 0, []) := cd_row ac_217 rfl
theorem cd_217_64 : cd 217 64 = some (0, 65, 0, 0, 1, []) := cd_row ac_217 rfl
theorem cd_217_65 : cd 217 65 = some (4, 66, 0, 0, 0, []) := cd_row ac_217 rfl
theorem cd_217_66 : cd 217 66 = some (23, 69, 10, 9, 0, []) := cd_row ac_217 rfl
theorem cd_217_69 : cd 217 69 = some (0, 70, 0, 0, 1, []) := cd_row ac_217 rfl
theorem cd_217_70 : cd 217 70 = some (21, 73, 80, 1, 0, []) := cd_row ac_217 rfl
theorem cd_217_73 : cd 217 73 = some (4, 74, 0, 0, 0, []) := cd_row ac_217 rfl
theorem cd_217_74 : cd 217 74 = some (23, 77, 10, 10, 0, []) := cd_row ac_217 rfl
theorem cd_217_77 : cd 217 77 = some (22, 80, 81, 0, 0, []) := cd_row ac_217 rfl
theorem cd_217_80 : cd 217 80 = some (2, 81, 1, 0, 0, []) := cd_row ac_217 rfl
theorem cd_217_81 : cd 217 81 = some (46, 84, 215, 3, 10, []) := cd_row ac_217 rfl
theorem cd_217_84 : cd 217 84 = some (0, 85, 0, 0, 0, []) := cd_row ac_217 rfl
theorem cd_217_85 : cd 217 85 = some (40, 86, 0, 0, 0, []) := cd_row ac_217 rfl
theorem cd_217_86 : cd 217 86 = some (4, 87, 0, 0, 0, []) := cd_row ac_217 rfl
theorem cd_217_87 : cd 217 87 = some (0, 89, 0, 0, 97, []) := cd_row ac_217 rfl
theorem cd_217_89 : cd 217 89 = some (0, 91, 0, 0, 103, []) := cd_row ac_217 rfl
theorem cd_217_91 : cd 217 91 = some (0, 93, 0, 0, 111, []) := cd_row ac_217 rfl
theorem cd_217_93 : cd 217 93 = some (38, 96, 200, 3, 0, []) := cd_row ac_217 rfl
theorem cd_217_96 : cd 217 96 = some (46, 99, 204, 2, 10, []) := cd_row ac_217 rfl
theorem cd_217_99 : cd 217 99 = some (20, 102, 107, 0, 0, []) := cd_row ac_217 rfl
theorem cd_217_102 : cd 217 102 = some (4, 103, 0, 0, 0, []) := cd_row ac_217 rfl
theorem cd_217_103 : cd 217 103 = some (46, 106, 216, 1, 10, []) := cd_row ac_217 rfl
theorem cd_217_106 : cd 217 106 = some (40, 107, 0, 0, 0, []) := cd_row ac_217 rfl
theorem cd_217_107 : cd 217 107 = some (4, 108, 0, 0, 0, []) := cd_row ac_217 rfl
theorem cd_217_108 : cd 217 108 = some (23, 111, 10, 9, 0, []) := cd_row ac_217 rfl
theorem cd_217_111 : cd 217 111 = some (0, 113, 0, 0, 40, []) := cd_row ac_217 rfl
theorem cd_217_113 : cd 217 113 = some (21, 116, 123, 1, 0, []) := cd_row ac_217 rfl
theorem cd_217_116 : cd 217 116 = some (4, 117, 0, 0, 0, []) := cd_row ac_217 rfl
theorem cd_217_117 : cd 217 117 = some (0, 119, 0, 0, 40, []) := cd_row ac_217 rfl
theorem cd_217_119 : cd 217 119 = some (46, 122, 214, 2, 10, []) := cd_row ac_217 rfl
theorem cd_217_122 : cd 217 122 = some (40, 123, 0, 0, 0, []) := cd_row ac_217 rfl
theorem cd_217_123 : cd 217 123 = some (4, 124, 0, 0, 0, []) := cd_row ac_217 rfl
theorem cd_217_124 : cd 217 124 = some (23, 127, 10, 9, 0, []) := cd_row ac_217 rfl
theorem cd_217_127 : cd 217 127 = some (0, 129, 0, 0, 45, []) := cd_row ac_217 rfl
theorem cd_217_129 : cd 217 129 = some (21, 132, 138, 1, 0, []) := cd_row ac_217 rfl
theorem cd_217_132 : cd 217 132 = some (4, 133, 0, 0, 0, []) := cd_row ac_217 rfl
theorem cd_217_133 : cd 217 133 = some (0, 134, 0, 0, 4, []) := cd_row ac_217 rfl
theorem cd_217_134 : cd 217 134 = some (46, 137, 214, 2, 10, []) := cd_row ac_217 rfl
theorem cd_217_137 : cd 217 137 = some (40, 138, 0, 0, 0, []) := cd_row ac_217 rfl
theorem cd_217_138 : cd 217 138 = some (4, 139, 0, 0, 0, []) := cd_row ac_217 rfl
theorem cd_217_139 : cd 217 139 = some (0, 141, 0, 0, 115, []) := cd_row ac_217 rfl
theorem cd_217_141 : cd 217 141 = some (0, 143, 0, 0, 105, []) := cd_row ac_217 rfl
theorem cd_217_143 : cd 217 143 = some (0, 145, 0, 0, 122, []) := cd_row ac_217 rfl
theorem cd_217_145 : cd 217 145 = some (0, 147, 0, 0, 101, []) := cd_row ac_217 rfl
theorem cd_217_147 : cd 217 147 = some (38, 150, 201, 4, 0, []) := cd_row ac_217 rfl
theorem cd_217_150 : cd 217 150 = some (46, 153, 204, 2, 10, []) := cd_row ac_217 rfl
theorem cd_217_153 : cd 217 153 = some (20, 156, 162, 0, 0, []) := cd_row ac_217 rfl
theorem cd_217_156 : cd 217 156 = some (4, 157, 0, 0, 0, []) := cd_row ac_217 rfl
theorem cd_217_157 : cd 217 157 = some (0, 158, 0, 0, 5, []) := cd_row ac_217 rfl
theorem cd_217_158 : cd 217 158 = some (46, 161, 214, 2, 10, []) := cd_row ac_217 rfl
theorem cd_217_161 : cd 217 161 = some (40, 162, 0, 0, 0, []) := cd_row ac_217 rfl
theorem cd_217_162 : cd 217 162 = some (4, 163, 0, 0, 0, []) := cd_row ac_217 rfl
theorem cd_217_163 : cd 217 163 = some (0, 165, 0, 0, 105, []) := cd_row ac_217 rfl
theorem cd_217_165 : cd 217 165 = some (0, 167, 0, 0, 102, []) := cd_row ac_217 rfl
theorem cd_217_167 : cd 217 167 = some (38, 170, 199, 2, 0, []) := cd_row ac_217 rfl
theorem cd_217_170 : cd 217 170 = some (46, 173, 204, 2, 10, []) := cd_row ac_217 rfl
theorem cd_217_173 : cd 217 173 = some (20, 176, 183, 0, 0, []) := cd_row ac_217 rfl
theorem cd_217_176 : cd 217 176 = some (4, 177, 0, 0, 0, []) := cd_row ac_217 rfl
theorem cd_217_177 : cd 217 177 = some (0, 179, 0, 0, 41, []) := cd_row ac_217 rfl
theorem cd_217_179 : cd 217 179 = some (46, 182, 214, 2, 10, []) := cd_row ac_217 rfl
theorem cd_217_182 : cd 217 182 = some (40, 183, 0, 0, 0, []) := cd_row ac_217 rfl
theorem cd_217_183 : cd 217 183 = some (4, 184, 0, 0, 0, []) := cd_row ac_217 rfl
theorem cd_217_184 : cd 217 184 = some (0, 186, 0, 0, 110, []) := cd_row ac_217 rfl
theorem cd_217_186 : cd 217 186 = some (0, 188, 0, 0, 111, []) := cd_row ac_217 rfl
theorem cd_217_188 : cd 217 188 = some (0, 190, 0, 0, 116, []) := cd_row ac_217 rfl
theorem cd_217_190 : cd 217 190 = some (38, 193, 200, 3, 0, []) := cd_row ac_217 rfl
theorem cd_217_193 : cd 217 193 = some (46, 196, 204, 2, 10, []) := cd_row ac_217 rfl
theorem cd_217_196 : cd 217 196 = some (20, 199, 215, 0, 0, []) := cd_row ac_217 rfl
theorem cd_217_199 : cd 217 199 = some (4, 200, 0, 0, 0, []) := cd_row ac_217 rfl
theorem cd_217_200 : cd 217 200 = some (46, 203, 213, 1, 10, []) := cd_row ac_217 rfl
theorem cd_217_203 : cd 217 203 = some (20, 206, 215, 0, 0, []) := cd_row ac_217 rfl
theorem cd_217_206 : cd 217 206 = some (4, 207, 0, 0, 0, []) := cd_row ac_217 rfl
theorem cd_217_207 : cd 217 207 = some (0, 209, 0, 0, 20, []) := cd_row ac_217 rfl
theorem cd_217_209 : cd 217 209 = some (46, 212, 214, 2, 10, []) := cd_row ac_217 rfl
theorem cd_217_212 : cd 217 212 = some (22, 215, 216, 0, 0, []) := cd_row ac_217 rfl
theorem cd_217_215 : cd 217 215 = some (0, 216, 0, 0, 1, []) := cd_row ac_217 rfl
theorem cd_217_216 : cd 217 216 = some (40, 217, 0, 0, 0, []) := cd_row ac_217 rfl
set_option maxRecDepth 20000 in
theorem ac_218 : allC[218]? = some cl218 := rfl
theorem cd_218_0 : cd 218 0 = some (4, 1, 0, 0, 0, []) := cd_row ac_218 rfl
theorem cd_218_1 : cd 218 1 = some (23, 4, 10, 9, 0, []) := cd_row ac_218 rfl
theorem cd_218_4 : cd 218 4 = some (0, 6, 0, 0, 60, []) := cd_row ac_218 rfl
theorem cd_218_6 : cd 218 6 = some (21, 9, 14, 1, 0, []) := cd_row ac_218 rfl
theorem cd_218_9 : cd 218 9 = some (0, 11, 0, 0, 10, []) := cd_row ac_218 rfl
theorem cd_218_11 : cd 218 11 = some (22, 14, 83, 0, 0, []) := cd_row ac_218 rfl
theorem cd_218_14 : cd 218 14 = some (4, 15, 0, 0, 0, []) := cd_row ac_218 rfl
theorem cd_218_15 : cd 218 15 = some (23, 18, 10, 9, 0, []) := cd_row ac_218 rfl
theorem cd_218_18 : cd 218 18 = some (0, 19, 0, 0, 4, []) := cd_row ac_218 rfl
theorem cd_218_19 : cd 218 19 = some (21, 22, 27, 1, 0, []) := cd_row ac_218 rfl
theorem cd_218_22 : cd 218 22 = some (0, 24, 0, 0, 11, []) := cd_row ac_218 rfl
theorem cd_218_24 : cd 218 24 = some (22, 27, 83, 0, 0, []) := cd_row ac_218 rfl
theorem cd_218_27 : cd 218 27 = some (4, 28, 0, 0, 0, []) := cd_row ac_218 rfl
theorem cd_218_28 : cd 218 28 = some (23, 31, 10, 9, 0, []) := cd_row ac_218 rfl
theorem cd_218_31 : cd 218 31 = some (0, 33, 0, 0, 62, []) := cd_row ac_218 rfl
theorem cd_218_33 : cd 218 33 = some (21, 36, 41, 1, 0, []) := cd_row ac_218 rfl
theorem cd_218_36 : cd 218 36 = some (0, 38, 0, 0, 12, []) := cd_row ac_218 rfl
theorem cd_218_38 : cd 218 38 = some (22, 41, 83, 0, 0, []) := cd_row ac_218 rfl
theorem cd_218_41 : cd 218 41 = some (4, 42, 0, 0, 0, []) := cd_row ac_218 rfl
theorem cd_218_42 : cd 218 42 = some (23, 45, 10, 9, 0, []) := cd_row ac_218 rfl
theorem cd_218_45 : cd 218 45 = some (0, 46, 0, 0, 5, []) := cd_row ac_218 rfl
theorem cd_218_46 : cd 218 46 = some (21, 49, 54, 1, 0, []) := cd_row ac_218 rfl
theorem cd_218_49 : cd 218 49 = some (0, 51, 0, 0, 13, []) := cd_row ac_218 rfl
theorem cd_218_51 : cd 218 51 = some (22, 54, 83, 0, 0, []) := cd_row ac_218 rfl
theorem cd_218_54 : cd 218 54 = some (4, 55, 0, 0, 0, []) := cd_row ac_218 rfl
theorem cd_218_55 : cd 218 55 = some (23, 58, 10, 9, 0, []) := cd_row ac_218 rfl
theorem cd_218_58 : cd 218 58 = some (0, 60, 0, 0, 61, []) := cd_row ac_218 rfl
theorem cd_218_60 : cd 218 60 = some (21, 63, 68, 1, 0, []) := cd_row ac_218 rfl
theorem cd_218_63 : cd 218 63 = some (0, 65, 0, 0, 14, []) := cd_row ac_218 rfl
theorem cd_218_65 : cd 218 65 = some (22, 68, 83, 0, 0, []) := cd_row ac_218 rfl
theorem cd_218_68 : cd 218 68 = some (4, 69, 0, 0, 0, []) := cd_row ac_218 rfl
theorem cd_218_69 : cd 218 69 = some (23, 72, 10, 9, 0, []) := cd_row ac_218 rfl
theorem cd_218_72 : cd 218 72 = some (0, 74, 0, 0, 35, []) := cd_row ac_218 rfl
theorem cd_218_74 : cd 218 74 = some (21, 77, 82, 1, 0, []) := cd_row ac_218 rfl
theorem cd_218_77 : cd 218 77 = some (0, 79, 0, 0, 15, []) := cd_row ac_218 rfl
theorem cd_218_79 : cd 218 79 = some (22, 82, 83, 0, 0, []) := cd_row ac_218 rfl
theorem cd_218_82 : cd 218 82 = some (0, 83, 0, 0, -1, []) := cd_row ac_218 rfl
theorem cd_218_83 : cd 218 83 = some (40, 84, 0, 0, 0, []) := cd_row ac_218 rfl
set_option maxRecDepth 20000 in
theorem ac_219 : allC[219]? = some cl219 := rfl
theorem cd_219_0 : cd 219 0 = some (4, 1, 0, 0, 0, []) := cd_row ac_219 rfl
theorem cd_219_1 : cd 219 1 = some (23, 4, 10, 9, 0, []) := cd_row ac_219 rfl
theorem cd_219_4 : cd 219 4 = some (0, 6, 0, 0, 43, []) := cd_row ac_219 rfl
theorem cd_219_6 : cd 219 6 = some (21, 9, 12, 1, 0, []) := cd_row ac_219 rfl
theorem cd_219_9 : cd 219 9 = some (0, 11, 0, 0, 6, []) := cd_row ac_219 rfl
theorem cd_219_11 : cd 219 11 = some (40, 12, 0, 0, 0, []) := cd_row ac_219 rfl
theorem cd_219_12 : cd 219 12 = some (4, 13, 0, 0, 0, []) := cd_row ac_219 rfl
theorem cd_219_13 : cd 219 13 = some (23, 16, 10, 9, 0, []) := cd_row ac_219 rfl
theorem cd_219_16 : cd 219 16 = some (0, 18, 0, 0, 45, []) := cd_row ac_219 rfl
theorem cd_219_18 : cd 219 18 = some (21, 21, 24, 1, 0, []) := cd_row ac_219 rfl
theorem cd_219_21 : cd 219 21 = some (0, 23, 0, 0, 7, []) := cd_row ac_219 rfl
theorem cd_219_23 : cd 219 23 = some (40, 24, 0, 0, 0, []) := cd_row ac_219 rfl
theorem cd_219_24 : cd 219 24 = some (4, 25, 0, 0, 0, []) := cd_row ac_219 rfl
theorem cd_219_25 : cd 219 25 = some (23, 28, 10, 9, 0, []) := cd_row ac_219 rfl
theorem cd_219_28 : cd 219 28 = some (0, 30, 0, 0, 42, []) := cd_row ac_219 rfl
theorem cd_219_30 : cd 219 30 = some (21, 33, 36, 1, 0, []) := cd_row ac_219 rfl
theorem cd_219_33 : cd 219 33 = some (0, 35, 0, 0, 8, []) := cd_row ac_219 rfl
theorem cd_219_35 : cd 219 35 = some (40, 36, 0, 0, 0, []) := cd_row ac_219 rfl
theorem cd_219_36 : cd 219 36 = some (4, 37, 0, 0, 0, []) := cd_row ac_219 rfl
theorem cd_219_37 : cd 219 37 = some (23, 40, 10, 9, 0, []) := cd_row ac_219 rfl
theorem cd_219_40 : cd 219 40 = some (0, 42, 0, 0, 47, []) := cd_row ac_219 rfl
theorem cd_219_42 : cd 219 42 = some (21, 45, 48, 1, 0, []) := cd_row ac_219 rfl
theorem cd_219_45 : cd 219 45 = some (0, 47, 0, 0, 9, []) := cd_row ac_219 rfl
theorem cd_219_47 : cd 219 47 = some (40, 48, 0, 0, 0, []) := cd_row ac_219 rfl
theorem cd_219_48 : cd 219 48 = some (4, 49, 0, 0, 0, []) := cd_row ac_219 rfl
theorem cd_219_49 : cd 219 49 = some (46, 52, 211, 1, 10, []) := cd_row ac_219 rfl
theorem cd_219_52 : cd 219 52 = some (0, 54, 0, 0, 41, []) := cd_row ac_219 rfl
theorem cd_219_54 : cd 219 54 = some (21, 57, 59, 0, 0, []) := cd_row ac_219 rfl
theorem cd_219_57 : cd 219 57 = some (0, 58, 0, 0, -1, []) := cd_row ac_219 rfl
theorem cd_219_58 : cd 219 58 = some (40, 59, 0, 0, 0, []) := cd_row ac_219 rfl
theorem cd_219_59 : cd 219 59 = some (4, 60, 0, 0, 0, []) := cd_row ac_219 rfl
theorem cd_219_60 : cd 219 60 = some (46, 63, 212, 1, 10, []) := cd_row ac_219 rfl
theorem cd_219_63 : cd 219 63 = some (20, 66, 71, 1, 0, []) := cd_row ac_219 rfl
theorem cd_219_66 : cd 219 66 = some (4, 67, 0, 0, 0, []) := cd_row ac_219 rfl
theorem cd_219_67 : cd 219 67 = some (46, 70, 218, 1, 10, []) := cd_row ac_219 rfl
theorem cd_219_70 : cd 219 70 = some (40, 71, 0, 0, 0, []) := cd_row ac_219 rfl
theorem cd_219_71 : cd 219 71 = some (4, 72, 0, 0, 0, []) := cd_row ac_219 rfl
theorem cd_219_72 : cd 219 72 = some (0, 74, 0, 0, 97, []) := cd_row ac_219 rfl
theorem cd_219_74 : cd 219 74 = some (0, 76, 0, 0, 110, []) := cd_row ac_219 rfl
theorem cd_219_76 : cd 219 76 = some (0, 78, 0, 0, 100, []) := cd_row ac_219 rfl
theorem cd_219_78 : cd 219 78 = some (38, 81, 200, 3, 0, []) := cd_row ac_219 rfl
theorem cd_219_81 : cd 219 81 = some (46, 84, 204, 2, 10, []) := cd_row ac_219 rfl
theorem cd_219_84 : cd 219 84 = some (20, 87, 92, 0, 0, []) := cd_row ac_219 rfl
theorem cd_219_87 : cd 219 87 = some (0, 89, 0, 0, 21, []) := cd_row ac_219 rfl
theorem cd_219_89 : cd 219 89 = some (22, 92, 112, 0, 0, []) := cd_row ac_219 rfl
theorem cd_219_92 : cd 219 92 = some (4, 93, 0, 0, 0, []) := cd_row ac_219 rfl
theorem cd_219_93 : cd 219 93 = some (0, 95, 0, 0, 111, []) := cd_row ac_219 rfl
theorem cd_219_95 : cd 219 95 = some (0, 97, 0, 0, 114, []) := cd_row ac_219 rfl
theorem cd_219_97 : cd 219 97 = some (38, 100, 199, 2, 0, []) := cd_row ac_219 rfl
theorem cd_219_100 : cd 219 100 = some (46, 103, 204, 2, 10, []) := cd_row ac_219 rfl
theorem cd_219_103 : cd 219 103 = some (20, 106, 111, 0, 0, []) := cd_row ac_219 rfl
theorem cd_219_106 : cd 219 106 = some (0, 108, 0, 0, 22, []) := cd_row ac_219 rfl
theorem cd_219_108 : cd 219 108 = some (22, 111, 112, 0, 0, []) := cd_row ac_219 rfl
theorem cd_219_111 : cd 219 111 = some (0, 112, 0, 0, -1, []) := cd_row ac_219 rfl
theorem cd_219_112 : cd 219 112 = some (40, 113, 0, 0, 0, []) := cd_row ac_219 rfl
set_option maxRecDepth 20000 in
theorem ac_220 : allC[220]? = some cl220 := rfl
theorem cd_220_0 : cd 220 0 = some (2, 1, 1, 0, 0, []) := cd_row ac_220 rfl
theorem cd_220_1 : cd 220 1 = some (43, 32, 126, 0, 0, [(40, 32), (41, 47), (42, 79), (43, 104)]) := cd_row ac_220 rfl
theorem cd_220_32 : cd 220 32 = some (4, 33, 0, 0, 0, []) := cd_row ac_220 rfl
theorem cd_220_33 : cd 220 33 = some (23, 36, 10, 9, 0, []) := cd_row ac_220 rfl
theorem cd_220_36 : cd 220 36 = some (0, 38, 0, 0, 41, []) := cd_row ac_220 rfl
theorem cd_220_38 : cd 220 38 = some (21, 41, 45, 1, 0, []) := cd_row ac_220 rfl
theorem cd_220_41 : cd 220 41 = some (0, 42, 0, 0, 0, []) := cd_row ac_220 rfl
theorem cd_220_42 : cd 220 42 = some (22, 45, 46, 0, 0, []) := cd_row ac_220 rfl
theorem cd_220_45 : cd 220 45 = some (0, 46, 0, 0, -1, []) := cd_row ac_220 rfl
theorem cd_220_46 : cd 220 46 = some (40, 47, 0, 0, 0, []) := cd_row ac_220 rfl
theorem cd_220_47 : cd 220 47 = some (4, 48, 0, 0, 0, []) := cd_row ac_220 rfl
theorem cd_220_48 : cd 220 48 = some (0, 50, 0, 0, 116, []) := cd_row ac_220 rfl
theorem cd_220_50 : cd 220 50 = some (0, 52, 0, 0, 104, []) := cd_row ac_220 rfl
theorem cd_220_52 : cd 220 52 = some (0, 54, 0, 0, 101, []) := cd_row ac_220 rfl
theorem cd_220_54 : cd 220 54 = some (0, 56, 0, 0, 110, []) := cd_row ac_220 rfl
theorem cd_220_56 : cd 220 56 = some (38, 59, 201, 4, 0, []) := cd_row ac_220 rfl
theorem cd_220_59 : cd 220 59 = some (46, 62, 204, 2, 10, []) := cd_row ac_220 rfl
theorem cd_220_62 : cd 220 62 = some (20, 65, 77, 0, 0, []) := cd_row ac_220 rfl
theorem cd_220_65 : cd 220 65 = some (4, 66, 0, 0, 0, []) := cd_row ac_220 rfl
theorem cd_220_66 : cd 220 66 = some (46, 69, 212, 1, 10, []) := cd_row ac_220 rfl
theorem cd_220_69 : cd 220 69 = some (20, 72, 77, 0, 0, []) := cd_row ac_220 rfl
theorem cd_220_72 : cd 220 72 = some (0, 74, 0, 0, 42, []) := cd_row ac_220 rfl
theorem cd_220_74 : cd 220 74 = some (22, 77, 78, 0, 0, []) := cd_row ac_220 rfl
theorem cd_220_77 : cd 220 77 = some (0, 78, 0, 0, -1, []) := cd_row ac_220 rfl
theorem cd_220_78 : cd 220 78 = some (40, 79, 0, 0, 0, []) := cd_row ac_220 rfl
theorem cd_220_79 : cd 220 79 = some (4, 80, 0, 0, 0, []) := cd_row ac_220 rfl
theorem cd_220_80 : cd 220 80 = some (0, 82, 0, 0, 101, []) := cd_row ac_220 rfl
theorem cd_220_82 : cd 220 82 = some (0, 84, 0, 0, 108, []) := cd_row ac_220 rfl
theorem cd_220_84 : cd 220 84 = some (0, 86, 0, 0, 115, []) := cd_row ac_220 rfl
theorem cd_220_86 : cd 220 86 = some (0, 88, 0, 0, 101, []) := cd_row ac_220 rfl
theorem cd_220_88 : cd 220 88 = some (38, 91, 201, 4, 0, []) := cd_row ac_220 rfl
theorem cd_220_91 : cd 220 91 = some (46, 94, 204, 2, 10, []) := cd_row ac_220 rfl
theorem cd_220_94 : cd 220 94 = some (20, 97, 102, 0, 0, []) := cd_row ac_220 rfl
theorem cd_220_97 : cd 220 97 = some (0, 99, 0, 0, 43, []) := cd_row ac_220 rfl
theorem cd_220_99 : cd 220 99 = some (22, 102, 103, 0, 0, []) := cd_row ac_220 rfl
theorem cd_220_102 : cd 220 102 = some (0, 103, 0, 0, -1, []) := cd_row ac_220 rfl
theorem cd_220_103 : cd 220 103 = some (40, 104, 0, 0, 0, []) := cd_row ac_220 rfl
theorem cd_220_104 : cd 220 104 = some (4, 105, 0, 0, 0, []) := cd_row ac_220 rfl
theorem cd_220_105 : cd 220 105 = some (0, 107, 0, 0, 101, []) := cd_row ac_220 rfl
theorem cd_220_107 : cd 220 107 = some (0, 109, 0, 0, 110, []) := cd_row ac_220 rfl
theorem cd_220_109 : cd 220 109 = some (0, 111, 0, 0, 100, []) := cd_row ac_220 rfl
theorem cd_220_111 : cd 220 111 = some (38, 114, 200, 3, 0, []) := cd_row ac_220 rfl
theorem cd_220_114 : cd 220 114 = some (46, 117, 204, 2, 10, []) := cd_row ac_220 rfl
theorem cd_220_117 : cd 220 117 = some (20, 120, 124, 0, 0, []) := cd_row ac_220 rfl
theorem cd_220_120 : cd 220 120 = some (0, 121, 0, 0, 0, []) := cd_row ac_220 rfl
theorem cd_220_121 : cd 220 121 = some (22, 124, 125, 0, 0, []) := cd_row ac_220 rfl
theorem cd_220_124 : cd 220 124 = some (0, 125, 0, 0, -1, []) := cd_row ac_220 rfl
theorem cd_220_125 : cd 220 125 = some (40, 126, 0, 0, 0, []) := cd_row ac_220 rfl
theorem cd_220_126 : cd 220 126 = some (0, 127, 0, 0, -1, []) := cd_row ac_220 rfl
theorem cd_220_127 : cd 220 127 = some (40, 128, 0, 0, 0, []) := cd_row ac_220 rfl
set_option maxRecDepth 20000 in
theorem ac_221 : allC[221]? = some cl221 := rfl
theorem cd_221_0 : cd 221 0 = some (4, 1, 0, 0, 0, []) := cd_row ac_221 rfl
theorem cd_221_1 : cd 221 1 = some (46, 4, 219, 1, 10, []) := cd_row ac_221 rfl
theorem cd_221_4 : cd 221 4 = some (5, 5, 1, 0, 0, []) := cd_row ac_221 rfl
theorem cd_221_5 : cd 221 5 = some (2, 6, 1, 0, 0, []) := cd_row ac_221 rfl
theorem cd_221_6 : cd 221 6 = some (20, 9, 48, 2, 0, []) := cd_row ac_221 rfl
theorem cd_221_9 : cd 221 9 = some (4, 10, 0, 0, 0, []) := cd_row ac_221 rfl
theorem cd_221_10 : cd 221 10 = some (2, 11, 1, 0, 0, []) := cd_row ac_221 rfl
theorem cd_221_11 : cd 221 11 = some (38, 14, 208, 1, 0, []) := cd_row ac_221 rfl
theorem cd_221_14 : cd 221 14 = some (46, 17, 209, 2, 10, []) := cd_row ac_221 rfl
theorem cd_221_17 : cd 221 17 = some (4, 18, 0, 0, 0, []) := cd_row ac_221 rfl
theorem cd_221_18 : cd 221 18 = some (23, 21, 10, 15, 0, []) := cd_row ac_221 rfl
theorem cd_221_21 : cd 221 21 = some (4, 22, 0, 0, 0, []) := cd_row ac_221 rfl
theorem cd_221_22 : cd 221 22 = some (23, 25, 10, 16, 0, []) := cd_row ac_221 rfl
theorem cd_221_25 : cd 221 25 = some (2, 26, 1, 0, 0, []) := cd_row ac_221 rfl
theorem cd_221_26 : cd 221 26 = some (30, 27, 0, 0, 0, []) := cd_row ac_221 rfl
theorem cd_221_27 : cd 221 27 = some (4, 28, 0, 0, 0, []) := cd_row ac_221 rfl
theorem cd_221_28 : cd 221 28 = some (17, 29, 0, 0, 0, []) := cd_row ac_221 rfl
theorem cd_221_29 : cd 221 29 = some (23, 32, 10, 16, 0, []) := cd_row ac_221 rfl
theorem cd_221_32 : cd 221 32 = some (0, 33, 0, 0, 1, []) := cd_row ac_221 rfl
theorem cd_221_33 : cd 221 33 = some (9, 34, 0, 0, 0, []) := cd_row ac_221 rfl
theorem cd_221_34 : cd 221 34 = some (24, 37, 10, 16, 0, []) := cd_row ac_221 rfl
theorem cd_221_37 : cd 221 37 = some (4, 38, 0, 0, 0, []) := cd_row ac_221 rfl
theorem cd_221_38 : cd 221 38 = some (0, 39, 0, 0, 0, []) := cd_row ac_221 rfl
theorem cd_221_39 : cd 221 39 = some (24, 42, 10, 18, 2, []) := cd_row ac_221 rfl
theorem cd_221_42 : cd 221 42 = some (4, 43, 0, 0, 0, []) := cd_row ac_221 rfl
theorem cd_221_43 : cd 221 43 = some (46, 46, 198, 1, 10, []) := cd_row ac_221 rfl
theorem cd_221_46 : cd 221 46 = some (0, 47, 0, 0, 1, []) := cd_row ac_221 rfl
theorem cd_221_47 : cd 221 47 = some (40, 48, 1, 0, 0, []) := cd_row ac_221 rfl
theorem cd_221_48 : cd 221 48 = some (4, 49, 0, 0, 0, []) := cd_row ac_221 rfl
theorem cd_221_49 : cd 221 49 = some (46, 52, 211, 1, 10, []) := cd_row ac_221 rfl
theorem cd_221_52 : cd 221 52 = some (5, 53, 2, 0, 0, []) := cd_row ac_221 rfl
theorem cd_221_53 : cd 221 53 = some (4, 54, 0, 0, 0, []) := cd_row ac_221 rfl
theorem cd_221_54 : cd 221 54 = some (2, 55, 2, 0, 0, []) := cd_row ac_221 rfl
theorem cd_221_55 : cd 221 55 = some (46, 58, 220, 2, 10, []) := cd_row ac_221 rfl
theorem cd_221_58 : cd 221 58 = some (5, 59, 3, 0, 0, []) := cd_row ac_221 rfl
theorem cd_221_59 : cd 221 59 = some (2, 60, 3, 0, 0, []) := cd_row ac_221 rfl
theorem cd_221_60 : cd 221 60 = some (20, 63, 65, 3, 0, []) := cd_row ac_221 rfl
theorem cd_221_63 : cd 221 63 = some (0, 64, 0, 0, 0, []) := cd_row ac_221 rfl
theorem cd_221_64 : cd 221 64 = some (40, 65, 1, 0, 0, []) := cd_row ac_221 rfl
theorem cd_221_65 : cd 221 65 = some (4, 66, 0, 0, 0, []) := cd_row ac_221 rfl
theorem cd_221_66 : cd 221 66 = some (0, 67, 0, 0, 1, []) := cd_row ac_221 rfl
theorem cd_221_67 : cd 221 67 = some (46, 70, 209, 2, 10, []) := cd_row ac_221 rfl
theorem cd_221_70 : cd 221 70 = some (2, 71, 3, 0, 0, []) := cd_row ac_221 rfl
theorem cd_221_71 : cd 221 71 = some (20, 74, 96, 5, 0, []) := cd_row ac_221 rfl
theorem cd_221_74 : cd 221 74 = some (4, 75, 0, 0, 0, []) := cd_row ac_221 rfl
theorem cd_221_75 : cd 221 75 = some (23, 78, 10, 15, 0, []) := cd_row ac_221 rfl
theorem cd_221_78 : cd 221 78 = some (4, 79, 0, 0, 0, []) := cd_row ac_221 rfl
theorem cd_221_79 : cd 221 79 = some (46, 82, 210, 1, 10, []) := cd_row ac_221 rfl
theorem cd_221_82 : cd 221 82 = some (2, 83, 3, 0, 0, []) := cd_row ac_221 rfl
theorem cd_221_83 : cd 221 83 = some (30, 84, 0, 0, 0, []) := cd_row ac_221 rfl
theorem cd_221_84 : cd 221 84 = some (4, 85, 0, 0, 0, []) := cd_row ac_221 rfl
theorem cd_221_85 : cd 221 85 = some (0, 86, 0, 0, 0, []) := cd_row ac_221 rfl
theorem cd_221_86 : cd 221 86 = some (24, 89, 10, 18, 2, []) := cd_row ac_221 rfl
theorem cd_221_89 : cd 221 89 = some (4, 90, 0, 0, 0, []) := cd_row ac_221 rfl
theorem cd_221_90 : cd 221 90 = some (46, 93, 198, 1, 10, []) := cd_row ac_221 rfl
theorem cd_221_93 : cd 221 93 = some (22, 96, 138, 0, 0, []) := cd_row ac_221 rfl
theorem cd_221_96 : cd 221 96 = some (4, 97, 0, 0, 0, []) := cd_row ac_221 rfl
theorem cd_221_97 : cd 221 97 = some (17, 98, 0, 0, 0, []) := cd_row ac_221 rfl
theorem cd_221_98 : cd 221 98 = some (23, 101, 10, 16, 0, []) := cd_row ac_221 rfl
theorem cd_221_101 : cd 221 101 = some (0, 102, 0, 0, 1, []) := cd_row ac_221 rfl
theorem cd_221_102 : cd 221 102 = some (9, 103, 0, 1, 0, []) := cd_row ac_221 rfl
theorem cd_221_103 : cd 221 103 = some (24, 106, 10, 16, 0, []) := cd_row ac_221 rfl
theorem cd_221_106 : cd 221 106 = some (4, 107, 0, 0, 0, []) := cd_row ac_221 rfl
theorem cd_221_107 : cd 221 107 = some (17, 108, 0, 0, 0, []) := cd_row ac_221 rfl
theorem cd_221_108 : cd 221 108 = some (23, 111, 10, 17, 0, []) := cd_row ac_221 rfl
theorem cd_221_111 : cd 221 111 = some (0, 112, 0, 0, 1, []) := cd_row ac_221 rfl
theorem cd_221_112 : cd 221 112 = some (9, 113, 0, 1, 0, []) := cd_row ac_221 rfl
theorem cd_221_113 : cd 221 113 = some (24, 116, 10, 17, 0, []) := cd_row ac_221 rfl
theorem cd_221_116 : cd 221 116 = some (2, 117, 2, 0, 0, []) := cd_row ac_221 rfl
theorem cd_221_117 : cd 221 117 = some (0, 119, 0, 0, 43, []) := cd_row ac_221 rfl
theorem cd_221_119 : cd 221 119 = some (21, 122, 128, 1, 0, []) := cd_row ac_221 rfl
theorem cd_221_122 : cd 221 122 = some (4, 123, 0, 0, 0, []) := cd_row ac_221 rfl
theorem cd_221_123 : cd 221 123 = some (0, 124, 0, 0, 3, []) := cd_row ac_221 rfl
theorem cd_221_124 : cd 221 124 = some (0, 125, 0, 0, 0, []) := cd_row ac_221 rfl
theorem cd_221_125 : cd 221 125 = some (46, 128, 205, 3, 10, []) := cd_row ac_221 rfl
theorem cd_221_128 : cd 221 128 = some (4, 129, 0, 0, 0, []) := cd_row ac_221 rfl
theorem cd_221_129 : cd 221 129 = some (46, 132, 198, 1, 10, []) := cd_row ac_221 rfl
theorem cd_221_132 : cd 221 132 = some (4, 133, 0, 0, 0, []) := cd_row ac_221 rfl
theorem cd_221_133 : cd 221 133 = some (0, 135, 0, 0, 7, []) := cd_row ac_221 rfl
theorem cd_221_135 : cd 221 135 = some (46, 138, 209, 2, 10, []) := cd_row ac_221 rfl
theorem cd_221_138 : cd 221 138 = some (0, 139, 0, 0, 1, []) := cd_row ac_221 rfl
theorem cd_221_139 : cd 221 139 = some (40, 140, 1, 0, 0, []) := cd_row ac_221 rfl
set_option maxRecDepth 20000 in
theorem ac_222 : allC[222]? = some cl222 := rfl
theorem cd_222_0 : cd 222 0 = some (4, 1, 0, 0, 0, []) := cd_row ac_222 rfl
theorem cd_222_1 : cd 222 1 = some (0, 2, 0, 0, 0, []) := cd_row ac_222 rfl
theorem cd_222_2 : cd 222 2 = some (24, 5, 10, 16, 0, []) := cd_row ac_222 rfl
theorem cd_222_5 : cd 222 5 = some (4, 6, 0, 0, 0, []) := cd_row ac_222 rfl
theorem cd_222_6 : cd 222 6 = some (0, 7, 0, 0, 0, []) := cd_row ac_222 rfl
theorem cd_222_7 : cd 222 7 = some (24, 10, 10, 17, 0, []) := cd_row ac_222 rfl
theorem cd_222_10 : cd 222 10 = some (4, 11, 0, 0, 0, []) := cd_row ac_222 rfl
theorem cd_222_11 : cd 222 11 = some (0, 12, 0, 0, 0, []) := cd_row ac_222 rfl
theorem cd_222_12 : cd 222 12 = some (24, 15, 10, 18, 2, []) := cd_row ac_222 rfl
theorem cd_222_15 : cd 222 15 = some (4, 16, 0, 0, 0, []) := cd_row ac_222 rfl
theorem cd_222_16 : cd 222 16 = some (23, 19, 10, 18, 0, []) := cd_row ac_222 rfl
theorem cd_222_19 : cd 222 19 = some (20, 22, 48, 0, 0, []) := cd_row ac_222 rfl
theorem cd_222_22 : cd 222 22 = some (4, 23, 0, 0, 0, []) := cd_row ac_222 rfl
theorem cd_222_23 : cd 222 23 = some (46, 26, 221, 1, 10, []) := cd_row ac_222 rfl
theorem cd_222_26 : cd 222 26 = some (20, 29, 32, 0, 0, []) := cd_row ac_222 rfl
theorem cd_222_29 : cd 222 29 = some (22, 32, 15, 0, 0, []) := cd_row ac_222 rfl
theorem cd_222_32 : cd 222 32 = some (4, 33, 0, 0, 0, []) := cd_row ac_222 rfl
theorem cd_222_33 : cd 222 33 = some (46, 36, 211, 1, 10, []) := cd_row ac_222 rfl
theorem cd_222_36 : cd 222 36 = some (20, 39, 41, 2, 0, []) := cd_row ac_222 rfl
theorem cd_222_39 : cd 222 39 = some (0, 40, 0, 0, 1, []) := cd_row ac_222 rfl
theorem cd_222_40 : cd 222 40 = some (40, 41, 0, 0, 0, []) := cd_row ac_222 rfl
theorem cd_222_41 : cd 222 41 = some (4, 42, 0, 0, 0, []) := cd_row ac_222 rfl
theorem cd_222_42 : cd 222 42 = some (0, 43, 0, 0, 1, []) := cd_row ac_222 rfl
theorem cd_222_43 : cd 222 43 = some (46, 46, 209, 2, 10, []) := cd_row ac_222 rfl
theorem cd_222_46 : cd 222 46 = some (0, 47, 0, 0, 0, []) := cd_row ac_222 rfl
theorem cd_222_47 : cd 222 47 = some (40, 48, 0, 0, 0, []) := cd_row ac_222 rfl
theorem cd_222_48 : cd 222 48 = some (4, 49, 0, 0, 0, []) := cd_row ac_222 rfl
theorem cd_222_49 : cd 222 49 = some (46, 52, 217, 1, 10, []) := cd_row ac_222 rfl
theorem cd_222_52 : cd 222 52 = some (5, 53, 1, 0, 0, []) := cd_row ac_222 rfl
theorem cd_222_53 : cd 222 53 = some (2, 54, 1, 0, 0, []) := cd_row ac_222 rfl
theorem cd_222_54 : cd 222 54 = some (20, 57, 59, 0, 0, []) := cd_row ac_222 rfl
theorem cd_222_57 : cd 222 57 = some (2, 58, 1, 0, 0, []) := cd_row ac_222 rfl
theorem cd_222_58 : cd 222 58 = some (40, 59, 0, 0, 0, []) := cd_row ac_222 rfl
theorem cd_222_59 : cd 222 59 = some (22, 62, 15, 0, 0, []) := cd_row ac_222 rfl
set_option maxRecDepth 20000 in
theorem ac_223 : allC[223]? = some cl223 := rfl
theorem cd_223_0 : cd 223 0 = some (4, 1, 0, 0, 0, []) := cd_row ac_223 rfl
theorem cd_223_1 : cd 223 1 = some (23, 4, 10, 9, 0, []) := cd_row ac_223 rfl
theorem cd_223_4 : cd 223 4 = some (0, 5, 0, 0, 1, []) := cd_row ac_223 rfl
theorem cd_223_5 : cd 223 5 = some (21, 8, 10, 0, 0, []) := cd_row ac_223 rfl
theorem cd_223_8 : cd 223 8 = some (0, 9, 0, 0, 1, []) := cd_row ac_223 rfl
theorem cd_223_9 : cd 223 9 = some (40, 10, 0, 0, 0, []) := cd_row ac_223 rfl
theorem cd_223_10 : cd 223 10 = some (4, 11, 0, 0, 0, []) := cd_row ac_223 rfl
theorem cd_223_11 : cd 223 11 = some (23, 14, 10, 10, 0, []) := cd_row ac_223 rfl
theorem cd_223_14 : cd 223 14 = some (2, 15, 2, 0, 0, []) := cd_row ac_223 rfl
theorem cd_223_15 : cd 223 15 = some (2, 16, 3, 0, 0, []) := cd_row ac_223 rfl
theorem cd_223_16 : cd 223 16 = some (38, 19, 182, 3, 0, []) := cd_row ac_223 rfl
theorem cd_223_19 : cd 223 19 = some (20, 22, 24, 1, 0, []) := cd_row ac_223 rfl
theorem cd_223_22 : cd 223 22 = some (0, 23, 0, 0, 2, []) := cd_row ac_223 rfl
theorem cd_223_23 : cd 223 23 = some (40, 24, 0, 0, 0, []) := cd_row ac_223 rfl
theorem cd_223_24 : cd 223 24 = some (4, 25, 0, 0, 0, []) := cd_row ac_223 rfl
theorem cd_223_25 : cd 223 25 = some (23, 28, 10, 2, 0, []) := cd_row ac_223 rfl
theorem cd_223_28 : cd 223 28 = some (2, 29, 1, 0, 0, []) := cd_row ac_223 rfl
theorem cd_223_29 : cd 223 29 = some (4, 30, 0, 0, 0, []) := cd_row ac_223 rfl
theorem cd_223_30 : cd 223 30 = some (23, 33, 10, 10, 0, []) := cd_row ac_223 rfl
theorem cd_223_33 : cd 223 33 = some (30, 34, 0, 0, 0, []) := cd_row ac_223 rfl
theorem cd_223_34 : cd 223 34 = some (4, 35, 0, 0, 0, []) := cd_row ac_223 rfl
theorem cd_223_35 : cd 223 35 = some (46, 38, 198, 1, 10, []) := cd_row ac_223 rfl
theorem cd_223_38 : cd 223 38 = some (0, 39, 0, 0, 0, []) := cd_row ac_223 rfl
theorem cd_223_39 : cd 223 39 = some (40, 40, 0, 0, 0, []) := cd_row ac_223 rfl
set_option maxRecDepth 20000 in
theorem ac_224 : allC[224]? = some cl224 := rfl
theorem cd_224_0 : cd 224 0 = some (4, 1, 0, 0, 0, []) := cd_row ac_224 rfl
theorem cd_224_1 : cd 224 1 = some (3, 2, 1, 0, 0, []) := cd_row ac_224 rfl
theorem cd_224_2 : cd 224 2 = some (46, 5, 204, 2, 10, []) := cd_row ac_224 rfl
theorem cd_224_5 : cd 224 5 = some (20, 8, 10, 1, 0, []) := cd_row ac_224 rfl
theorem cd_224_8 : cd 224 8 = some (0, 9, 0, 0, 1, []) := cd_row ac_224 rfl
theorem cd_224_9 : cd 224 9 = some (40, 10, 0, 0, 0, []) := cd_row ac_224 rfl
theorem cd_224_10 : cd 224 10 = some (4, 11, 0, 0, 0, []) := cd_row ac_224 rfl
theorem cd_224_11 : cd 224 11 = some (46, 14, 198, 1, 10, []) := cd_row ac_224 rfl
theorem cd_224_14 : cd 224 14 = some (4, 15, 0, 0, 0, []) := cd_row ac_224 rfl
theorem cd_224_15 : cd 224 15 = some (2, 16, 3, 0, 0, []) := cd_row ac_224 rfl
theorem cd_224_16 : cd 224 16 = some (2, 18, 4, 0, 0, []) := cd_row ac_224 rfl
theorem cd_224_18 : cd 224 18 = some (2, 20, 5, 0, 0, []) := cd_row ac_224 rfl
theorem cd_224_20 : cd 224 20 = some (46, 23, 223, 4, 10, []) := cd_row ac_224 rfl
theorem cd_224_23 : cd 224 23 = some (40, 24, 0, 0, 0, []) := cd_row ac_224 rfl
set_option maxRecDepth 20000 in
theorem ac_225 : allC[225]? = some cl225 := rfl
theorem cd_225_0 : cd 225 0 = some (4, 1, 0, 0, 0, []) := cd_row ac_225 rfl
theorem cd_225_1 : cd 225 1 = some (23, 4, 10, 2, 0, []) := cd_row ac_225 rfl
theorem cd_225_4 : cd 225 4 = some (2, 5, 1, 0, 0, []) := cd_row ac_225 rfl
theorem cd_225_5 : cd 225 5 = some (0, 6, 0, 0, 1, []) := cd_row ac_225 rfl
theorem cd_225_6 : cd 225 6 = some (9, 7, 0, 0, 0, []) := cd_row ac_225 rfl
theorem cd_225_7 : cd 225 7 = some (4, 8, 0, 0, 0, []) := cd_row ac_225 rfl
theorem cd_225_8 : cd 225 8 = some (23, 11, 10, 13, 0, []) := cd_row ac_225 rfl
theorem cd_225_11 : cd 225 11 = some (30, 12, 0, 0, 0, []) := cd_row ac_225 rfl
theorem cd_225_12 : cd 225 12 = some (4, 13, 0, 0, 0, []) := cd_row ac_225 rfl
theorem cd_225_13 : cd 225 13 = some (46, 16, 222, 1, 10, []) := cd_row ac_225 rfl
theorem cd_225_16 : cd 225 16 = some (5, 17, 2, 0, 0, []) := cd_row ac_225 rfl
theorem cd_225_17 : cd 225 17 = some (4, 18, 0, 0, 0, []) := cd_row ac_225 rfl
theorem cd_225_18 : cd 225 18 = some (23, 21, 10, 2, 0, []) := cd_row ac_225 rfl
theorem cd_225_21 : cd 225 21 = some (2, 22, 1, 0, 0, []) := cd_row ac_225 rfl
theorem cd_225_22 : cd 225 22 = some (0, 23, 0, 0, 2, []) := cd_row ac_225 rfl
theorem cd_225_23 : cd 225 23 = some (9, 24, 0, 0, 0, []) := cd_row ac_225 rfl
theorem cd_225_24 : cd 225 24 = some (4, 25, 0, 0, 0, []) := cd_row ac_225 rfl
theorem cd_225_25 : cd 225 25 = some (23, 28, 10, 13, 0, []) := cd_row ac_225 rfl
theorem cd_225_28 : cd 225 28 = some (30, 29, 0, 0, 0, []) := cd_row ac_225 rfl
theorem cd_225_29 : cd 225 29 = some (2, 30, 2, 0, 0, []) := cd_row ac_225 rfl
theorem cd_225_30 : cd 225 30 = some (40, 31, 0, 0, 0, []) := cd_row ac_225 rfl
set_option maxRecDepth 20000 in
theorem ac_226 : allC[226]? = some cl226 := rfl
theorem cd_226_0 : cd 226 0 = some (4, 1, 0, 0, 0, []) := cd_row ac_226 rfl
theorem cd_226_1 : cd 226 1 = some (2, 2, 1, 0, 0, []) := cd_row ac_226 rfl
theorem cd_226_2 : cd 226 2 = some (0, 3, 0, 0, 1, []) := cd_row ac_226 rfl
theorem cd_226_3 : cd 226 3 = some (9, 4, 0, 0, 0, []) := cd_row ac_226 rfl
theorem cd_226_4 : cd 226 4 = some (0, 5, 0, 0, 1, []) := cd_row ac_226 rfl
theorem cd_226_5 : cd 226 5 = some (0, 7, 0, 0, 99, []) := cd_row ac_226 rfl
theorem cd_226_7 : cd 226 7 = some (46, 10, 223, 4, 10, []) := cd_row ac_226 rfl
theorem cd_226_10 : cd 226 10 = some (5, 11, 2, 0, 0, []) := cd_row ac_226 rfl
theorem cd_226_11 : cd 226 11 = some (2, 12, 2, 0, 0, []) := cd_row ac_226 rfl
theorem cd_226_12 : cd 226 12 = some (20, 15, 33, 1, 0, []) := cd_row ac_226 rfl
theorem cd_226_15 : cd 226 15 = some (4, 16, 0, 0, 0, []) := cd_row ac_226 rfl
theorem cd_226_16 : cd 226 16 = some (0, 18, 0, 0, 97, []) := cd_row ac_226 rfl
theorem cd_226_18 : cd 226 18 = some (0, 20, 0, 0, 116, []) := cd_row ac_226 rfl
theorem cd_226_20 : cd 226 20 = some (38, 23, 199, 2, 0, []) := cd_row ac_226 rfl
theorem cd_226_23 : cd 226 23 = some (2, 24, 1, 0, 0, []) := cd_row ac_226 rfl
theorem cd_226_24 : cd 226 24 = some (0, 25, 0, 0, 2, []) := cd_row ac_226 rfl
theorem cd_226_25 : cd 226 25 = some (9, 26, 0, 0, 0, []) := cd_row ac_226 rfl
theorem cd_226_26 : cd 226 26 = some (0, 27, 0, 0, 0, []) := cd_row ac_226 rfl
theorem cd_226_27 : cd 226 27 = some (0, 29, 0, 0, 60, []) := cd_row ac_226 rfl
theorem cd_226_29 : cd 226 29 = some (46, 32, 224, 5, 10, []) := cd_row ac_226 rfl
theorem cd_226_32 : cd 226 32 = some (5, 33, 2, 0, 0, []) := cd_row ac_226 rfl
theorem cd_226_33 : cd 226 33 = some (2, 34, 2, 0, 0, []) := cd_row ac_226 rfl
theorem cd_226_34 : cd 226 34 = some (20, 37, 58, 1, 0, []) := cd_row ac_226 rfl
theorem cd_226_37 : cd 226 37 = some (4, 38, 0, 0, 0, []) := cd_row ac_226 rfl
theorem cd_226_38 : cd 226 38 = some (0, 40, 0, 0, 100, []) := cd_row ac_226 rfl
theorem cd_226_40 : cd 226 40 = some (0, 42, 0, 0, 117, []) := cd_row ac_226 rfl
theorem cd_226_42 : cd 226 42 = some (0, 44, 0, 0, 101, []) := cd_row ac_226 rfl
theorem cd_226_44 : cd 226 44 = some (38, 47, 200, 3, 0, []) := cd_row ac_226 rfl
theorem cd_226_47 : cd 226 47 = some (2, 48, 1, 0, 0, []) := cd_row ac_226 rfl
theorem cd_226_48 : cd 226 48 = some (0, 49, 0, 0, 3, []) := cd_row ac_226 rfl
theorem cd_226_49 : cd 226 49 = some (9, 50, 0, 0, 0, []) := cd_row ac_226 rfl
theorem cd_226_50 : cd 226 50 = some (0, 51, 0, 0, 0, []) := cd_row ac_226 rfl
theorem cd_226_51 : cd 226 51 = some (0, 54, 0, 0, 999, []) := cd_row ac_226 rfl
theorem cd_226_54 : cd 226 54 = some (46, 57, 224, 5, 10, []) := cd_row ac_226 rfl
theorem cd_226_57 : cd 226 57 = some (5, 58, 2, 0, 0, []) := cd_row ac_226 rfl
theorem cd_226_58 : cd 226 58 = some (2, 59, 2, 0, 0, []) := cd_row ac_226 rfl
theorem cd_226_59 : cd 226 59 = some (20, 62, 82, 1, 0, []) := cd_row ac_226 rfl
theorem cd_226_62 : cd 226 62 = some (4, 63, 0, 0, 0, []) := cd_row ac_226 rfl
theorem cd_226_63 : cd 226 63 = some (0, 65, 0, 0, 109, []) := cd_row ac_226 rfl
theorem cd_226_65 : cd 226 65 = some (0, 67, 0, 0, 101, []) := cd_row ac_226 rfl
theorem cd_226_67 : cd 226 67 = some (0, 69, 0, 0, 110, []) := cd_row ac_226 rfl
theorem cd_226_69 : cd 226 69 = some (38, 72, 200, 3, 0, []) := cd_row ac_226 rfl
theorem cd_226_72 : cd 226 72 = some (2, 73, 1, 0, 0, []) := cd_row ac_226 rfl
theorem cd_226_73 : cd 226 73 = some (0, 74, 0, 0, 4, []) := cd_row ac_226 rfl
theorem cd_226_74 : cd 226 74 = some (9, 75, 0, 0, 0, []) := cd_row ac_226 rfl
theorem cd_226_75 : cd 226 75 = some (0, 76, 0, 0, 0, []) := cd_row ac_226 rfl
theorem cd_226_76 : cd 226 76 = some (0, 78, 0, 0, 9, []) := cd_row ac_226 rfl
theorem cd_226_78 : cd 226 78 = some (46, 81, 224, 5, 10, []) := cd_row ac_226 rfl
theorem cd_226_81 : cd 226 81 = some (5, 82, 2, 0, 0, []) := cd_row ac_226 rfl
theorem cd_226_82 : cd 226 82 = some (2, 83, 2, 0, 0, []) := cd_row ac_226 rfl
theorem cd_226_83 : cd 226 83 = some (20, 86, 90, 0, 0, []) := cd_row ac_226 rfl
theorem cd_226_86 : cd 226 86 = some (2, 87, 2, 0, 0, []) := cd_row ac_226 rfl
theorem cd_226_87 : cd 226 87 = some (22, 90, 106, 0, 0, []) := cd_row ac_226 rfl
theorem cd_226_90 : cd 226 90 = some (4, 91, 0, 0, 0, []) := cd_row ac_226 rfl
theorem cd_226_91 : cd 226 91 = some (0, 93, 0, 0, 111, []) := cd_row ac_226 rfl
theorem cd_226_93 : cd 226 93 = some (0, 95, 0, 0, 110, []) := cd_row ac_226 rfl
theorem cd_226_95 : cd 226 95 = some (38, 98, 199, 2, 0, []) := cd_row ac_226 rfl
theorem cd_226_98 : cd 226 98 = some (2, 99, 1, 0, 0, []) := cd_row ac_226 rfl
theorem cd_226_99 : cd 226 99 = some (0, 100, 0, 0, 5, []) := cd_row ac_226 rfl
theorem cd_226_100 : cd 226 100 = some (9, 101, 0, 0, 0, []) := cd_row ac_226 rfl
theorem cd_226_101 : cd 226 101 = some (0, 102, 0, 0, 0, []) := cd_row ac_226 rfl
theorem cd_226_102 : cd 226 102 = some (0, 103, 0, 0, 1, []) := cd_row ac_226 rfl
theorem cd_226_103 : cd 226 103 = some (46, 106, 224, 5, 10, []) := cd_row ac_226 rfl
theorem cd_226_106 : cd 226 106 = some (40, 107, 0, 0, 0, []) := cd_row ac_226 rfl
set_option maxRecDepth 20000 in
theorem ac_227 : allC[227]? = some cl227 := rfl
theorem cd_227_0 : cd 227 0 = some (4, 1, 0, 0, 0, []) := cd_row ac_227 rfl
theorem cd_227_1 : cd 227 1 = some (0, 3, 0, 0, 111, []) := cd_row ac_227 rfl
theorem cd_227_3 : cd 227 3 = some (0, 5, 0, 0, 117, []) := cd_row ac_227 rfl
theorem cd_227_5 : cd 227 5 = some (0, 7, 0, 0, 116, []) := cd_row ac_227 rfl
theorem cd_227_7 : cd 227 7 = some (38, 10, 200, 3, 0, []) := cd_row ac_227 rfl
theorem cd_227_10 : cd 227 10 = some (46, 13, 204, 2, 10, []) := cd_row ac_227 rfl
theorem cd_227_13 : cd 227 13 = some (5, 14, 2, 0, 0, []) := cd_row ac_227 rfl
theorem cd_227_14 : cd 227 14 = some (4, 15, 0, 0, 0, []) := cd_row ac_227 rfl
theorem cd_227_15 : cd 227 15 = some (0, 17, 0, 0, 105, []) := cd_row ac_227 rfl
theorem cd_227_17 : cd 227 17 = some (0, 19, 0, 0, 110, []) := cd_row ac_227 rfl
theorem cd_227_19 : cd 227 19 = some (38, 22, 199, 2, 0, []) := cd_row ac_227 rfl
theorem cd_227_22 : cd 227 22 = some (46, 25, 204, 2, 10, []) := cd_row ac_227 rfl
theorem cd_227_25 : cd 227 25 = some (5, 26, 3, 0, 0, []) := cd_row ac_227 rfl
theorem cd_227_26 : cd 227 26 = some (2, 27, 2, 0, 0, []) := cd_row ac_227 rfl
theorem cd_227_27 : cd 227 27 = some (20, 30, 50, 1, 0, []) := cd_row ac_227 rfl
theorem cd_227_30 : cd 227 30 = some (2, 31, 3, 0, 0, []) := cd_row ac_227 rfl
theorem cd_227_31 : cd 227 31 = some (20, 34, 50, 1, 0, []) := cd_row ac_227 rfl
theorem cd_227_34 : cd 227 34 = some (4, 35, 0, 0, 0, []) := cd_row ac_227 rfl
theorem cd_227_35 : cd 227 35 = some (0, 37, 0, 0, 111, []) := cd_row ac_227 rfl
theorem cd_227_37 : cd 227 37 = some (0, 39, 0, 0, 110, []) := cd_row ac_227 rfl
theorem cd_227_39 : cd 227 39 = some (38, 42, 199, 2, 0, []) := cd_row ac_227 rfl
theorem cd_227_42 : cd 227 42 = some (46, 45, 204, 2, 10, []) := cd_row ac_227 rfl
theorem cd_227_45 : cd 227 45 = some (20, 48, 50, 1, 0, []) := cd_row ac_227 rfl
theorem cd_227_48 : cd 227 48 = some (0, 49, 0, 0, 1, []) := cd_row ac_227 rfl
theorem cd_227_49 : cd 227 49 = some (40, 50, 0, 0, 0, []) := cd_row ac_227 rfl
theorem cd_227_50 : cd 227 50 = some (4, 51, 0, 0, 0, []) := cd_row ac_227 rfl
theorem cd_227_51 : cd 227 51 = some (23, 54, 10, 2, 0, []) := cd_row ac_227 rfl
theorem cd_227_54 : cd 227 54 = some (2, 55, 1, 0, 0, []) := cd_row ac_227 rfl
theorem cd_227_55 : cd 227 55 = some (0, 56, 0, 0, 1, []) := cd_row ac_227 rfl
theorem cd_227_56 : cd 227 56 = some (9, 57, 0, 0, 0, []) := cd_row ac_227 rfl
theorem cd_227_57 : cd 227 57 = some (2, 58, 2, 0, 0, []) := cd_row ac_227 rfl
theorem cd_227_58 : cd 227 58 = some (20, 61, 65, 0, 0, []) := cd_row ac_227 rfl
theorem cd_227_61 : cd 227 61 = some (0, 62, 0, 0, 1, []) := cd_row ac_227 rfl
theorem cd_227_62 : cd 227 62 = some (22, 65, 74, 0, 0, []) := cd_row ac_227 rfl
theorem cd_227_65 : cd 227 65 = some (2, 66, 3, 0, 0, []) := cd_row ac_227 rfl
theorem cd_227_66 : cd 227 66 = some (20, 69, 73, 0, 0, []) := cd_row ac_227 rfl
theorem cd_227_69 : cd 227 69 = some (0, 70, 0, 0, -1, []) := cd_row ac_227 rfl
theorem cd_227_70 : cd 227 70 = some (22, 73, 74, 0, 0, []) := cd_row ac_227 rfl
theorem cd_227_73 : cd 227 73 = some (0, 74, 0, 0, 0, []) := cd_row ac_227 rfl
theorem cd_227_74 : cd 227 74 = some (30, 75, 0, 0, 0, []) := cd_row ac_227 rfl
theorem cd_227_75 : cd 227 75 = some (4, 76, 0, 0, 0, []) := cd_row ac_227 rfl
theorem cd_227_76 : cd 227 76 = some (46, 79, 198, 1, 10, []) := cd_row ac_227 rfl
theorem cd_227_79 : cd 227 79 = some (0, 80, 0, 0, 0, []) := cd_row ac_227 rfl
theorem cd_227_80 : cd 227 80 = some (40, 81, 0, 0, 0, []) := cd_row ac_227 rfl
set_option maxRecDepth 20000 in
theorem ac_228 : allC[228]? = some cl228 := rfl
theorem cd_228_0 : cd 228 0 = some (2, 1, 1, 0, 0, []) := cd_row ac_228 rfl
theorem cd_228_1 : cd 228 1 = some (43, 44, 103, 0, 0, [(5, 44), (6, 50), (7, 56), (8, 67), (9, 78), (10, 90), (11, 101)]) := cd_row ac_228 rfl
theorem cd_228_44 : cd 228 44 = some (4, 45, 0, 0, 0, []) := cd_row ac_228 rfl
theorem cd_228_45 : cd 228 45 = some (2, 46, 2, 0, 0, []) := cd_row ac_228 rfl
theorem cd_228_46 : cd 228 46 = some (46, 49, 226, 2, 10, []) := cd_row ac_228 rfl
theorem cd_228_49 : cd 228 49 = some (40, 50, 0, 0, 0, []) := cd_row ac_228 rfl
theorem cd_228_50 : cd 228 50 = some (4, 51, 0, 0, 0, []) := cd_row ac_228 rfl
theorem cd_228_51 : cd 228 51 = some (2, 52, 2, 0, 0, []) := cd_row ac_228 rfl
theorem cd_228_52 : cd 228 52 = some (46, 55, 227, 2, 10, []) := cd_row ac_228 rfl
theorem cd_228_55 : cd 228 55 = some (40, 56, 0, 0, 0, []) := cd_row ac_228 rfl
theorem cd_228_56 : cd 228 56 = some (4, 57, 0, 0, 0, []) := cd_row ac_228 rfl
theorem cd_228_57 : cd 228 57 = some (2, 58, 2, 0, 0, []) := cd_row ac_228 rfl
theorem cd_228_58 : cd 228 58 = some (0, 59, 0, 0, 1, []) := cd_row ac_228 rfl
theorem cd_228_59 : cd 228 59 = some (9, 60, 0, 0, 0, []) := cd_row ac_228 rfl
theorem cd_228_60 : cd 228 60 = some (0, 61, 0, 0, 1, []) := cd_row ac_228 rfl
theorem cd_228_61 : cd 228 61 = some (0, 63, 0, 0, 60, []) := cd_row ac_228 rfl
theorem cd_228_63 : cd 228 63 = some (46, 66, 223, 4, 10, []) := cd_row ac_228 rfl
theorem cd_228_66 : cd 228 66 = some (40, 67, 0, 0, 0, []) := cd_row ac_228 rfl
theorem cd_228_67 : cd 228 67 = some (4, 68, 0, 0, 0, []) := cd_row ac_228 rfl
theorem cd_228_68 : cd 228 68 = some (2, 69, 2, 0, 0, []) := cd_row ac_228 rfl
theorem cd_228_69 : cd 228 69 = some (0, 70, 0, 0, 1, []) := cd_row ac_228 rfl
theorem cd_228_70 : cd 228 70 = some (9, 71, 0, 0, 0, []) := cd_row ac_228 rfl
theorem cd_228_71 : cd 228 71 = some (0, 72, 0, 0, 1, []) := cd_row ac_228 rfl
theorem cd_228_72 : cd 228 72 = some (0, 74, 0, 0, 24, []) := cd_row ac_228 rfl
theorem cd_228_74 : cd 228 74 = some (46, 77, 223, 4, 10, []) := cd_row ac_228 rfl
theorem cd_228_77 : cd 228 77 = some (40, 78, 0, 0, 0, []) := cd_row ac_228 rfl
theorem cd_228_78 : cd 228 78 = some (4, 79, 0, 0, 0, []) := cd_row ac_228 rfl
theorem cd_228_79 : cd 228 79 = some (2, 80, 2, 0, 0, []) := cd_row ac_228 rfl
theorem cd_228_80 : cd 228 80 = some (0, 81, 0, 0, 1, []) := cd_row ac_228 rfl
theorem cd_228_81 : cd 228 81 = some (9, 82, 0, 0, 0, []) := cd_row ac_228 rfl
theorem cd_228_82 : cd 228 82 = some (0, 83, 0, 0, 0, []) := cd_row ac_228 rfl
theorem cd_228_83 : cd 228 83 = some (0, 86, 0, 0, 600, []) := cd_row ac_228 rfl
theorem cd_228_86 : cd 228 86 = some (46, 89, 223, 4, 10, []) := cd_row ac_228 rfl
theorem cd_228_89 : cd 228 89 = some (40, 90, 0, 0, 0, []) := cd_row ac_228 rfl
theorem cd_228_90 : cd 228 90 = some (4, 91, 0, 0, 0, []) := cd_row ac_228 rfl
theorem cd_228_91 : cd 228 91 = some (2, 92, 2, 0, 0, []) := cd_row ac_228 rfl
theorem cd_228_92 : cd 228 92 = some (0, 93, 0, 0, 1, []) := cd_row ac_228 rfl
theorem cd_228_93 : cd 228 93 = some (9, 94, 0, 0, 0, []) := cd_row ac_228 rfl
theorem cd_228_94 : cd 228 94 = some (0, 95, 0, 0, 0, []) := cd_row ac_228 rfl
theorem cd_228_95 : cd 228 95 = some (0, 97, 0, 0, 7, []) := cd_row ac_228 rfl
theorem cd_228_97 : cd 228 97 = some (46, 100, 223, 4, 10, []) := cd_row ac_228 rfl
theorem cd_228_100 : cd 228 100 = some (40, 101, 0, 0, 0, []) := cd_row ac_228 rfl
theorem cd_228_101 : cd 228 101 = some (0, 102, 0, 0, 0, []) := cd_row ac_228 rfl
theorem cd_228_102 : cd 228 102 = some (40, 103, 0, 0, 0, []) := cd_row ac_228 rfl
theorem cd_228_103 : cd 228 103 = some (4, 104, 0, 0, 0, []) := cd_row ac_228 rfl
theorem cd_228_104 : cd 228 104 = some (2, 105, 2, 0, 0, []) := cd_row ac_228 rfl
theorem cd_228_105 : cd 228 105 = some (46, 108, 225, 2, 10, []) := cd_row ac_228 rfl
theorem cd_228_108 : cd 228 108 = some (40, 109, 0, 0, 0, []) := cd_row ac_228 rfl
set_option maxRecDepth 20000 in
theorem ac_229 : allC[229]? = some cl229 := rfl
theorem cd_229_0 : cd 229 0 = some (4, 1, 0, 0, 0, []) := cd_row ac_229 rfl
theorem cd_229_1 : cd 229 1 = some (0, 3, 0, 0, 112, []) := cd_row ac_229 rfl
theorem cd_229_3 : cd 229 3 = some (0, 5, 0, 0, 97, []) := cd_row ac_229 rfl
theorem cd_229_5 : cd 229 5 = some (0, 7, 0, 0, 99, []) := cd_row ac_229 rfl
theorem cd_229_7 : cd 229 7 = some (0, 9, 0, 0, 101, []) := cd_row ac_229 rfl
theorem cd_229_9 : cd 229 9 = some (0, 11, 0, 0, 115, []) := cd_row ac_229 rfl
theorem cd_229_11 : cd 229 11 = some (38, 14, 202, 5, 0, []) := cd_row ac_229 rfl
theorem cd_229_14 : cd 229 14 = some (46, 17, 204, 2, 10, []) := cd_row ac_229 rfl
theorem cd_229_17 : cd 229 17 = some (20, 20, 22, 0, 0, []) := cd_row ac_229 rfl
theorem cd_229_20 : cd 229 20 = some (0, 21, 0, 0, 0, []) := cd_row ac_229 rfl
theorem cd_229_21 : cd 229 21 = some (40, 22, 0, 0, 0, []) := cd_row ac_229 rfl
theorem cd_229_22 : cd 229 22 = some (4, 23, 0, 0, 0, []) := cd_row ac_229 rfl
theorem cd_229_23 : cd 229 23 = some (0, 25, 0, 0, 115, []) := cd_row ac_229 rfl
theorem cd_229_25 : cd 229 25 = some (0, 27, 0, 0, 119, []) := cd_row ac_229 rfl
theorem cd_229_27 : cd 229 27 = some (0, 29, 0, 0, 105, []) := cd_row ac_229 rfl
theorem cd_229_29 : cd 229 29 = some (0, 31, 0, 0, 110, []) := cd_row ac_229 rfl
theorem cd_229_31 : cd 229 31 = some (0, 33, 0, 0, 103, []) := cd_row ac_229 rfl
theorem cd_229_33 : cd 229 33 = some (0, 35, 0, 0, 115, []) := cd_row ac_229 rfl
theorem cd_229_35 : cd 229 35 = some (38, 38, 203, 6, 0, []) := cd_row ac_229 rfl
theorem cd_229_38 : cd 229 38 = some (46, 41, 204, 2, 10, []) := cd_row ac_229 rfl
theorem cd_229_41 : cd 229 41 = some (20, 44, 46, 0, 0, []) := cd_row ac_229 rfl
theorem cd_229_44 : cd 229 44 = some (0, 45, 0, 0, 1, []) := cd_row ac_229 rfl
theorem cd_229_45 : cd 229 45 = some (40, 46, 0, 0, 0, []) := cd_row ac_229 rfl
theorem cd_229_46 : cd 229 46 = some (4, 47, 0, 0, 0, []) := cd_row ac_229 rfl
theorem cd_229_47 : cd 229 47 = some (0, 49, 0, 0, 104, []) := cd_row ac_229 rfl
theorem cd_229_49 : cd 229 49 = some (0, 51, 0, 0, 97, []) := cd_row ac_229 rfl
theorem cd_229_51 : cd 229 51 = some (0, 53, 0, 0, 110, []) := cd_row ac_229 rfl
theorem cd_229_53 : cd 229 53 = some (0, 55, 0, 0, 100, []) := cd_row ac_229 rfl
theorem cd_229_55 : cd 229 55 = some (38, 58, 201, 4, 0, []) := cd_row ac_229 rfl
theorem cd_229_58 : cd 229 58 = some (46, 61, 204, 2, 10, []) := cd_row ac_229 rfl
theorem cd_229_61 : cd 229 61 = some (20, 64, 66, 0, 0, []) := cd_row ac_229 rfl
theorem cd_229_64 : cd 229 64 = some (0, 65, 0, 0, 2, []) := cd_row ac_229 rfl
theorem cd_229_65 : cd 229 65 = some (40, 66, 0, 0, 0, []) := cd_row ac_229 rfl
theorem cd_229_66 : cd 229 66 = some (4, 67, 0, 0, 0, []) := cd_row ac_229 rfl
theorem cd_229_67 : cd 229 67 = some (0, 69, 0, 0, 104, []) := cd_row ac_229 rfl
theorem cd_229_69 : cd 229 69 = some (0, 71, 0, 0, 111, []) := cd_row ac_229 rfl
theorem cd_229_71 : cd 229 71 = some (0, 73, 0, 0, 108, []) := cd_row ac_229 rfl
theorem cd_229_73 : cd 229 73 = some (0, 75, 0, 0, 100, []) := cd_row ac_229 rfl
theorem cd_229_75 : cd 229 75 = some (0, 77, 0, 0, 115, []) := cd_row ac_229 rfl
theorem cd_229_77 : cd 229 77 = some (38, 80, 202, 5, 0, []) := cd_row ac_229 rfl
theorem cd_229_80 : cd 229 80 = some (46, 83, 204, 2, 10, []) := cd_row ac_229 rfl
theorem cd_229_83 : cd 229 83 = some (20, 86, 88, 0, 0, []) := cd_row ac_229 rfl
theorem cd_229_86 : cd 229 86 = some (0, 87, 0, 0, 3, []) := cd_row ac_229 rfl
theorem cd_229_87 : cd 229 87 = some (40, 88, 0, 0, 0, []) := cd_row ac_229 rfl
theorem cd_229_88 : cd 229 88 = some (4, 89, 0, 0, 0, []) := cd_row ac_229 rfl
theorem cd_229_89 : cd 229 89 = some (0, 91, 0, 0, 108, []) := cd_row ac_229 rfl
theorem cd_229_91 : cd 229 91 = some (0, 93, 0, 0, 97, []) := cd_row ac_229 rfl
theorem cd_229_93 : cd 229 93 = some (0, 95, 0, 0, 115, []) := cd_row ac_229 rfl
theorem cd_229_95 : cd 229 95 = some (0, 97, 0, 0, 116, []) := cd_row ac_229 rfl
theorem cd_229_97 : cd 229 97 = some (0, 99, 0, 0, 115, []) := cd_row ac_229 rfl
theorem cd_229_99 : cd 229 99 = some (38, 102, 202, 5, 0, []) := cd_row ac_229 rfl
theorem cd_229_102 : cd 229 102 = some (46, 105, 204, 2, 10, []) := cd_row ac_229 rfl
theorem cd_229_105 : cd 229 105 = some (20, 108, 110, 0, 0, []) := cd_row ac_229 rfl
theorem cd_229_108 : cd 229 108 = some (0, 109, 0, 0, 4, []) := cd_row ac_229 rfl
theorem cd_229_109 : cd 229 109 = some (40, 110, 0, 0, 0, []) := cd_row ac_229 rfl
theorem cd_229_110 : cd 229 110 = some (4, 111, 0, 0, 0, []) := cd_row ac_229 rfl
theorem cd_229_111 : cd 229 111 = some (0, 113, 0, 0, 111, []) := cd_row ac_229 rfl
theorem cd_229_113 : cd 229 113 = some (0, 115, 0, 0, 114, []) := cd_row ac_229 rfl
theorem cd_229_115 : cd 229 115 = some (0, 117, 0, 0, 100, []) := cd_row ac_229 rfl
theorem cd_229_117 : cd 229 117 = some (0, 119, 0, 0, 101, []) := cd_row ac_229 rfl
theorem cd_229_119 : cd 229 119 = some (0, 121, 0, 0, 114, []) := cd_row ac_229 rfl
theorem cd_229_121 : cd 229 121 = some (38, 124, 202, 5, 0, []) := cd_row ac_229 rfl
theorem cd_229_124 : cd 229 124 = some (46, 127, 204, 2, 10, []) := cd_row ac_229 rfl
theorem cd_229_127 : cd 229 127 = some (20, 130, 132, 0, 0, []) := cd_row ac_229 rfl
theorem cd_229_130 : cd 229 130 = some (0, 131, 0, 0, 5, []) := cd_row ac_229 rfl
theorem cd_229_131 : cd 229 131 = some (40, 132, 0, 0, 0, []) := cd_row ac_229 rfl
theorem cd_229_132 : cd 229 132 = some (4, 133, 0, 0, 0, []) := cd_row ac_229 rfl
theorem cd_229_133 : cd 229 133 = some (0, 135, 0, 0, 109, []) := cd_row ac_229 rfl
theorem cd_229_135 : cd 229 135 = some (0, 137, 0, 0, 111, []) := cd_row ac_229 rfl
theorem cd_229_137 : cd 229 137 = some (0, 139, 0, 0, 118, []) := cd_row ac_229 rfl
theorem cd_229_139 : cd 229 139 = some (0, 141, 0, 0, 101, []) := cd_row ac_229 rfl
theorem cd_229_141 : cd 229 141 = some (38, 144, 201, 4, 0, []) := cd_row ac_229 rfl
theorem cd_229_144 : cd 229 144 = some (46, 147, 204, 2, 10, []) := cd_row ac_229 rfl
theorem cd_229_147 : cd 229 147 = some (20, 150, 153, 0, 0, []) := cd_row ac_229 rfl
theorem cd_229_150 : cd 229 150 = some (0, 152, 0, 0, 6, []) := cd_row ac_229 rfl
theorem cd_229_152 : cd 229 152 = some (40, 153, 0, 0, 0, []) := cd_row ac_229 rfl
theorem cd_229_153 : cd 229 153 = some (4, 154, 0, 0, 0, []) := cd_row ac_229 rfl
theorem cd_229_154 : cd 229 154 = some (0, 156, 0, 0, 114, []) := cd_row ac_229 rfl
theorem cd_229_156 : cd 229 156 = some (0, 158, 0, 0, 117, []) := cd_row ac_229 rfl
theorem cd_229_158 : cd 229 158 = some (0, 160, 0, 0, 110, []) := cd_row ac_229 rfl
theorem cd_229_160 : cd 229 160 = some (38, 163, 200, 3, 0, []) := cd_row ac_229 rfl
theorem cd_229_163 : cd 229 163 = some (46, 166, 204, 2, 10, []) := cd_row ac_229 rfl
theorem cd_229_166 : cd 229 166 = some (20, 169, 172, 0, 0, []) := cd_row ac_229 rfl
theorem cd_229_169 : cd 229 169 = some (0, 171, 0, 0, 7, []) := cd_row ac_229 rfl
theorem cd_229_171 : cd 229 171 = some (40, 172, 0, 0, 0, []) := cd_row ac_229 rfl
theorem cd_229_172 : cd 229 172 = some (4, 173, 0, 0, 0, []) := cd_row ac_229 rfl
theorem cd_229_173 : cd 229 173 = some (0, 175, 0, 0, 114, []) := cd_row ac_229 rfl
theorem cd_229_175 : cd 229 175 = some (0, 177, 0, 0, 111, []) := cd_row ac_229 rfl
theorem cd_229_177 : cd 229 177 = some (0, 179, 0, 0, 112, []) := cd_row ac_229 rfl
theorem cd_229_179 : cd 229 179 = some (0, 181, 0, 0, 101, []) := cd_row ac_229 rfl
theorem cd_229_181 : cd 229 181 = some (38, 184, 201, 4, 0, []) := cd_row ac_229 rfl
theorem cd_229_184 : cd 229 184 = some (46, 187, 204, 2, 10, []) := cd_row ac_229 rfl
theorem cd_229_187 : cd 229 187 = some (20, 190, 193, 0, 0, []) := cd_row ac_229 rfl
theorem cd_229_190 : cd 229 190 = some (0, 192, 0, 0, 8, []) := cd_row ac_229 rfl
theorem cd_229_192 : cd 229 192 = some (40, 193, 0, 0, 0, []) := cd_row ac_229 rfl
theorem cd_229_193 : cd 229 193 = some (4, 194, 0, 0, 0, []) := cd_row ac_229 rfl
theorem cd_229_194 : cd 229 194 = some (0, 196, 0, 0, 97, []) := cd_row ac_229 rfl
theorem cd_229_196 : cd 229 196 = some (0, 198, 0, 0, 105, []) := cd_row ac_229 rfl
theorem cd_229_198 : cd 229 198 = some (0, 200, 0, 0, 109, []) := cd_row ac_229 rfl
theorem cd_229_200 : cd 229 200 = some (38, 203, 200, 3, 0, []) := cd_row ac_229 rfl
theorem cd_229_203 : cd 229 203 = some (46, 206, 204, 2, 10, []) := cd_row ac_229 rfl
theorem cd_229_206 : cd 229 206 = some (20, 209, 212, 0, 0, []) := cd_row ac_229 rfl
theorem cd_229_209 : cd 229 209 = some (0, 211, 0, 0, 9, []) := cd_row ac_229 rfl
theorem cd_229_211 : cd 229 211 = some (40, 212, 0, 0, 0, []) := cd_row ac_229 rfl
theorem cd_229_212 : cd 229 212 = some (4, 213, 0, 0, 0, []) := cd_row ac_229 rfl
theorem cd_229_213 : cd 229 213 = some (0, 215, 0, 0, 104, []) := cd_row ac_229 rfl
theorem cd_229_215 : cd 229 215 = some (0, 217, 0, 0, 111, []) := cd_row ac_229 rfl
theorem cd_229_217 : cd 229 217 = some (0, 219, 0, 0, 111, []) := cd_row ac_229 rfl
theorem cd_229_219 : cd 229 219 = some (0, 221, 0, 0, 107, []) := cd_row ac_229 rfl
theorem cd_229_221 : cd 229 221 = some (38, 224, 201, 4, 0, []) := cd_row ac_229 rfl
theorem cd_229_224 : cd 229 224 = some (46, 227, 204, 2, 10, []) := cd_row ac_229 rfl
theorem cd_229_227 : cd 229 227 = some (20, 230, 235, 0, 0, []) := cd_row ac_229 rfl
theorem cd_229_230 : cd 229 230 = some (0, 232, 0, 0, 10, []) := cd_row ac_229 rfl
theorem cd_229_232 : cd 229 232 = some (22, 235, 259, 0, 0, []) := cd_row ac_229 rfl
theorem cd_229_235 : cd 229 235 = some (4, 236, 0, 0, 0, []) := cd_row ac_229 rfl
theorem cd_229_236 : cd 229 236 = some (0, 238, 0, 0, 108, []) := cd_row ac_229 rfl
theorem cd_229_238 : cd 229 238 = some (0, 240, 0, 0, 97, []) := cd_row ac_229 rfl
theorem cd_229_240 : cd 229 240 = some (0, 242, 0, 0, 110, []) := cd_row ac_229 rfl
theorem cd_229_242 : cd 229 242 = some (0, 244, 0, 0, 100, []) := cd_row ac_229 rfl
theorem cd_229_244 : cd 229 244 = some (38, 247, 201, 4, 0, []) := cd_row ac_229 rfl
theorem cd_229_247 : cd 229 247 = some (46, 250, 204, 2, 10, []) := cd_row ac_229 rfl
theorem cd_229_250 : cd 229 250 = some (20, 253, 258, 0, 0, []) := cd_row ac_229 rfl
theorem cd_229_253 : cd 229 253 = some (0, 255, 0, 0, 11, []) := cd_row ac_229 rfl
theorem cd_229_255 : cd 229 255 = some (22, 258, 259, 0, 0, []) := cd_row ac_229 rfl
theorem cd_229_258 : cd 229 258 = some (0, 259, 0, 0, -1, []) := cd_row ac_229 rfl
theorem cd_229_259 : cd 229 259 = some (40, 260, 0, 0, 0, []) := cd_row ac_229 rfl
set_option maxRecDepth 20000 in
theorem ac_230 : allC[230]? = some cl230 := rfl
theorem cd_230_0 : cd 230 0 = some (4, 1, 0, 0, 0, []) := cd_row ac_230 rfl
theorem cd_230_1 : cd 230 1 = some (46, 4, 229, 1, 10, []) := cd_row ac_230 rfl
theorem cd_230_4 : cd 230 4 = some (5, 5, 1, 0, 0, []) := cd_row ac_230 rfl
theorem cd_230_5 : cd 230 5 = some (2, 6, 1, 0, 0, []) := cd_row ac_230 rfl
theorem cd_230_6 : cd 230 6 = some (20, 9, 11, 3, 0, []) := cd_row ac_230 rfl
theorem cd_230_9 : cd 230 9 = some (0, 10, 0, 0, 1, []) := cd_row ac_230 rfl
theorem cd_230_10 : cd 230 10 = some (40, 11, 0, 0, 0, []) := cd_row ac_230 rfl
theorem cd_230_11 : cd 230 11 = some (2, 12, 1, 0, 0, []) := cd_row ac_230 rfl
theorem cd_230_12 : cd 230 12 = some (0, 13, 0, 0, 4, []) := cd_row ac_230 rfl
theorem cd_230_13 : cd 230 13 = some (21, 16, 29, 4, 0, []) := cd_row ac_230 rfl
theorem cd_230_16 : cd 230 16 = some (4, 17, 0, 0, 0, []) := cd_row ac_230 rfl
theorem cd_230_17 : cd 230 17 = some (23, 20, 10, 19, 0, []) := cd_row ac_230 rfl
theorem cd_230_20 : cd 230 20 = some (2, 21, 1, 0, 0, []) := cd_row ac_230 rfl
theorem cd_230_21 : cd 230 21 = some (38, 24, 185, 2, 0, []) := cd_row ac_230 rfl
theorem cd_230_24 : cd 230 24 = some (20, 27, 29, 0, 0, []) := cd_row ac_230 rfl
theorem cd_230_27 : cd 230 27 = some (0, 28, 0, 0, 4, []) := cd_row ac_230 rfl
theorem cd_230_28 : cd 230 28 = some (40, 29, 0, 0, 0, []) := cd_row ac_230 rfl
theorem cd_230_29 : cd 230 29 = some (4, 30, 0, 0, 0, []) := cd_row ac_230 rfl
theorem cd_230_30 : cd 230 30 = some (23, 33, 10, 2, 0, []) := cd_row ac_230 rfl
theorem cd_230_33 : cd 230 33 = some (4, 34, 0, 0, 0, []) := cd_row ac_230 rfl
theorem cd_230_34 : cd 230 34 = some (23, 37, 10, 12, 0, []) := cd_row ac_230 rfl
theorem cd_230_37 : cd 230 37 = some (26, 38, 0, 0, 0, []) := cd_row ac_230 rfl
theorem cd_230_38 : cd 230 38 = some (5, 39, 2, 0, 0, []) := cd_row ac_230 rfl
theorem cd_230_39 : cd 230 39 = some (2, 40, 2, 0, 0, []) := cd_row ac_230 rfl
theorem cd_230_40 : cd 230 40 = some (0, 42, 0, 0, 24, []) := cd_row ac_230 rfl
theorem cd_230_42 : cd 230 42 = some (21, 45, 48, 1, 0, []) := cd_row ac_230 rfl
theorem cd_230_45 : cd 230 45 = some (0, 47, 0, 0, 6, []) := cd_row ac_230 rfl
theorem cd_230_47 : cd 230 47 = some (40, 48, 0, 0, 0, []) := cd_row ac_230 rfl
theorem cd_230_48 : cd 230 48 = some (2, 49, 1, 0, 0, []) := cd_row ac_230 rfl
theorem cd_230_49 : cd 230 49 = some (0, 50, 0, 0, 4, []) := cd_row ac_230 rfl
theorem cd_230_50 : cd 230 50 = some (21, 53, 65, 4, 0, []) := cd_row ac_230 rfl
theorem cd_230_53 : cd 230 53 = some (4, 54, 0, 0, 0, []) := cd_row ac_230 rfl
theorem cd_230_54 : cd 230 54 = some (17, 55, 0, 0, 0, []) := cd_row ac_230 rfl
theorem cd_230_55 : cd 230 55 = some (23, 58, 10, 19, 0, []) := cd_row ac_230 rfl
theorem cd_230_58 : cd 230 58 = some (0, 59, 0, 0, 1, []) := cd_row ac_230 rfl
theorem cd_230_59 : cd 230 59 = some (2, 60, 1, 0, 0, []) := cd_row ac_230 rfl
theorem cd_230_60 : cd 230 60 = some (9, 61, 0, 8, 0, []) := cd_row ac_230 rfl
theorem cd_230_61 : cd 230 61 = some (9, 62, 0, 4, 0, []) := cd_row ac_230 rfl
theorem cd_230_62 : cd 230 62 = some (24, 65, 10, 19, 0, []) := cd_row ac_230 rfl
theorem cd_230_65 : cd 230 65 = some (4, 66, 0, 0, 0, []) := cd_row ac_230 rfl
theorem cd_230_66 : cd 230 66 = some (2, 67, 1, 0, 0, []) := cd_row ac_230 rfl
theorem cd_230_67 : cd 230 67 = some (24, 70, 10, 14, 0, []) := cd_row ac_230 rfl
theorem cd_230_70 : cd 230 70 = some (4, 71, 0, 0, 0, []) := cd_row ac_230 rfl
theorem cd_230_71 : cd 230 71 = some (46, 74, 198, 1, 10, []) := cd_row ac_230 rfl
theorem cd_230_74 : cd 230 74 = some (4, 75, 0, 0, 0, []) := cd_row ac_230 rfl
theorem cd_230_75 : cd 230 75 = some (23, 78, 10, 12, 0, []) := cd_row ac_230 rfl
theorem cd_230_78 : cd 230 78 = some (0, 79, 0, 0, 1, []) := cd_row ac_230 rfl
theorem cd_230_79 : cd 230 79 = some (9, 80, 0, 0, 0, []) := cd_row ac_230 rfl
theorem cd_230_80 : cd 230 80 = some (0, 82, 0, 0, 6, []) := cd_row ac_230 rfl
theorem cd_230_82 : cd 230 82 = some (2, 83, 2, 0, 0, []) := cd_row ac_230 rfl
theorem cd_230_83 : cd 230 83 = some (9, 84, 0, 2, 0, []) := cd_row ac_230 rfl
theorem cd_230_84 : cd 230 84 = some (9, 85, 0, 0, 0, []) := cd_row ac_230 rfl
theorem cd_230_85 : cd 230 85 = some (5, 86, 3, 0, 0, []) := cd_row ac_230 rfl
theorem cd_230_86 : cd 230 86 = some (4, 87, 0, 0, 0, []) := cd_row ac_230 rfl
theorem cd_230_87 : cd 230 87 = some (23, 90, 10, 2, 0, []) := cd_row ac_230 rfl
theorem cd_230_90 : cd 230 90 = some (2, 91, 3, 0, 0, []) := cd_row ac_230 rfl
theorem cd_230_91 : cd 230 91 = some (2, 92, 1, 0, 0, []) := cd_row ac_230 rfl
theorem cd_230_92 : cd 230 92 = some (30, 93, 0, 0, 0, []) := cd_row ac_230 rfl
theorem cd_230_93 : cd 230 93 = some (4, 94, 0, 0, 0, []) := cd_row ac_230 rfl
theorem cd_230_94 : cd 230 94 = some (2, 95, 1, 0, 0, []) := cd_row ac_230 rfl
theorem cd_230_95 : cd 230 95 = some (2, 96, 3, 0, 0, []) := cd_row ac_230 rfl
theorem cd_230_96 : cd 230 96 = some (46, 99, 228, 3, 10, []) := cd_row ac_230 rfl
theorem cd_230_99 : cd 230 99 = some (5, 101, 4, 0, 0, []) := cd_row ac_230 rfl
theorem cd_230_101 : cd 230 101 = some (2, 103, 4, 0, 0, []) := cd_row ac_230 rfl
theorem cd_230_103 : cd 230 103 = some (20, 106, 109, 0, 0, []) := cd_row ac_230 rfl
theorem cd_230_106 : cd 230 106 = some (2, 108, 4, 0, 0, []) := cd_row ac_230 rfl
theorem cd_230_108 : cd 230 108 = some (40, 109, 0, 0, 0, []) := cd_row ac_230 rfl
theorem cd_230_109 : cd 230 109 = some (4, 110, 0, 0, 0, []) := cd_row ac_230 rfl
theorem cd_230_110 : cd 230 110 = some (23, 113, 10, 2, 0, []) := cd_row ac_230 rfl
theorem cd_230_113 : cd 230 113 = some (4, 114, 0, 0, 0, []) := cd_row ac_230 rfl
theorem cd_230_114 : cd 230 114 = some (23, 117, 10, 12, 0, []) := cd_row ac_230 rfl
theorem cd_230_117 : cd 230 117 = some (18, 118, 0, 0, 0, []) := cd_row ac_230 rfl
theorem cd_230_118 : cd 230 118 = some (26, 119, 0, 0, 0, []) := cd_row ac_230 rfl
theorem cd_230_119 : cd 230 119 = some (0, 120, 0, 0, 1, []) := cd_row ac_230 rfl
theorem cd_230_120 : cd 230 120 = some (9, 121, 0, 0, 0, []) := cd_row ac_230 rfl
theorem cd_230_121 : cd 230 121 = some (30, 122, 0, 0, 0, []) := cd_row ac_230 rfl
theorem cd_230_122 : cd 230 122 = some (4, 123, 0, 0, 0, []) := cd_row ac_230 rfl
theorem cd_230_123 : cd 230 123 = some (23, 126, 10, 9, 0, []) := cd_row ac_230 rfl
theorem cd_230_126 : cd 230 126 = some (0, 128, 0, 0, 59, []) := cd_row ac_230 rfl
theorem cd_230_128 : cd 230 128 = some (21, 131, 133, 0, 0, []) := cd_row ac_230 rfl
theorem cd_230_131 : cd 230 131 = some (0, 132, 0, 0, 1, []) := cd_row ac_230 rfl
theorem cd_230_132 : cd 230 132 = some (40, 133, 0, 0, 0, []) := cd_row ac_230 rfl
theorem cd_230_133 : cd 230 133 = some (4, 134, 0, 0, 0, []) := cd_row ac_230 rfl
theorem cd_230_134 : cd 230 134 = some (46, 137, 198, 1, 10, []) := cd_row ac_230 rfl
theorem cd_230_137 : cd 230 137 = some (0, 138, 0, 0, 0, []) := cd_row ac_230 rfl
theorem cd_230_138 : cd 230 138 = some (40, 139, 0, 0, 0, []) := cd_row ac_230 rfl
set_option maxRecDepth 20000 in
theorem ac_231 : allC[231]? = some cl231 := rfl
theorem cd_231_0 : cd 231 0 = some (4, 1, 0, 0, 0, []) := cd_row ac_231 rfl
theorem cd_231_1 : cd 231 1 = some (0, 4, 0, 0, 753, []) := cd_row ac_231 rfl
theorem cd_231_4 : cd 231 4 = some (4, 5, 0, 0, 0, []) := cd_row ac_231 rfl
theorem cd_231_5 : cd 231 5 = some (23, 8, 10, 0, 0, []) := cd_row ac_231 rfl
theorem cd_231_8 : cd 231 8 = some (0, 9, 0, 0, 3, []) := cd_row ac_231 rfl
theorem cd_231_9 : cd 231 9 = some (26, 10, 0, 0, 0, []) := cd_row ac_231 rfl
theorem cd_231_10 : cd 231 10 = some (9, 11, 0, 2, 0, []) := cd_row ac_231 rfl
theorem cd_231_11 : cd 231 11 = some (24, 14, 10, 12, 0, []) := cd_row ac_231 rfl
theorem cd_231_14 : cd 231 14 = some (4, 15, 0, 0, 0, []) := cd_row ac_231 rfl
theorem cd_231_15 : cd 231 15 = some (23, 18, 10, 2, 0, []) := cd_row ac_231 rfl
theorem cd_231_18 : cd 231 18 = some (4, 19, 0, 0, 0, []) := cd_row ac_231 rfl
theorem cd_231_19 : cd 231 19 = some (23, 22, 10, 12, 0, []) := cd_row ac_231 rfl
theorem cd_231_22 : cd 231 22 = some (0, 23, 0, 0, 0, []) := cd_row ac_231 rfl
theorem cd_231_23 : cd 231 23 = some (30, 24, 0, 0, 0, []) := cd_row ac_231 rfl
theorem cd_231_24 : cd 231 24 = some (4, 25, 0, 0, 0, []) := cd_row ac_231 rfl
theorem cd_231_25 : cd 231 25 = some (0, 26, 0, 0, 0, []) := cd_row ac_231 rfl
theorem cd_231_26 : cd 231 26 = some (24, 29, 10, 13, 0, []) := cd_row ac_231 rfl
theorem cd_231_29 : cd 231 29 = some (4, 30, 0, 0, 0, []) := cd_row ac_231 rfl
theorem cd_231_30 : cd 231 30 = some (0, 31, 0, 0, 0, []) := cd_row ac_231 rfl
theorem cd_231_31 : cd 231 31 = some (24, 34, 10, 19, 0, []) := cd_row ac_231 rfl
theorem cd_231_34 : cd 231 34 = some (4, 35, 0, 0, 0, []) := cd_row ac_231 rfl
theorem cd_231_35 : cd 231 35 = some (0, 36, 0, 0, 0, []) := cd_row ac_231 rfl
theorem cd_231_36 : cd 231 36 = some (24, 39, 10, 7, 0, []) := cd_row ac_231 rfl
theorem cd_231_39 : cd 231 39 = some (4, 40, 0, 0, 0, []) := cd_row ac_231 rfl
theorem cd_231_40 : cd 231 40 = some (46, 43, 198, 1, 10, []) := cd_row ac_231 rfl
theorem cd_231_43 : cd 231 43 = some (4, 44, 0, 0, 0, []) := cd_row ac_231 rfl
theorem cd_231_44 : cd 231 44 = some (23, 47, 10, 9, 0, []) := cd_row ac_231 rfl
theorem cd_231_47 : cd 231 47 = some (20, 50, 64, 0, 0, []) := cd_row ac_231 rfl
theorem cd_231_50 : cd 231 50 = some (4, 51, 0, 0, 0, []) := cd_row ac_231 rfl
theorem cd_231_51 : cd 231 51 = some (46, 54, 230, 1, 10, []) := cd_row ac_231 rfl
theorem cd_231_54 : cd 231 54 = some (5, 55, 1, 0, 0, []) := cd_row ac_231 rfl
theorem cd_231_55 : cd 231 55 = some (2, 56, 1, 0, 0, []) := cd_row ac_231 rfl
theorem cd_231_56 : cd 231 56 = some (20, 59, 61, 0, 0, []) := cd_row ac_231 rfl
theorem cd_231_59 : cd 231 59 = some (2, 60, 1, 0, 0, []) := cd_row ac_231 rfl
theorem cd_231_60 : cd 231 60 = some (40, 61, 0, 0, 0, []) := cd_row ac_231 rfl
theorem cd_231_61 : cd 231 61 = some (22, 64, 43, 0, 0, []) := cd_row ac_231 rfl
theorem cd_231_64 : cd 231 64 = some (0, 65, 0, 0, 0, []) := cd_row ac_231 rfl
theorem cd_231_65 : cd 231 65 = some (40, 66, 0, 0, 0, []) := cd_row ac_231 rfl
def ks199 : KT := ([.inr (false, 0, 255), .inr (false, 0, 255)], some (.inr (true, (-9223372036854775808), 9223372036854775807)), [], [], [], [], [], 2)
theorem ks199e : chkE JB [] [] ks199 1 199 = true := by decide +kernel
theorem ks199o {β : Nat} : KOK JB (W0 β) 199 ks199 := KOK_of W0_f (CT := []) (cuts := []) trivial ks199e (fun cu h => by cases h) rfl
theorem X_w2 {β d : Nat} {h : AH} (hJ : k_H JB h) (hW : W0 β h) (x0 x1 : Int) (hx : (0 ≤ x0 ∧ x0 ≤ 255) ∧ (0 ≤ x1 ∧ x1 ≤ 255)) : ∃ z : Int, ∀ Q : Option AV → AH → Prop, XC (d + 2) 199 [vI x0, vI x1] h Q = Q (some (vL z)) h := by
  obtain ⟨h0, h1⟩ := hx
  obtain ⟨v, ⟨z, rfl, z1, z2⟩, e⟩ := X_pure (d := d + 1) (vs := [vI x0, vI x1]) (ks199o (β := β)) (by show 2 ≤ d + 1 + 1; omega) ⟨_, _, rfl, ⟨x0, rfl, h0⟩, _, _, rfl, ⟨x1, rfl, h1⟩, rfl⟩ hJ hW (fun f hf => by cases hf) rfl rfl
  exact ⟨z, e⟩
def ks200 : KT := ([.inr (false, 0, 255), .inr (false, 0, 255), .inr (false, 0, 255)], some (.inr (true, (-9223372036854775808), 9223372036854775807)), [], [], [], [], [], 3)
theorem ks200e : chkE JB [] [] ks200 2 200 = true := by decide +kernel
theorem ks200o {β : Nat} : KOK JB (W0 β) 200 ks200 := KOK_of W0_f (CT := []) (cuts := []) trivial ks200e (fun cu h => by cases h) rfl
theorem X_w3 {β d : Nat} {h : AH} (hJ : k_H JB h) (hW : W0 β h) (x0 x1 x2 : Int) (hx : (0 ≤ x0 ∧ x0 ≤ 255) ∧ (0 ≤ x1 ∧ x1 ≤ 255) ∧ (0 ≤ x2 ∧ x2 ≤ 255)) : ∃ z : Int, ∀ Q : Option AV → AH → Prop, XC (d + 3) 200 [vI x0, vI x1, vI x2] h Q = Q (some (vL z)) h := by
  obtain ⟨h0, h1, h2⟩ := hx
  obtain ⟨v, ⟨z, rfl, z1, z2⟩, e⟩ := X_pure (d := d + 2) (vs := [vI x0, vI x1, vI x2]) (ks200o (β := β)) (by show 3 ≤ d + 2 + 1; omega) ⟨_, _, rfl, ⟨x0, rfl, h0⟩, _, _, rfl, ⟨x1, rfl, h1⟩, _, _, rfl, ⟨x2, rfl, h2⟩, rfl⟩ hJ hW (fun f hf => by cases hf) rfl rfl
  exact ⟨z, e⟩
def ks201 : KT := ([.inr (false, 0, 255), .inr (false, 0, 255), .inr (false, 0, 255), .inr (false, 0, 255)], some (.inr (true, (-9223372036854775808), 9223372036854775807)), [], [], [], [], [], 4)
theorem ks201e : chkE JB [] [] ks201 3 201 = true := by decide +kernel
theorem ks201o {β : Nat} : KOK JB (W0 β) 201 ks201 := KOK_of W0_f (CT := []) (cuts := []) trivial ks201e (fun cu h => by cases h) rfl
theorem X_w4 {β d : Nat} {h : AH} (hJ : k_H JB h) (hW : W0 β h) (x0 x1 x2 x3 : Int) (hx : (0 ≤ x0 ∧ x0 ≤ 255) ∧ (0 ≤ x1 ∧ x1 ≤ 255) ∧ (0 ≤ x2 ∧ x2 ≤ 255) ∧ (0 ≤ x3 ∧ x3 ≤ 255)) : ∃ z : Int, ∀ Q : Option AV → AH → Prop, XC (d + 4) 201 [vI x0, vI x1, vI x2, vI x3] h Q = Q (some (vL z)) h := by
  obtain ⟨h0, h1, h2, h3⟩ := hx
  obtain ⟨v, ⟨z, rfl, z1, z2⟩, e⟩ := X_pure (d := d + 3) (vs := [vI x0, vI x1, vI x2, vI x3]) (ks201o (β := β)) (by show 4 ≤ d + 3 + 1; omega) ⟨_, _, rfl, ⟨x0, rfl, h0⟩, _, _, rfl, ⟨x1, rfl, h1⟩, _, _, rfl, ⟨x2, rfl, h2⟩, _, _, rfl, ⟨x3, rfl, h3⟩, rfl⟩ hJ hW (fun f hf => by cases hf) rfl rfl
  exact ⟨z, e⟩
def ks202 : KT := ([.inr (false, 0, 255), .inr (false, 0, 255), .inr (false, 0, 255), .inr (false, 0, 255), .inr (false, 0, 255)], some (.inr (true, (-9223372036854775808), 9223372036854775807)), [], [], [], [], [], 5)
theorem ks202e : chkE JB [] [] ks202 4 202 = true := by decide +kernel
theorem ks202o {β : Nat} : KOK JB (W0 β) 202 ks202 := KOK_of W0_f (CT := []) (cuts := []) trivial ks202e (fun cu h => by cases h) rfl
theorem X_w5 {β d : Nat} {h : AH} (hJ : k_H JB h) (hW : W0 β h) (x0 x1 x2 x3 x4 : Int) (hx : (0 ≤ x0 ∧ x0 ≤ 255) ∧ (0 ≤ x1 ∧ x1 ≤ 255) ∧ (0 ≤ x2 ∧ x2 ≤ 255) ∧ (0 ≤ x3 ∧ x3 ≤ 255) ∧ (0 ≤ x4 ∧ x4 ≤ 255)) : ∃ z : Int, ∀ Q : Option AV → AH → Prop, XC (d + 5) 202 [vI x0, vI x1, vI x2, vI x3, vI x4] h Q = Q (some (vL z)) h := by
  obtain ⟨h0, h1, h2, h3, h4⟩ := hx
  obtain ⟨v, ⟨z, rfl, z1, z2⟩, e⟩ := X_pure (d := d + 4) (vs := [vI x0, vI x1, vI x2, vI x3, vI x4]) (ks202o (β := β)) (by show 5 ≤ d + 4 + 1; omega) ⟨_, _, rfl, ⟨x0, rfl, h0⟩, _, _, rfl, ⟨x1, rfl, h1⟩, _, _, rfl, ⟨x2, rfl, h2⟩, _, _, rfl, ⟨x3, rfl, h3⟩, _, _, rfl, ⟨x4, rfl, h4⟩, rfl⟩ hJ hW (fun f hf => by cases hf) rfl rfl
  exact ⟨z, e⟩
def ks203 : KT := ([.inr (false, 0, 255), .inr (false, 0, 255), .inr (false, 0, 255), .inr (false, 0, 255), .inr (false, 0, 255), .inr (false, 0, 255)], some (.inr (true, (-9223372036854775808), 9223372036854775807)), [], [], [], [], [], 6)
theorem ks203e : chkE JB [] [] ks203 5 203 = true := by decide +kernel
theorem ks203o {β : Nat} : KOK JB (W0 β) 203 ks203 := KOK_of W0_f (CT := []) (cuts := []) trivial ks203e (fun cu h => by cases h) rfl
theorem X_w6 {β d : Nat} {h : AH} (hJ : k_H JB h) (hW : W0 β h) (x0 x1 x2 x3 x4 x5 : Int) (hx : (0 ≤ x0 ∧ x0 ≤ 255) ∧ (0 ≤ x1 ∧ x1 ≤ 255) ∧ (0 ≤ x2 ∧ x2 ≤ 255) ∧ (0 ≤ x3 ∧ x3 ≤ 255) ∧ (0 ≤ x4 ∧ x4 ≤ 255) ∧ (0 ≤ x5 ∧ x5 ≤ 255)) : ∃ z : Int, ∀ Q : Option AV → AH → Prop, XC (d + 6) 203 [vI x0, vI x1, vI x2, vI x3, vI x4, vI x5] h Q = Q (some (vL z)) h := by
  obtain ⟨h0, h1, h2, h3, h4, h5⟩ := hx
  obtain ⟨v, ⟨z, rfl, z1, z2⟩, e⟩ := X_pure (d := d + 5) (vs := [vI x0, vI x1, vI x2, vI x3, vI x4, vI x5]) (ks203o (β := β)) (by show 6 ≤ d + 5 + 1; omega) ⟨_, _, rfl, ⟨x0, rfl, h0⟩, _, _, rfl, ⟨x1, rfl, h1⟩, _, _, rfl, ⟨x2, rfl, h2⟩, _, _, rfl, ⟨x3, rfl, h3⟩, _, _, rfl, ⟨x4, rfl, h4⟩, _, _, rfl, ⟨x5, rfl, h5⟩, rfl⟩ hJ hW (fun f hf => by cases hf) rfl rfl
  exact ⟨z, e⟩
def WDj (h : AH) (tk : Int) (r : Option AV) (h' : AH) : Prop := h' = h ∧ ∃ z : Int, r = some (vI z) ∧ (z = 0 ∨ (z = 1 ∧ tk = 2))
theorem jf11 : jF2 76 11 (true, -9223372036854775808, 9223372036854775807) = true ∧ jF2 76 10 (false, 0, 999999) = true ∧ jF2 76 9 (false, 0, 255) = true := by refine ⟨?_, ?_, ?_⟩ <;> decide +kernel
set_option maxHeartbeats 1000000 in
theorem X_wd {d : Nat} {h : AH} {tk x : Int} (hJ : k_H JB h) (r4 : hV h 76 9 = vI tk) : ∃ z : Int, (z = 0 ∨ (z = 1 ∧ tk = 2)) ∧ ∀ Q : Option AV → AH → Prop, XC (d + 1) 204 [vR 76, vL x] h Q = Q (some (vI z)) h := by
  obtain ⟨-, k1, -⟩ := rdF hJ
  obtain ⟨wd, hwd, -⟩ : ∃ y, hV h 76 11 = vL y ∧ (-9223372036854775808 : Int) ≤ y ∧ y ≤ 9223372036854775807 := jF2_s hJ jf11.1
  have q1 : XC (d + 1) 204 [vR 76, vL x] h (WDj h tk) := by
    refine XC_of (Nat.le_of_ble_eq_true rfl) ?_
    show XP d 204 0 [some (vR 76), some (vL x), none] [] h _
    have y0 : WDj h tk (some (vI 0)) h := ⟨rfl, 0, rfl, Or.inl rfl⟩
    by_cases c1 : tk = 2
    · have y1 : WDj h tk (some (vI 1)) h := ⟨rfl, 1, rfl, Or.inr ⟨rfl, c1⟩⟩
      subst c1
      by_cases c2 : lcmp3 wd x = 0
      · refine xpk_sound (stops := []) (n := 30) ?_
        simp only [sk_0, sk_1, sk_2, sk_3, sk_4, sk_5, sk_6, sk_7, sk_8, sk_iadd, sk_isub, sk_imul, sk_iand, sk_ior, sk_ixor, sk_ishl, sk_ishr, sk_iushr, sk_idiv, sk_irem, sk_ineg, sk_ladd, sk_lsub, sk_lmul, sk_land, sk_lor, sk_ldiv, sk_lrem, sk_lneg, sk_lshl, sk_lshr, sk_i2l, sk_l2i, sk_lcmp, sk_dupI, sk_dupR, sk_dup2L, sk_dup2I, sk_popI, sk_ifeq, sk_ifne, sk_iflt, sk_ifge, sk_ifgt, sk_ifle, sk_iceq, sk_icne, sk_iclt, sk_icge, sk_icgt, sk_icle, sk_goto, sk_getf, sk_putf, sk_gets, sk_iald, sk_lald, sk_bald, sk_aald, sk_iast, sk_last, sk_bast, sk_aast, sk_alen, sk_newa, sk_newt, sk_new, sk_cs1, sk_cs2, sk_cs3, sk_cs4, sk_cs5, sk_cs6, sk_cv1, sk_cv2, sk_cv3, sk_cv4, sk_cv5, sk_cv6, sk_ci1, sk_ci2, sk_ci3, sk_ret0, sk_retI, sk_retL, sk_retR, sk_sw, sk_oin, sk_max, sk_min, sk_abs, lI_0, lI_s, lL_0, lL_s, lR_0, lR_s, vIo_e, vLo_e, vOo_e, stW_I, stW_L, stW_R, stW_0, stW_z, okSt_0, okSt_s, hV_eq, hK_eq, okF_0, okF_1, okF_3, is01_0, is01_1, is01_i, Int.toNat_natCast, Int.reduceEq, Int.reduceLE, Int.reduceLT, Int.reduceNeg, Nat.reduceLT, not_true_eq_false, not_false_eq_true, reduceIte, Option.toList, List.cons_append, List.nil_append, List.set_cons_zero, List.set_cons_succ, List.not_mem_nil, List.mem_cons, if_false, if_true, ite_true, ite_false, and_self, and_true, true_and, Nat.reduceAdd, Nat.reduceLeDiff, Nat.reduceEqDiff, Nat.zero_add, Nat.le_refl, Nat.zero_le, or_false, false_or, Int.reduceToNat, or_true, true_or, eq_self, and_false, false_and, inR_d, nc_4, nc_5, nc_6, nc_7, nc_8, nc_16, nc_18, nc_20, nc_24, nc_32, nc_40, nc_64, nc_104, nc_120, nc_160, nc_256, nc_300, nc_330, nc_390, nc_1200, nc_1260, nc_3012, nc_9834, okSt_1i, okSt_1r, okSt_1n, List.length_cons, List.length_nil, xpk_succ cd_204_0, xpk_succ cd_204_1, xpk_succ cd_204_4, xpk_succ cd_204_5, xpk_succ cd_204_8, xpk_succ cd_204_9, xpk_succ cd_204_12, xpk_succ cd_204_13, xpk_succ cd_204_14, xpk_succ cd_204_17, xpk_succ cd_204_18, xpk_succ cd_204_21, xpk_succ cd_204_22, k1, r4, hwd, c2]
        exact y1
      · refine xpk_sound (stops := []) (n := 30) ?_
        simp only [sk_0, sk_1, sk_2, sk_3, sk_4, sk_5, sk_6, sk_7, sk_8, sk_iadd, sk_isub, sk_imul, sk_iand, sk_ior, sk_ixor, sk_ishl, sk_ishr, sk_iushr, sk_idiv, sk_irem, sk_ineg, sk_ladd, sk_lsub, sk_lmul, sk_land, sk_lor, sk_ldiv, sk_lrem, sk_lneg, sk_lshl, sk_lshr, sk_i2l, sk_l2i, sk_lcmp, sk_dupI, sk_dupR, sk_dup2L, sk_dup2I, sk_popI, sk_ifeq, sk_ifne, sk_iflt, sk_ifge, sk_ifgt, sk_ifle, sk_iceq, sk_icne, sk_iclt, sk_icge, sk_icgt, sk_icle, sk_goto, sk_getf, sk_putf, sk_gets, sk_iald, sk_lald, sk_bald, sk_aald, sk_iast, sk_last, sk_bast, sk_aast, sk_alen, sk_newa, sk_newt, sk_new, sk_cs1, sk_cs2, sk_cs3, sk_cs4, sk_cs5, sk_cs6, sk_cv1, sk_cv2, sk_cv3, sk_cv4, sk_cv5, sk_cv6, sk_ci1, sk_ci2, sk_ci3, sk_ret0, sk_retI, sk_retL, sk_retR, sk_sw, sk_oin, sk_max, sk_min, sk_abs, lI_0, lI_s, lL_0, lL_s, lR_0, lR_s, vIo_e, vLo_e, vOo_e, stW_I, stW_L, stW_R, stW_0, stW_z, okSt_0, okSt_s, hV_eq, hK_eq, okF_0, okF_1, okF_3, is01_0, is01_1, is01_i, Int.toNat_natCast, Int.reduceEq, Int.reduceLE, Int.reduceLT, Int.reduceNeg, Nat.reduceLT, not_true_eq_false, not_false_eq_true, reduceIte, Option.toList, List.cons_append, List.nil_append, List.set_cons_zero, List.set_cons_succ, List.not_mem_nil, List.mem_cons, if_false, if_true, ite_true, ite_false, and_self, and_true, true_and, Nat.reduceAdd, Nat.reduceLeDiff, Nat.reduceEqDiff, Nat.zero_add, Nat.le_refl, Nat.zero_le, or_false, false_or, Int.reduceToNat, or_true, true_or, eq_self, and_false, false_and, inR_d, nc_4, nc_5, nc_6, nc_7, nc_8, nc_16, nc_18, nc_20, nc_24, nc_32, nc_40, nc_64, nc_104, nc_120, nc_160, nc_256, nc_300, nc_330, nc_390, nc_1200, nc_1260, nc_3012, nc_9834, okSt_1i, okSt_1r, okSt_1n, List.length_cons, List.length_nil, xpk_succ cd_204_0, xpk_succ cd_204_1, xpk_succ cd_204_4, xpk_succ cd_204_5, xpk_succ cd_204_8, xpk_succ cd_204_9, xpk_succ cd_204_12, xpk_succ cd_204_13, xpk_succ cd_204_14, xpk_succ cd_204_17, xpk_succ cd_204_18, xpk_succ cd_204_21, xpk_succ cd_204_22, k1, r4, hwd, c2]
        exact y0
    · refine xpk_sound (stops := []) (n := 30) ?_
      simp only [sk_0, sk_1, sk_2, sk_3, sk_4, sk_5, sk_6, sk_7, sk_8, sk_iadd, sk_isub, sk_imul, sk_iand, sk_ior, sk_ixor, sk_ishl, sk_ishr, sk_iushr, sk_idiv, sk_irem, sk_ineg, sk_ladd, sk_lsub, sk_lmul, sk_land, sk_lor, sk_ldiv, sk_lrem, sk_lneg, sk_lshl, sk_lshr, sk_i2l, sk_l2i, sk_lcmp, sk_dupI, sk_dupR, sk_dup2L, sk_dup2I, sk_popI, sk_ifeq, sk_ifne, sk_iflt, sk_ifge, sk_ifgt, sk_ifle, sk_iceq, sk_icne, sk_iclt, sk_icge, sk_icgt, sk_icle, sk_goto, sk_getf, sk_putf, sk_gets, sk_iald, sk_lald, sk_bald, sk_aald, sk_iast, sk_last, sk_bast, sk_aast, sk_alen, sk_newa, sk_newt, sk_new, sk_cs1, sk_cs2, sk_cs3, sk_cs4, sk_cs5, sk_cs6, sk_cv1, sk_cv2, sk_cv3, sk_cv4, sk_cv5, sk_cv6, sk_ci1, sk_ci2, sk_ci3, sk_ret0, sk_retI, sk_retL, sk_retR, sk_sw, sk_oin, sk_max, sk_min, sk_abs, lI_0, lI_s, lL_0, lL_s, lR_0, lR_s, vIo_e, vLo_e, vOo_e, stW_I, stW_L, stW_R, stW_0, stW_z, okSt_0, okSt_s, hV_eq, hK_eq, okF_0, okF_1, okF_3, is01_0, is01_1, is01_i, Int.toNat_natCast, Int.reduceEq, Int.reduceLE, Int.reduceLT, Int.reduceNeg, Nat.reduceLT, not_true_eq_false, not_false_eq_true, reduceIte, Option.toList, List.cons_append, List.nil_append, List.set_cons_zero, List.set_cons_succ, List.not_mem_nil, List.mem_cons, if_false, if_true, ite_true, ite_false, and_self, and_true, true_and, Nat.reduceAdd, Nat.reduceLeDiff, Nat.reduceEqDiff, Nat.zero_add, Nat.le_refl, Nat.zero_le, or_false, false_or, Int.reduceToNat, or_true, true_or, eq_self, and_false, false_and, inR_d, nc_4, nc_5, nc_6, nc_7, nc_8, nc_16, nc_18, nc_20, nc_24, nc_32, nc_40, nc_64, nc_104, nc_120, nc_160, nc_256, nc_300, nc_330, nc_390, nc_1200, nc_1260, nc_3012, nc_9834, okSt_1i, okSt_1r, okSt_1n, List.length_cons, List.length_nil, xpk_succ cd_204_0, xpk_succ cd_204_1, xpk_succ cd_204_4, xpk_succ cd_204_5, xpk_succ cd_204_8, xpk_succ cd_204_9, xpk_succ cd_204_12, xpk_succ cd_204_13, xpk_succ cd_204_14, xpk_succ cd_204_17, xpk_succ cd_204_18, xpk_succ cd_204_21, xpk_succ cd_204_22, k1, r4, c1]
      exact y0
  obtain ⟨r, h', ⟨rfl, z, rfl, hz⟩, e⟩ := XC_dt q1
  exact ⟨z, hz, e⟩
def ks206 : KT := ([.inl (.inr (.inr (some 76)))], some (.inr (false, (-1), 7)), [], [], [], [], [], 7)
theorem ks206e : chkE JB [] [] ks206 6 206 = true := by decide +kernel
theorem ks206o {β : Nat} : KOK JB (W0 β) 206 ks206 := KOK_of W0_f (CT := []) (cuts := []) trivial ks206e (fun cu h => by cases h) rfl
def ks207 : KT := ([.inl (.inr (.inr (some 76))), .inr (false, 0, 7)], some (.inr (false, 0, 1)), [], [], [], [], [], 1)
theorem ks207e : chkE JB [] [] ks207 0 207 = true := by decide +kernel
theorem ks207o {β : Nat} : KOK JB (W0 β) 207 ks207 := KOK_of W0_f (CT := []) (cuts := []) trivial ks207e (fun cu h => by cases h) rfl
theorem X_nm {β d : Nat} {h : AH} {tk : Int} (hJ : k_H JB h) (hW : W0 β h) (r4 : hV h 76 9 = vI tk) : ∃ z : Int, (-1 ≤ z ∧ z ≤ 7) ∧ (0 ≤ z → tk = 2) ∧ ∀ Q : Option AV → AH → Prop, XC (d + 7) 206 [vR 76] h Q = Q (some (vI z)) h := by
  by_cases c1 : tk = 2
  · obtain ⟨v, ⟨z, rfl, z1, z2⟩, e⟩ := X_pure (d := d + 6) (vs := [vR 76]) (ks206o (β := β)) (by show 7 ≤ d + 6 + 1; omega) ⟨_, _, rfl, rfl, rfl⟩ hJ hW (fun f hf => by cases hf) rfl rfl
    exact ⟨z, ⟨z1, z2⟩, fun _ => c1, e⟩
  · obtain ⟨-, k1, -⟩ := rdF hJ
    have q1 : XC (d + 7) 206 [vR 76] h (EQd h (-1)) := by
      refine XC_of (Nat.le_of_ble_eq_true rfl) ?_
      show XP (d + 6) 206 0 [some (vR 76)] [] h _
      have y : EQd h (-1) (some (vI (-1))) h := ⟨rfl, rfl⟩
      refine xpk_sound (stops := []) (n := 20) ?_
      simp only [sk_0, sk_1, sk_2, sk_3, sk_4, sk_5, sk_6, sk_7, sk_8, sk_iadd, sk_isub, sk_imul, sk_iand, sk_ior, sk_ixor, sk_ishl, sk_ishr, sk_iushr, sk_idiv, sk_irem, sk_ineg, sk_ladd, sk_lsub, sk_lmul, sk_land, sk_lor, sk_ldiv, sk_lrem, sk_lneg, sk_lshl, sk_lshr, sk_i2l, sk_l2i, sk_lcmp, sk_dupI, sk_dupR, sk_dup2L, sk_dup2I, sk_popI, sk_ifeq, sk_ifne, sk_iflt, sk_ifge, sk_ifgt, sk_ifle, sk_iceq, sk_icne, sk_iclt, sk_icge, sk_icgt, sk_icle, sk_goto, sk_getf, sk_putf, sk_gets, sk_iald, sk_lald, sk_bald, sk_aald, sk_iast, sk_last, sk_bast, sk_aast, sk_alen, sk_newa, sk_newt, sk_new, sk_cs1, sk_cs2, sk_cs3, sk_cs4, sk_cs5, sk_cs6, sk_cv1, sk_cv2, sk_cv3, sk_cv4, sk_cv5, sk_cv6, sk_ci1, sk_ci2, sk_ci3, sk_ret0, sk_retI, sk_retL, sk_retR, sk_sw, sk_oin, sk_max, sk_min, sk_abs, lI_0, lI_s, lL_0, lL_s, lR_0, lR_s, vIo_e, vLo_e, vOo_e, stW_I, stW_L, stW_R, stW_0, stW_z, okSt_0, okSt_s, hV_eq, hK_eq, okF_0, okF_1, okF_3, is01_0, is01_1, is01_i, Int.toNat_natCast, Int.reduceEq, Int.reduceLE, Int.reduceLT, Int.reduceNeg, Nat.reduceLT, not_true_eq_false, not_false_eq_true, reduceIte, Option.toList, List.cons_append, List.nil_append, List.set_cons_zero, List.set_cons_succ, List.not_mem_nil, List.mem_cons, if_false, if_true, ite_true, ite_false, and_self, and_true, true_and, Nat.reduceAdd, Nat.reduceLeDiff, Nat.reduceEqDiff, Nat.zero_add, Nat.le_refl, Nat.zero_le, or_false, false_or, Int.reduceToNat, or_true, true_or, eq_self, and_false, false_and, inR_d, nc_4, nc_5, nc_6, nc_7, nc_8, nc_16, nc_18, nc_20, nc_24, nc_32, nc_40, nc_64, nc_104, nc_120, nc_160, nc_256, nc_300, nc_330, nc_390, nc_1200, nc_1260, nc_3012, nc_9834, okSt_1i, okSt_1r, okSt_1n, List.length_cons, List.length_nil, xpk_succ cd_206_0, xpk_succ cd_206_1, xpk_succ cd_206_4, xpk_succ cd_206_5, xpk_succ cd_206_8, xpk_succ cd_206_9, xpk_succ cd_206_10, xpk_succ cd_206_11, k1, r4, c1]
      exact y
    obtain ⟨r, h', ⟨rfl, rfl⟩, e⟩ := XC_dt q1
    exact ⟨-1, by decide, fun z => absurd z (by decide), e⟩
theorem X_of {β d : Nat} {h : AH} {x : Int} (hJ : k_H JB h) (hW : W0 β h) (hx : 0 ≤ x ∧ x ≤ 7) : ∃ z : Int, (z = 0 ∨ z = 1) ∧ ∀ Q : Option AV → AH → Prop, XC (d + 1) 207 [vR 76, vI x] h Q = Q (some (vI z)) h := by
  obtain ⟨v, ⟨z, rfl, z1, z2⟩, e⟩ := X_pure (d := d) (vs := [vR 76, vI x]) (ks207o (β := β)) (by show 1 ≤ d + 1; omega) ⟨_, _, rfl, rfl, _, _, rfl, ⟨x, rfl, hx⟩, rfl⟩ hJ hW (fun f hf => by cases hf) rfl rfl
  have z1 : (0 : Int) ≤ z := z1
  have z2 : z ≤ 1 := z2
  exact ⟨z, by omega, e⟩
/-! the state between two tokens -/
def tz (tk : Int) : Nat := if tk = 0 then 0 else 1
theorem tz_0 {tk : Int} (h : tk = 0) : tz tk = 0 := if_pos h
theorem tz_1 {tk : Int} (h : tk ≠ 0) : tz tk = 1 := if_neg h
def qwh (wh : Int) (L : List Int) : Nat × Nat := if wh = 1 then qkd L false else (hvl L, htl L)
def SI (β J n c : Nat) (h0 hb : AH) (μ : Nat) (wh : Int) (h : AH) : Prop := ∃ w a tk L m, PS β J n c h0 hb h w a tk L (opl L) wh (qwh wh L) ∧ mdl L = some m ∧ chn L ∧ opl L ≤ 8 ∧ w + L.length + tz tk ≤ a ∧ a ≤ 300 ∧ 2 * (301 - a) + tz tk = μ
theorem mu_d {a a' : Nat} {tk tk' : Int} (h1 : tk ≠ 0) (h2 : a ≤ a') (h3 : tk' ≠ 0 → a < a') (h4 : a' ≤ 300) : 2 * (301 - a') + tz tk' < 2 * (301 - a) + tz tk := by
  rw [tz_1 h1]
  by_cases z : tk' = 0
  · rw [tz_0 z]; omega
  · have := h3 z; rw [tz_1 z]; omega
theorem bd_d {a a' s : Nat} {tk' : Int} (h1 : s ≤ a) (h2 : a ≤ a') (h3 : tk' ≠ 0 → a < a') : s + tz tk' ≤ a' := by
  by_cases z : tk' = 0
  · rw [tz_0 z]; omega
  · have := h3 z; rw [tz_1 z]; omega
theorem len_71 {L : List Int} (h : chn L) (h2 : opl L ≤ 8) : L.length ≤ 71 := by
  have h1 := len_b L h
  have h3 := rkt_b L
  omega
theorem stl_c {least : Int} : ∀ L : List Int, chn L → chn (stl least L) ∧ opl (stl least L) ≤ opl L ∧ (stl least L).length ≤ L.length := by
  intro L
  induction L with
  | nil => intro h; exact ⟨h, Nat.le_refl _, Nat.le_refl _⟩
  | cons o L ih =>
    intro h
    by_cases z : least ≤ rk o
    · have e : stl least (o :: L) = stl least L := if_pos z
      rw [e]
      obtain ⟨h1, h2, h3⟩ := ih h.1
      have e2 : opl (o :: L) = opo o + opl L := rfl
      exact ⟨h1, by omega, Nat.le_succ_of_le h3⟩
    · have e : stl least (o :: L) = o :: L := if_neg z
      rw [e]; exact ⟨h, Nat.le_refl _, Nat.le_refl _⟩
theorem stl_r {least : Int} (h1 : 1 ≤ least) : ∀ L : List Int, rkt (stl least L) < least := by
  intro L
  induction L with
  | nil => exact h1
  | cons o L ih =>
    by_cases z : least ≤ rk o
    · have e : stl least (o :: L) = stl least L := if_pos z
      rw [e]; exact ih
    · have e : stl least (o :: L) = o :: L := if_neg z
      rw [e]; show rk o < least; omega
/-- one of the law's ones is written -/
def ONd (β J n c : Nat) (h0 hb : AH) (s a : Nat) (r : Option AV) (h' : AH) : Prop := r = none ∧ ∃ w' a' tk' L' m', PS β J n c h0 hb h' w' a' tk' L' (opl L') 1 (qkd L' false) ∧ mdl L' = some m' ∧ chn L' ∧ opl L' ≤ 8 ∧ w' + L'.length = s ∧ a ≤ a' ∧ a' ≤ 300 ∧ (tk' ≠ 0 → a < a')
set_option maxHeartbeats 1000000 in
theorem X_one {β J n c d w a m : Nat} {h0 hb h : AH} {tk wh o v : Int} {L : List Int} (hJ : J < 4) (hn : n < 24) (hs : PS β J n c h0 hb h w a tk L (opl L) wh (hvl L, htl L)) (hm : mdl L = some m) (hc : chn L) (ho : opl L ≤ 8) (hw : w + L.length + 1 ≤ a) (ha : a ≤ 300) (o1 : 0 ≤ o ∧ o ≤ 2) (hv : -2147483648 ≤ v ∧ v ≤ 2147483647) (hk : argK o v) : XC (d + 3) 215 [vR 76, vI o, vI v] h (ONd β J n c h0 hb (w + 1 + L.length) a) := by
  obtain ⟨⟨s1, ⟨r1, r2, r3, r4, r5, r6, r7⟩, s3⟩, s4⟩ := id hs
  obtain ⟨-, k1, -⟩ := rdF s1.1
  have E1 := fun Q => X_em (d := d + 1) (o := o) (v := v) s1.1 hJ (show w ≤ 303 by omega) r1 r2 Q
  have t1 := PS_em hs hJ hn (show w ≤ 303 by omega) (by omega) hv (dst_pu (V := hvl L) (T := htl L) o1.1 o1.2) hk
  obtain ⟨⟨u1, ⟨-, -, v3, -⟩, -⟩, -⟩ := id t1
  obtain ⟨-, l1, -⟩ := rdF u1.1
  obtain ⟨r, h2, ⟨rfl, n1, a', tk', n2, n3, n4, n5, n6, n7, n8⟩, E2⟩ := XC_dt (X_nt (d := d) u1.1 u1.2.1.2 v3 ha)
  have t2 := PS_18 (wh' := 1) (PS_nt t1 n1 n2 n3) (by decide)
  obtain ⟨-, j1, -⟩ := rdF n1.1
  obtain ⟨r, h3, ⟨rfl, w', m', tr', p1, p2, p3, p4⟩, E3⟩ := XC_dt (X_st (d := d) (least := 7) (m0 := 0) hJ hn (by decide) (show PS β J n c h0 hb _ (w + 1) a' tk' L (opl L) 1 (qkd L false) from t2) hm (Or.inl ⟨by decide, rfl⟩) ho (by omega))
  have etr : tr' = false := by
    rcases p3 with ⟨-, q⟩ | ⟨q, -⟩ | ⟨q, -⟩ | ⟨q, -⟩
    · exact q
    · exact absurd q (by decide)
    · exact absurd q (by decide)
    · exact absurd q (by decide)
  subst etr
  obtain ⟨q1, q2, q3⟩ := stl_c (least := 7) L hc
  have y : ONd β J n c h0 hb (w + 1 + L.length) a none h3 := ⟨rfl, w', a', tk', stl 7 L, m', p1, p2, q1, by omega, p4, n4, n5, n6⟩
  refine XC_of (Nat.le_of_ble_eq_true rfl) ?_
  show XP (d + 2) 215 0 [some (vR 76), some (vI o), some (vI v)] [] h _
  refine xpk_sound (stops := []) (n := 30) ?_
  simp only [sk_0, sk_1, sk_2, sk_3, sk_4, sk_5, sk_6, sk_7, sk_8, sk_iadd, sk_isub, sk_imul, sk_iand, sk_ior, sk_ixor, sk_ishl, sk_ishr, sk_iushr, sk_idiv, sk_irem, sk_ineg, sk_ladd, sk_lsub, sk_lmul, sk_land, sk_lor, sk_ldiv, sk_lrem, sk_lneg, sk_lshl, sk_lshr, sk_i2l, sk_l2i, sk_lcmp, sk_dupI, sk_dupR, sk_dup2L, sk_dup2I, sk_popI, sk_ifeq, sk_ifne, sk_iflt, sk_ifge, sk_ifgt, sk_ifle, sk_iceq, sk_icne, sk_iclt, sk_icge, sk_icgt, sk_icle, sk_goto, sk_getf, sk_putf, sk_gets, sk_iald, sk_lald, sk_bald, sk_aald, sk_iast, sk_last, sk_bast, sk_aast, sk_alen, sk_newa, sk_newt, sk_new, sk_cs1, sk_cs2, sk_cs3, sk_cs4, sk_cs5, sk_cs6, sk_cv1, sk_cv2, sk_cv3, sk_cv4, sk_cv5, sk_cv6, sk_ci1, sk_ci2, sk_ci3, sk_ret0, sk_retI, sk_retL, sk_retR, sk_sw, sk_oin, sk_max, sk_min, sk_abs, lI_0, lI_s, lL_0, lL_s, lR_0, lR_s, vIo_e, vLo_e, vOo_e, stW_I, stW_L, stW_R, stW_0, stW_z, okSt_0, okSt_s, hV_eq, hK_eq, okF_0, okF_1, okF_3, is01_0, is01_1, is01_i, Int.toNat_natCast, Int.reduceEq, Int.reduceLE, Int.reduceLT, Int.reduceNeg, Nat.reduceLT, not_true_eq_false, not_false_eq_true, reduceIte, Option.toList, List.cons_append, List.nil_append, List.set_cons_zero, List.set_cons_succ, List.not_mem_nil, List.mem_cons, if_false, if_true, ite_true, ite_false, and_self, and_true, true_and, Nat.reduceAdd, Nat.reduceLeDiff, Nat.reduceEqDiff, Nat.zero_add, Nat.le_refl, Nat.zero_le, or_false, false_or, Int.reduceToNat, or_true, true_or, eq_self, and_false, false_and, inR_d, nc_4, nc_5, nc_6, nc_7, nc_8, nc_16, nc_18, nc_20, nc_24, nc_32, nc_40, nc_64, nc_104, nc_120, nc_160, nc_256, nc_300, nc_330, nc_390, nc_1200, nc_1260, nc_3012, nc_9834, okSt_1i, okSt_1r, okSt_1n, List.length_cons, List.length_nil, xpk_succ cd_215_0, xpk_succ cd_215_1, xpk_succ cd_215_2, xpk_succ cd_215_3, xpk_succ cd_215_6, xpk_succ cd_215_7, xpk_succ cd_215_10, xpk_succ cd_215_11, xpk_succ cd_215_12, xpk_succ cd_215_15, xpk_succ cd_215_16, xpk_succ cd_215_18, xpk_succ cd_215_21, k1, l1, j1, E1, E2, E3]
  exact y
/-- a bracket, a sign, an if is opened -/
def OPd (β J n c : Nat) (h0 hb h : AH) (μ : Nat) (r : Option AV) (h' : AH) : Prop := (r = some (vI 3) ∧ h' = h) ∨ (r = some (vI 0) ∧ ∃ μ', μ' < μ ∧ SI β J n c h0 hb μ' 0 h')
theorem PS_pu {β J n c : Nat} {h0 hb h : AH} {w a : Nat} {tk : Int} {L : List Int} {op : Nat} {wh : Int} {q : Nat × Nat} {o : Int} (hs : PS β J n c h0 hb h w a tk L op wh q) (hl : L.length < 160) (ho : 0 ≤ o ∧ o ≤ 43) : PS β J n c h0 hb (hSet (hSet h 81 L.length (vI o)) 76 16 (vI ((L.length + 1 : Nat) : Int))) w a tk (o :: L) op wh q := by
  obtain ⟨⟨s1, ⟨r1, r2, r3, r4, r5, r6, r7⟩, s3⟩, ⟨s4, s5⟩, s6, s7⟩ := hs
  have e : ∀ j, hV (hSet h 81 L.length (vI o)) 79 j = hV h 79 j := fun j => by rw [hV_eq, if_neg (fun y => absurd y.1 (by decide))]
  have f : ∀ j, hV (hSet h 81 L.length (vI o)) 76 j = hV h 76 j := fun j => by rw [hV_eq, if_neg (fun y => absurd y.1 (by decide))]
  have u1 := ST_p (i := L.length) s1 (by omega) ho
  have t1 : PS β J n c h0 hb (hSet h 81 L.length (vI o)) w a tk L op wh q := by
    refine ⟨⟨u1, ⟨by rw [f]; exact r1, by rw [f]; exact r2, by rw [f]; exact r3, by rw [f]; exact r4, by rw [f]; exact r5, by rw [f]; exact r6, by rw [f]; exact r7⟩, PLs_f L (fun j hj => f_set (by omega)) s3⟩, ⟨by rw [e]; exact s4, fun j hj => by rw [e]; exact s5 j hj⟩, ?_, ?_⟩
    · rw [gT_e e]; exact s6
    · rw [gT_e e]; exact s7
  obtain ⟨⟨-, ⟨x1, x2, x3, x4, x5, x6, x7⟩, y3⟩, -⟩ := id t1
  exact PS_76 (L' := o :: L) t1 (ST_f u1 (by decide) (by decide) jr76.2.2.2.2.2.2.2.2.1 ⟨_, rfl, Int.natCast_nonneg _, by show ((L.length + 1 : Nat) : Int) ≤ 160; omega⟩) ⟨(f_set (by decide)).trans x1, (f_set (by decide)).trans x2, (f_set (by decide)).trans x3, (f_set (by decide)).trans x4, f_at, (f_set (by decide)).trans x6, (f_set (by decide)).trans x7⟩ ⟨f_at, y3⟩
theorem op_n {k l : Nat} (h : k ≤ 8) (h2 : l ≤ 71) : w32 ((k : Int) + 1) = ((k + 1 : Nat) : Int) ∧ w32 ((l : Int) + 1) = ((l + 1 : Nat) : Int) ∧ ((0 : Int) ≤ (l : Int) ∧ (l : Int) < 160) := by unfold w32; omega
theorem op_8 {k : Nat} (h : k ≠ 8) : ¬ (k : Int) = 8 := by omega
set_option maxHeartbeats 1000000 in
theorem X_op {β J n c d w a m m' : Nat} {h0 hb h : AH} {tk o : Int} {L : List Int} (hs : PS β J n c h0 hb h w a tk L (opl L) 0 (hvl L, htl L)) (hm : mdl L = some m) (hc : chn L) (ho : opl L ≤ 8) (ht : tk ≠ 0) (hw : w + L.length + 1 ≤ a) (ha : a ≤ 300) (o1 : o = 40 ∨ o = 41 ∨ o = 4 ∨ o = 5 ∨ o = 20) (h2 : mdo o m = some m') : XC (d + 3) 214 [vR 76, vI o] h (OPd β J n c h0 hb h (2 * (301 - a) + tz tk)) := by
  obtain ⟨⟨s1, ⟨r1, r2, r3, r4, r5, r6, r7⟩, s3⟩, s4⟩ := id hs
  obtain ⟨⟨o2, o3, o4, o5⟩, k1, k2, k3, k4, k5⟩ := rdF s1.1
  have hl := len_71 hc ho
  refine XC_of (Nat.le_of_ble_eq_true rfl) ?_
  show XP (d + 2) 214 0 [some (vR 76), some (vI o)] [] h _
  by_cases c8 : opl L = 8
  · have y : OPd β J n c h0 hb h (2 * (301 - a) + tz tk) (some (vI 3)) h := Or.inl ⟨rfl, rfl⟩
    rw [c8] at r6
    have r6 : hV h 76 17 = vI 8 := r6
    refine xpk_sound (stops := []) (n := 30) ?_
    simp only [sk_0, sk_1, sk_2, sk_3, sk_4, sk_5, sk_6, sk_7, sk_8, sk_iadd, sk_isub, sk_imul, sk_iand, sk_ior, sk_ixor, sk_ishl, sk_ishr, sk_iushr, sk_idiv, sk_irem, sk_ineg, sk_ladd, sk_lsub, sk_lmul, sk_land, sk_lor, sk_ldiv, sk_lrem, sk_lneg, sk_lshl, sk_lshr, sk_i2l, sk_l2i, sk_lcmp, sk_dupI, sk_dupR, sk_dup2L, sk_dup2I, sk_popI, sk_ifeq, sk_ifne, sk_iflt, sk_ifge, sk_ifgt, sk_ifle, sk_iceq, sk_icne, sk_iclt, sk_icge, sk_icgt, sk_icle, sk_goto, sk_getf, sk_putf, sk_gets, sk_iald, sk_lald, sk_bald, sk_aald, sk_iast, sk_last, sk_bast, sk_aast, sk_alen, sk_newa, sk_newt, sk_new, sk_cs1, sk_cs2, sk_cs3, sk_cs4, sk_cs5, sk_cs6, sk_cv1, sk_cv2, sk_cv3, sk_cv4, sk_cv5, sk_cv6, sk_ci1, sk_ci2, sk_ci3, sk_ret0, sk_retI, sk_retL, sk_retR, sk_sw, sk_oin, sk_max, sk_min, sk_abs, lI_0, lI_s, lL_0, lL_s, lR_0, lR_s, vIo_e, vLo_e, vOo_e, stW_I, stW_L, stW_R, stW_0, stW_z, okSt_0, okSt_s, hV_eq, hK_eq, okF_0, okF_1, okF_3, is01_0, is01_1, is01_i, Int.toNat_natCast, Int.reduceEq, Int.reduceLE, Int.reduceLT, Int.reduceNeg, Nat.reduceLT, not_true_eq_false, not_false_eq_true, reduceIte, Option.toList, List.cons_append, List.nil_append, List.set_cons_zero, List.set_cons_succ, List.not_mem_nil, List.mem_cons, if_false, if_true, ite_true, ite_false, and_self, and_true, true_and, Nat.reduceAdd, Nat.reduceLeDiff, Nat.reduceEqDiff, Nat.zero_add, Nat.le_refl, Nat.zero_le, or_false, false_or, Int.reduceToNat, or_true, true_or, eq_self, and_false, false_and, inR_d, nc_4, nc_5, nc_6, nc_7, nc_8, nc_16, nc_18, nc_20, nc_24, nc_32, nc_40, nc_64, nc_104, nc_120, nc_160, nc_256, nc_300, nc_330, nc_390, nc_1200, nc_1260, nc_3012, nc_9834, okSt_1i, okSt_1r, okSt_1n, List.length_cons, List.length_nil, xpk_succ cd_214_0, xpk_succ cd_214_1, xpk_succ cd_214_4, xpk_succ cd_214_6, xpk_succ cd_214_9, xpk_succ cd_214_10, xpk_succ cd_214_11, k1, r6]
    exact y
  · have c9 := op_8 c8
    obtain ⟨a1, a2, b1⟩ := op_n (k := opl L) (l := L.length) ho hl
    have t1 := PS_17 (op' := opl L + 1) hs (by omega)
    have t2 := PS_pu (o := o) t1 (by omega) (by omega)
    obtain ⟨⟨u1, ⟨-, -, v3, -⟩, -⟩, -⟩ := id t2
    obtain ⟨-, l1, -⟩ := rdF u1.1
    obtain ⟨r, h3, ⟨rfl, n1, a', tk', n2, n3, n4, n5, n6, n7, n8⟩, E2⟩ := XC_dt (X_nt (d := d) u1.1 u1.2.1.2 v3 ha)
    have t3 := PS_nt t2 n1 n2 n3
    have e1 : opl (o :: L) = opl L + 1 := by show opo o + opl L = _; rw [opo_1 (by omega)]; omega
    have e2 : (hvl (o :: L), htl (o :: L)) = (hvl L, htl L) := by
      show (hvo o + hvl L, hto o + htl L) = _
      rw [hvo_0 (by omega) (by omega), hto_0 (by omega), Nat.zero_add, Nat.zero_add]
    rw [← e1, ← e2] at t3
    have lw : (o :: L).length = L.length + 1 := rfl
    have y : OPd β J n c h0 hb h (2 * (301 - a) + tz tk) (some (vI 0)) h3 := Or.inr ⟨rfl, _, mu_d ht n4 n6 n5, w, a', tk', o :: L, m', t3, mdl_p hm h2, ⟨hc, Or.inl (opo_1 (by omega))⟩, by omega, bd_d (by omega) n4 n6, n5, rfl⟩
    refine xpk_sound (stops := []) (n := 40) ?_
    simp only [sk_0, sk_1, sk_2, sk_3, sk_4, sk_5, sk_6, sk_7, sk_8, sk_iadd, sk_isub, sk_imul, sk_iand, sk_ior, sk_ixor, sk_ishl, sk_ishr, sk_iushr, sk_idiv, sk_irem, sk_ineg, sk_ladd, sk_lsub, sk_lmul, sk_land, sk_lor, sk_ldiv, sk_lrem, sk_lneg, sk_lshl, sk_lshr, sk_i2l, sk_l2i, sk_lcmp, sk_dupI, sk_dupR, sk_dup2L, sk_dup2I, sk_popI, sk_ifeq, sk_ifne, sk_iflt, sk_ifge, sk_ifgt, sk_ifle, sk_iceq, sk_icne, sk_iclt, sk_icge, sk_icgt, sk_icle, sk_goto, sk_getf, sk_putf, sk_gets, sk_iald, sk_lald, sk_bald, sk_aald, sk_iast, sk_last, sk_bast, sk_aast, sk_alen, sk_newa, sk_newt, sk_new, sk_cs1, sk_cs2, sk_cs3, sk_cs4, sk_cs5, sk_cs6, sk_cv1, sk_cv2, sk_cv3, sk_cv4, sk_cv5, sk_cv6, sk_ci1, sk_ci2, sk_ci3, sk_ret0, sk_retI, sk_retL, sk_retR, sk_sw, sk_oin, sk_max, sk_min, sk_abs, lI_0, lI_s, lL_0, lL_s, lR_0, lR_s, vIo_e, vLo_e, vOo_e, stW_I, stW_L, stW_R, stW_0, stW_z, okSt_0, okSt_s, hV_eq, hK_eq, okF_0, okF_1, okF_3, is01_0, is01_1, is01_i, Int.toNat_natCast, Int.reduceEq, Int.reduceLE, Int.reduceLT, Int.reduceNeg, Nat.reduceLT, not_true_eq_false, not_false_eq_true, reduceIte, Option.toList, List.cons_append, List.nil_append, List.set_cons_zero, List.set_cons_succ, List.not_mem_nil, List.mem_cons, if_false, if_true, ite_true, ite_false, and_self, and_true, true_and, Nat.reduceAdd, Nat.reduceLeDiff, Nat.reduceEqDiff, Nat.zero_add, Nat.le_refl, Nat.zero_le, or_false, false_or, Int.reduceToNat, or_true, true_or, eq_self, and_false, false_and, inR_d, nc_4, nc_5, nc_6, nc_7, nc_8, nc_16, nc_18, nc_20, nc_24, nc_32, nc_40, nc_64, nc_104, nc_120, nc_160, nc_256, nc_300, nc_330, nc_390, nc_1200, nc_1260, nc_3012, nc_9834, okSt_1i, okSt_1r, okSt_1n, List.length_cons, List.length_nil, xpk_succ cd_214_0, xpk_succ cd_214_1, xpk_succ cd_214_4, xpk_succ cd_214_6, xpk_succ cd_214_9, xpk_succ cd_214_10, xpk_succ cd_214_11, xpk_succ cd_214_12, xpk_succ cd_214_13, xpk_succ cd_214_16, xpk_succ cd_214_17, xpk_succ cd_214_18, xpk_succ cd_214_21, xpk_succ cd_214_22, xpk_succ cd_214_25, xpk_succ cd_214_26, xpk_succ cd_214_29, xpk_succ cd_214_30, xpk_succ cd_214_31, xpk_succ cd_214_32, xpk_succ cd_214_33, xpk_succ cd_214_36, xpk_succ cd_214_37, xpk_succ cd_214_38, xpk_succ cd_214_41, xpk_succ cd_214_42, xpk_succ cd_214_45, xpk_succ cd_214_46, k1, k4, o4, r5, r6, c9, a1, a2, b1, l1, E2]
    exact y
