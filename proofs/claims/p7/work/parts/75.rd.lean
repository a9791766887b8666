set_option maxRecDepth 20000 in
theorem ac_68 : allC[68]? = some cl68 := rfl
theorem cd_68_0 : cd 68 0 = some (4, 1, 0, 0, 0, []) := cd_row ac_68 rfl
theorem cd_68_1 : cd 68 1 = some (46, 4, 69, 1, 4, []) := cd_row ac_68 rfl
theorem cd_68_4 : cd 68 4 = some (0, 5, 0, 0, 0, []) := cd_row ac_68 rfl
theorem cd_68_5 : cd 68 5 = some (5, 6, 1, 0, 0, []) := cd_row ac_68 rfl
theorem cd_68_6 : cd 68 6 = some (2, 7, 1, 0, 0, []) := cd_row ac_68 rfl
theorem cd_68_7 : cd 68 7 = some (0, 10, 0, 0, 300, []) := cd_row ac_68 rfl
theorem cd_68_10 : cd 68 10 = some (21, 13, 71, 3, 0, []) := cd_row ac_68 rfl
theorem cd_68_13 : cd 68 13 = some (4, 14, 0, 0, 0, []) := cd_row ac_68 rfl
theorem cd_68_14 : cd 68 14 = some (23, 17, 4, 3, 0, []) := cd_row ac_68 rfl
theorem cd_68_17 : cd 68 17 = some (0, 19, 0, 0, 46, []) := cd_row ac_68 rfl
theorem cd_68_19 : cd 68 19 = some (21, 22, 31, 0, 0, []) := cd_row ac_68 rfl
theorem cd_68_22 : cd 68 22 = some (4, 23, 0, 0, 0, []) := cd_row ac_68 rfl
theorem cd_68_23 : cd 68 23 = some (23, 26, 4, 3, 0, []) := cd_row ac_68 rfl
theorem cd_68_26 : cd 68 26 = some (0, 28, 0, 0, 47, []) := cd_row ac_68 rfl
theorem cd_68_28 : cd 68 28 = some (21, 31, 71, 1, 0, []) := cd_row ac_68 rfl
theorem cd_68_31 : cd 68 31 = some (4, 32, 0, 0, 0, []) := cd_row ac_68 rfl
theorem cd_68_32 : cd 68 32 = some (23, 35, 4, 3, 0, []) := cd_row ac_68 rfl
theorem cd_68_35 : cd 68 35 = some (0, 37, 0, 0, 46, []) := cd_row ac_68 rfl
theorem cd_68_37 : cd 68 37 = some (21, 40, 45, 1, 0, []) := cd_row ac_68 rfl
theorem cd_68_40 : cd 68 40 = some (0, 42, 0, 0, 8, []) := cd_row ac_68 rfl
theorem cd_68_42 : cd 68 42 = some (22, 45, 47, 0, 0, []) := cd_row ac_68 rfl
theorem cd_68_45 : cd 68 45 = some (0, 47, 0, 0, 9, []) := cd_row ac_68 rfl
theorem cd_68_47 : cd 68 47 = some (5, 48, 2, 0, 0, []) := cd_row ac_68 rfl
theorem cd_68_48 : cd 68 48 = some (4, 49, 0, 0, 0, []) := cd_row ac_68 rfl
theorem cd_68_49 : cd 68 49 = some (46, 52, 61, 1, 4, []) := cd_row ac_68 rfl
theorem cd_68_52 : cd 68 52 = some (4, 53, 0, 0, 0, []) := cd_row ac_68 rfl
theorem cd_68_53 : cd 68 53 = some (46, 56, 69, 1, 4, []) := cd_row ac_68 rfl
theorem cd_68_56 : cd 68 56 = some (4, 57, 0, 0, 0, []) := cd_row ac_68 rfl
theorem cd_68_57 : cd 68 57 = some (23, 60, 4, 1, 0, []) := cd_row ac_68 rfl
theorem cd_68_60 : cd 68 60 = some (2, 61, 2, 0, 0, []) := cd_row ac_68 rfl
theorem cd_68_61 : cd 68 61 = some (0, 62, 0, 0, 0, []) := cd_row ac_68 rfl
theorem cd_68_62 : cd 68 62 = some (46, 65, 96, 3, 6, []) := cd_row ac_68 rfl
theorem cd_68_65 : cd 68 65 = some (8, 68, 1, 0, 1, []) := cd_row ac_68 rfl
theorem cd_68_68 : cd 68 68 = some (22, 71, 6, 0, 0, []) := cd_row ac_68 rfl
theorem cd_68_71 : cd 68 71 = some (39, 72, 0, 0, 0, []) := cd_row ac_68 rfl
set_option maxRecDepth 20000 in
theorem ac_69 : allC[69]? = some cl69 := rfl
theorem cd_69_0 : cd 69 0 = some (4, 1, 0, 0, 0, []) := cd_row ac_69 rfl
theorem cd_69_1 : cd 69 1 = some (46, 4, 70, 1, 4, []) := cd_row ac_69 rfl
theorem cd_69_4 : cd 69 4 = some (0, 5, 0, 0, 0, []) := cd_row ac_69 rfl
theorem cd_69_5 : cd 69 5 = some (5, 6, 1, 0, 0, []) := cd_row ac_69 rfl
theorem cd_69_6 : cd 69 6 = some (2, 7, 1, 0, 0, []) := cd_row ac_69 rfl
theorem cd_69_7 : cd 69 7 = some (0, 10, 0, 0, 300, []) := cd_row ac_69 rfl
theorem cd_69_10 : cd 69 10 = some (21, 13, 71, 3, 0, []) := cd_row ac_69 rfl
theorem cd_69_13 : cd 69 13 = some (4, 14, 0, 0, 0, []) := cd_row ac_69 rfl
theorem cd_69_14 : cd 69 14 = some (23, 17, 4, 3, 0, []) := cd_row ac_69 rfl
theorem cd_69_17 : cd 69 17 = some (0, 19, 0, 0, 48, []) := cd_row ac_69 rfl
theorem cd_69_19 : cd 69 19 = some (21, 22, 31, 0, 0, []) := cd_row ac_69 rfl
theorem cd_69_22 : cd 69 22 = some (4, 23, 0, 0, 0, []) := cd_row ac_69 rfl
theorem cd_69_23 : cd 69 23 = some (23, 26, 4, 3, 0, []) := cd_row ac_69 rfl
theorem cd_69_26 : cd 69 26 = some (0, 28, 0, 0, 49, []) := cd_row ac_69 rfl
theorem cd_69_28 : cd 69 28 = some (21, 31, 71, 1, 0, []) := cd_row ac_69 rfl
theorem cd_69_31 : cd 69 31 = some (4, 32, 0, 0, 0, []) := cd_row ac_69 rfl
theorem cd_69_32 : cd 69 32 = some (23, 35, 4, 3, 0, []) := cd_row ac_69 rfl
theorem cd_69_35 : cd 69 35 = some (0, 37, 0, 0, 48, []) := cd_row ac_69 rfl
theorem cd_69_37 : cd 69 37 = some (21, 40, 45, 1, 0, []) := cd_row ac_69 rfl
theorem cd_69_40 : cd 69 40 = some (0, 42, 0, 0, 10, []) := cd_row ac_69 rfl
theorem cd_69_42 : cd 69 42 = some (22, 45, 47, 0, 0, []) := cd_row ac_69 rfl
theorem cd_69_45 : cd 69 45 = some (0, 47, 0, 0, 11, []) := cd_row ac_69 rfl
theorem cd_69_47 : cd 69 47 = some (5, 48, 2, 0, 0, []) := cd_row ac_69 rfl
theorem cd_69_48 : cd 69 48 = some (4, 49, 0, 0, 0, []) := cd_row ac_69 rfl
theorem cd_69_49 : cd 69 49 = some (46, 52, 61, 1, 4, []) := cd_row ac_69 rfl
theorem cd_69_52 : cd 69 52 = some (4, 53, 0, 0, 0, []) := cd_row ac_69 rfl
theorem cd_69_53 : cd 69 53 = some (46, 56, 70, 1, 4, []) := cd_row ac_69 rfl
theorem cd_69_56 : cd 69 56 = some (4, 57, 0, 0, 0, []) := cd_row ac_69 rfl
theorem cd_69_57 : cd 69 57 = some (23, 60, 4, 1, 0, []) := cd_row ac_69 rfl
theorem cd_69_60 : cd 69 60 = some (2, 61, 2, 0, 0, []) := cd_row ac_69 rfl
theorem cd_69_61 : cd 69 61 = some (0, 62, 0, 0, 0, []) := cd_row ac_69 rfl
theorem cd_69_62 : cd 69 62 = some (46, 65, 96, 3, 6, []) := cd_row ac_69 rfl
theorem cd_69_65 : cd 69 65 = some (8, 68, 1, 0, 1, []) := cd_row ac_69 rfl
theorem cd_69_68 : cd 69 68 = some (22, 71, 6, 0, 0, []) := cd_row ac_69 rfl
theorem cd_69_71 : cd 69 71 = some (39, 72, 0, 0, 0, []) := cd_row ac_69 rfl
set_option maxRecDepth 20000 in
theorem ac_70 : allC[70]? = some cl70 := rfl
theorem cd_70_0 : cd 70 0 = some (4, 1, 0, 0, 0, []) := cd_row ac_70 rfl
theorem cd_70_1 : cd 70 1 = some (23, 4, 4, 3, 0, []) := cd_row ac_70 rfl
theorem cd_70_4 : cd 70 4 = some (43, 64, 163, 0, 0, [(25, 130), (32, 121), (33, 137), (47, 113), (50, 83), (60, 64)]) := cd_row ac_70 rfl
theorem cd_70_64 : cd 70 64 = some (4, 65, 0, 0, 0, []) := cd_row ac_70 rfl
theorem cd_70_65 : cd 70 65 = some (23, 68, 4, 1, 0, []) := cd_row ac_70 rfl
theorem cd_70_68 : cd 70 68 = some (0, 69, 0, 0, 2, []) := cd_row ac_70 rfl
theorem cd_70_69 : cd 70 69 = some (4, 70, 0, 0, 0, []) := cd_row ac_70 rfl
theorem cd_70_70 : cd 70 70 = some (0, 71, 0, 0, 0, []) := cd_row ac_70 rfl
theorem cd_70_71 : cd 70 71 = some (0, 74, 0, 0, 9999, []) := cd_row ac_70 rfl
theorem cd_70_74 : cd 70 74 = some (46, 77, 63, 3, 4, []) := cd_row ac_70 rfl
theorem cd_70_77 : cd 70 77 = some (46, 80, 96, 3, 6, []) := cd_row ac_70 rfl
theorem cd_70_80 : cd 70 80 = some (22, 83, 172, 0, 0, []) := cd_row ac_70 rfl
theorem cd_70_83 : cd 70 83 = some (4, 84, 0, 0, 0, []) := cd_row ac_70 rfl
theorem cd_70_84 : cd 70 84 = some (46, 87, 71, 1, 4, []) := cd_row ac_70 rfl
theorem cd_70_87 : cd 70 87 = some (20, 90, 172, 0, 0, []) := cd_row ac_70 rfl
theorem cd_70_90 : cd 70 90 = some (4, 91, 0, 0, 0, []) := cd_row ac_70 rfl
theorem cd_70_91 : cd 70 91 = some (46, 94, 68, 1, 4, []) := cd_row ac_70 rfl
theorem cd_70_94 : cd 70 94 = some (4, 95, 0, 0, 0, []) := cd_row ac_70 rfl
theorem cd_70_95 : cd 70 95 = some (0, 97, 0, 0, 51, []) := cd_row ac_70 rfl
theorem cd_70_97 : cd 70 97 = some (46, 100, 62, 2, 4, []) := cd_row ac_70 rfl
theorem cd_70_100 : cd 70 100 = some (4, 101, 0, 0, 0, []) := cd_row ac_70 rfl
theorem cd_70_101 : cd 70 101 = some (17, 102, 0, 0, 0, []) := cd_row ac_70 rfl
theorem cd_70_102 : cd 70 102 = some (23, 105, 4, 4, 0, []) := cd_row ac_70 rfl
theorem cd_70_105 : cd 70 105 = some (0, 106, 0, 0, 1, []) := cd_row ac_70 rfl
theorem cd_70_106 : cd 70 106 = some (9, 107, 0, 1, 0, []) := cd_row ac_70 rfl
theorem cd_70_107 : cd 70 107 = some (24, 110, 4, 4, 0, []) := cd_row ac_70 rfl
theorem cd_70_110 : cd 70 110 = some (22, 113, 172, 0, 0, []) := cd_row ac_70 rfl
theorem cd_70_113 : cd 70 113 = some (4, 114, 0, 0, 0, []) := cd_row ac_70 rfl
theorem cd_70_114 : cd 70 114 = some (0, 115, 0, 0, 5, []) := cd_row ac_70 rfl
theorem cd_70_115 : cd 70 115 = some (46, 118, 72, 2, 4, []) := cd_row ac_70 rfl
theorem cd_70_118 : cd 70 118 = some (22, 121, 172, 0, 0, []) := cd_row ac_70 rfl
theorem cd_70_121 : cd 70 121 = some (4, 122, 0, 0, 0, []) := cd_row ac_70 rfl
theorem cd_70_122 : cd 70 122 = some (0, 124, 0, 0, 6, []) := cd_row ac_70 rfl
theorem cd_70_124 : cd 70 124 = some (46, 127, 72, 2, 4, []) := cd_row ac_70 rfl
theorem cd_70_127 : cd 70 127 = some (22, 130, 172, 0, 0, []) := cd_row ac_70 rfl
theorem cd_70_130 : cd 70 130 = some (4, 131, 0, 0, 0, []) := cd_row ac_70 rfl
theorem cd_70_131 : cd 70 131 = some (46, 134, 74, 1, 4, []) := cd_row ac_70 rfl
theorem cd_70_134 : cd 70 134 = some (22, 137, 172, 0, 0, []) := cd_row ac_70 rfl
theorem cd_70_137 : cd 70 137 = some (4, 138, 0, 0, 0, []) := cd_row ac_70 rfl
theorem cd_70_138 : cd 70 138 = some (46, 141, 61, 1, 4, []) := cd_row ac_70 rfl
theorem cd_70_141 : cd 70 141 = some (4, 142, 0, 0, 0, []) := cd_row ac_70 rfl
theorem cd_70_142 : cd 70 142 = some (0, 143, 0, 0, 1, []) := cd_row ac_70 rfl
theorem cd_70_143 : cd 70 143 = some (0, 145, 0, 0, 9, []) := cd_row ac_70 rfl
theorem cd_70_145 : cd 70 145 = some (46, 148, 63, 3, 4, []) := cd_row ac_70 rfl
theorem cd_70_148 : cd 70 148 = some (5, 149, 1, 0, 0, []) := cd_row ac_70 rfl
theorem cd_70_149 : cd 70 149 = some (4, 150, 0, 0, 0, []) := cd_row ac_70 rfl
theorem cd_70_150 : cd 70 150 = some (0, 151, 0, 0, 4, []) := cd_row ac_70 rfl
theorem cd_70_151 : cd 70 151 = some (2, 152, 1, 0, 0, []) := cd_row ac_70 rfl
theorem cd_70_152 : cd 70 152 = some (0, 154, 0, 0, 8, []) := cd_row ac_70 rfl
theorem cd_70_154 : cd 70 154 = some (9, 155, 0, 2, 0, []) := cd_row ac_70 rfl
theorem cd_70_155 : cd 70 155 = some (0, 157, 0, 0, 31, []) := cd_row ac_70 rfl
theorem cd_70_157 : cd 70 157 = some (46, 160, 73, 4, 4, []) := cd_row ac_70 rfl
theorem cd_70_160 : cd 70 160 = some (22, 163, 172, 0, 0, []) := cd_row ac_70 rfl
theorem cd_70_163 : cd 70 163 = some (4, 164, 0, 0, 0, []) := cd_row ac_70 rfl
theorem cd_70_164 : cd 70 164 = some (0, 165, 0, 0, 3, []) := cd_row ac_70 rfl
theorem cd_70_165 : cd 70 165 = some (0, 166, 0, 0, 0, []) := cd_row ac_70 rfl
theorem cd_70_166 : cd 70 166 = some (0, 169, 0, 0, 255, []) := cd_row ac_70 rfl
theorem cd_70_169 : cd 70 169 = some (46, 172, 73, 4, 4, []) := cd_row ac_70 rfl
theorem cd_70_172 : cd 70 172 = some (39, 173, 0, 0, 0, []) := cd_row ac_70 rfl
set_option maxRecDepth 20000 in
theorem ac_72 : allC[72]? = some cl72 := rfl
theorem cd_72_0 : cd 72 0 = some (4, 1, 0, 0, 0, []) := cd_row ac_72 rfl
theorem cd_72_1 : cd 72 1 = some (46, 4, 71, 1, 4, []) := cd_row ac_72 rfl
theorem cd_72_4 : cd 72 4 = some (20, 7, 30, 0, 0, []) := cd_row ac_72 rfl
theorem cd_72_7 : cd 72 7 = some (4, 8, 0, 0, 0, []) := cd_row ac_72 rfl
theorem cd_72_8 : cd 72 8 = some (46, 11, 70, 1, 4, []) := cd_row ac_72 rfl
theorem cd_72_11 : cd 72 11 = some (4, 12, 0, 0, 0, []) := cd_row ac_72 rfl
theorem cd_72_12 : cd 72 12 = some (23, 15, 4, 1, 0, []) := cd_row ac_72 rfl
theorem cd_72_15 : cd 72 15 = some (2, 16, 1, 0, 0, []) := cd_row ac_72 rfl
theorem cd_72_16 : cd 72 16 = some (0, 17, 0, 0, 0, []) := cd_row ac_72 rfl
theorem cd_72_17 : cd 72 17 = some (46, 20, 96, 3, 6, []) := cd_row ac_72 rfl
theorem cd_72_20 : cd 72 20 = some (4, 21, 0, 0, 0, []) := cd_row ac_72 rfl
theorem cd_72_21 : cd 72 21 = some (17, 22, 0, 0, 0, []) := cd_row ac_72 rfl
theorem cd_72_22 : cd 72 22 = some (23, 25, 4, 4, 0, []) := cd_row ac_72 rfl
theorem cd_72_25 : cd 72 25 = some (0, 26, 0, 0, 1, []) := cd_row ac_72 rfl
theorem cd_72_26 : cd 72 26 = some (9, 27, 0, 1, 0, []) := cd_row ac_72 rfl
theorem cd_72_27 : cd 72 27 = some (24, 30, 4, 4, 0, []) := cd_row ac_72 rfl
theorem cd_72_30 : cd 72 30 = some (39, 31, 0, 0, 0, []) := cd_row ac_72 rfl
set_option maxRecDepth 20000 in
theorem ac_74 : allC[74]? = some cl74 := rfl
theorem cd_74_0 : cd 74 0 = some (4, 1, 0, 0, 0, []) := cd_row ac_74 rfl
theorem cd_74_1 : cd 74 1 = some (46, 4, 71, 1, 4, []) := cd_row ac_74 rfl
theorem cd_74_4 : cd 74 4 = some (20, 7, 8, 1, 0, []) := cd_row ac_74 rfl
theorem cd_74_7 : cd 74 7 = some (39, 8, 0, 0, 0, []) := cd_row ac_74 rfl
theorem cd_74_8 : cd 74 8 = some (4, 9, 0, 0, 0, []) := cd_row ac_74 rfl
theorem cd_74_9 : cd 74 9 = some (46, 12, 75, 1, 4, []) := cd_row ac_74 rfl
theorem cd_74_12 : cd 74 12 = some (4, 13, 0, 0, 0, []) := cd_row ac_74 rfl
theorem cd_74_13 : cd 74 13 = some (0, 15, 0, 0, 26, []) := cd_row ac_74 rfl
theorem cd_74_15 : cd 74 15 = some (46, 18, 62, 2, 4, []) := cd_row ac_74 rfl
theorem cd_74_18 : cd 74 18 = some (4, 19, 0, 0, 0, []) := cd_row ac_74 rfl
theorem cd_74_19 : cd 74 19 = some (23, 22, 4, 1, 0, []) := cd_row ac_74 rfl
theorem cd_74_22 : cd 74 22 = some (23, 25, 6, 5, 0, []) := cd_row ac_74 rfl
theorem cd_74_25 : cd 74 25 = some (5, 26, 1, 0, 0, []) := cd_row ac_74 rfl
theorem cd_74_26 : cd 74 26 = some (4, 27, 0, 0, 0, []) := cd_row ac_74 rfl
theorem cd_74_27 : cd 74 27 = some (23, 30, 4, 1, 0, []) := cd_row ac_74 rfl
theorem cd_74_30 : cd 74 30 = some (0, 31, 0, 0, 1, []) := cd_row ac_74 rfl
theorem cd_74_31 : cd 74 31 = some (0, 32, 0, 0, 0, []) := cd_row ac_74 rfl
theorem cd_74_32 : cd 74 32 = some (46, 35, 96, 3, 6, []) := cd_row ac_74 rfl
theorem cd_74_35 : cd 74 35 = some (4, 36, 0, 0, 0, []) := cd_row ac_74 rfl
theorem cd_74_36 : cd 74 36 = some (46, 39, 68, 1, 4, []) := cd_row ac_74 rfl
theorem cd_74_39 : cd 74 39 = some (4, 40, 0, 0, 0, []) := cd_row ac_74 rfl
theorem cd_74_40 : cd 74 40 = some (0, 42, 0, 0, 27, []) := cd_row ac_74 rfl
theorem cd_74_42 : cd 74 42 = some (46, 45, 62, 2, 4, []) := cd_row ac_74 rfl
theorem cd_74_45 : cd 74 45 = some (4, 46, 0, 0, 0, []) := cd_row ac_74 rfl
theorem cd_74_46 : cd 74 46 = some (23, 49, 4, 1, 0, []) := cd_row ac_74 rfl
theorem cd_74_49 : cd 74 49 = some (23, 52, 6, 5, 0, []) := cd_row ac_74 rfl
theorem cd_74_52 : cd 74 52 = some (5, 53, 2, 0, 0, []) := cd_row ac_74 rfl
theorem cd_74_53 : cd 74 53 = some (4, 54, 0, 0, 0, []) := cd_row ac_74 rfl
theorem cd_74_54 : cd 74 54 = some (23, 57, 4, 1, 0, []) := cd_row ac_74 rfl
theorem cd_74_57 : cd 74 57 = some (0, 58, 0, 0, 0, []) := cd_row ac_74 rfl
theorem cd_74_58 : cd 74 58 = some (0, 59, 0, 0, 0, []) := cd_row ac_74 rfl
theorem cd_74_59 : cd 74 59 = some (46, 62, 96, 3, 6, []) := cd_row ac_74 rfl
theorem cd_74_62 : cd 74 62 = some (4, 63, 0, 0, 0, []) := cd_row ac_74 rfl
theorem cd_74_63 : cd 74 63 = some (23, 66, 4, 1, 0, []) := cd_row ac_74 rfl
theorem cd_74_66 : cd 74 66 = some (2, 67, 1, 0, 0, []) := cd_row ac_74 rfl
theorem cd_74_67 : cd 74 67 = some (46, 70, 97, 2, 6, []) := cd_row ac_74 rfl
theorem cd_74_70 : cd 74 70 = some (4, 71, 0, 0, 0, []) := cd_row ac_74 rfl
theorem cd_74_71 : cd 74 71 = some (46, 74, 68, 1, 4, []) := cd_row ac_74 rfl
theorem cd_74_74 : cd 74 74 = some (4, 75, 0, 0, 0, []) := cd_row ac_74 rfl
theorem cd_74_75 : cd 74 75 = some (0, 77, 0, 0, 28, []) := cd_row ac_74 rfl
theorem cd_74_77 : cd 74 77 = some (46, 80, 62, 2, 4, []) := cd_row ac_74 rfl
theorem cd_74_80 : cd 74 80 = some (4, 81, 0, 0, 0, []) := cd_row ac_74 rfl
theorem cd_74_81 : cd 74 81 = some (23, 84, 4, 1, 0, []) := cd_row ac_74 rfl
theorem cd_74_84 : cd 74 84 = some (2, 85, 2, 0, 0, []) := cd_row ac_74 rfl
theorem cd_74_85 : cd 74 85 = some (46, 88, 97, 2, 6, []) := cd_row ac_74 rfl
theorem cd_74_88 : cd 74 88 = some (4, 89, 0, 0, 0, []) := cd_row ac_74 rfl
theorem cd_74_89 : cd 74 89 = some (17, 90, 0, 0, 0, []) := cd_row ac_74 rfl
theorem cd_74_90 : cd 74 90 = some (23, 93, 4, 4, 0, []) := cd_row ac_74 rfl
theorem cd_74_93 : cd 74 93 = some (0, 94, 0, 0, 1, []) := cd_row ac_74 rfl
theorem cd_74_94 : cd 74 94 = some (9, 95, 0, 1, 0, []) := cd_row ac_74 rfl
theorem cd_74_95 : cd 74 95 = some (24, 98, 4, 4, 0, []) := cd_row ac_74 rfl
theorem cd_74_98 : cd 74 98 = some (39, 99, 0, 0, 0, []) := cd_row ac_74 rfl
set_option maxRecDepth 20000 in
theorem ac_75 : allC[75]? = some cl75 := rfl
theorem cd_75_0 : cd 75 0 = some (4, 1, 0, 0, 0, []) := cd_row ac_75 rfl
theorem cd_75_1 : cd 75 1 = some (46, 4, 76, 1, 4, []) := cd_row ac_75 rfl
theorem cd_75_4 : cd 75 4 = some (0, 5, 0, 0, 0, []) := cd_row ac_75 rfl
theorem cd_75_5 : cd 75 5 = some (5, 6, 1, 0, 0, []) := cd_row ac_75 rfl
theorem cd_75_6 : cd 75 6 = some (2, 7, 1, 0, 0, []) := cd_row ac_75 rfl
theorem cd_75_7 : cd 75 7 = some (0, 10, 0, 0, 300, []) := cd_row ac_75 rfl
theorem cd_75_10 : cd 75 10 = some (21, 13, 46, 3, 0, []) := cd_row ac_75 rfl
theorem cd_75_13 : cd 75 13 = some (4, 14, 0, 0, 0, []) := cd_row ac_75 rfl
theorem cd_75_14 : cd 75 14 = some (23, 17, 4, 3, 0, []) := cd_row ac_75 rfl
theorem cd_75_17 : cd 75 17 = some (0, 19, 0, 0, 29, []) := cd_row ac_75 rfl
theorem cd_75_19 : cd 75 19 = some (21, 22, 46, 1, 0, []) := cd_row ac_75 rfl
theorem cd_75_22 : cd 75 22 = some (4, 23, 0, 0, 0, []) := cd_row ac_75 rfl
theorem cd_75_23 : cd 75 23 = some (46, 26, 61, 1, 4, []) := cd_row ac_75 rfl
theorem cd_75_26 : cd 75 26 = some (4, 27, 0, 0, 0, []) := cd_row ac_75 rfl
theorem cd_75_27 : cd 75 27 = some (46, 30, 76, 1, 4, []) := cd_row ac_75 rfl
theorem cd_75_30 : cd 75 30 = some (4, 31, 0, 0, 0, []) := cd_row ac_75 rfl
theorem cd_75_31 : cd 75 31 = some (23, 34, 4, 1, 0, []) := cd_row ac_75 rfl
theorem cd_75_34 : cd 75 34 = some (0, 36, 0, 0, 18, []) := cd_row ac_75 rfl
theorem cd_75_36 : cd 75 36 = some (0, 37, 0, 0, 0, []) := cd_row ac_75 rfl
theorem cd_75_37 : cd 75 37 = some (46, 40, 96, 3, 6, []) := cd_row ac_75 rfl
theorem cd_75_40 : cd 75 40 = some (8, 43, 1, 0, 1, []) := cd_row ac_75 rfl
theorem cd_75_43 : cd 75 43 = some (22, 46, 6, 0, 0, []) := cd_row ac_75 rfl
theorem cd_75_46 : cd 75 46 = some (39, 47, 0, 0, 0, []) := cd_row ac_75 rfl
set_option maxRecDepth 20000 in
theorem ac_76 : allC[76]? = some cl76 := rfl
theorem cd_76_0 : cd 76 0 = some (4, 1, 0, 0, 0, []) := cd_row ac_76 rfl
theorem cd_76_1 : cd 76 1 = some (46, 4, 77, 1, 4, []) := cd_row ac_76 rfl
theorem cd_76_4 : cd 76 4 = some (0, 5, 0, 0, 0, []) := cd_row ac_76 rfl
theorem cd_76_5 : cd 76 5 = some (5, 6, 1, 0, 0, []) := cd_row ac_76 rfl
theorem cd_76_6 : cd 76 6 = some (2, 7, 1, 0, 0, []) := cd_row ac_76 rfl
theorem cd_76_7 : cd 76 7 = some (0, 10, 0, 0, 300, []) := cd_row ac_76 rfl
theorem cd_76_10 : cd 76 10 = some (21, 13, 46, 3, 0, []) := cd_row ac_76 rfl
theorem cd_76_13 : cd 76 13 = some (4, 14, 0, 0, 0, []) := cd_row ac_76 rfl
theorem cd_76_14 : cd 76 14 = some (23, 17, 4, 3, 0, []) := cd_row ac_76 rfl
theorem cd_76_17 : cd 76 17 = some (0, 19, 0, 0, 30, []) := cd_row ac_76 rfl
theorem cd_76_19 : cd 76 19 = some (21, 22, 46, 1, 0, []) := cd_row ac_76 rfl
theorem cd_76_22 : cd 76 22 = some (4, 23, 0, 0, 0, []) := cd_row ac_76 rfl
theorem cd_76_23 : cd 76 23 = some (46, 26, 61, 1, 4, []) := cd_row ac_76 rfl
theorem cd_76_26 : cd 76 26 = some (4, 27, 0, 0, 0, []) := cd_row ac_76 rfl
theorem cd_76_27 : cd 76 27 = some (46, 30, 77, 1, 4, []) := cd_row ac_76 rfl
theorem cd_76_30 : cd 76 30 = some (4, 31, 0, 0, 0, []) := cd_row ac_76 rfl
theorem cd_76_31 : cd 76 31 = some (23, 34, 4, 1, 0, []) := cd_row ac_76 rfl
theorem cd_76_34 : cd 76 34 = some (0, 36, 0, 0, 19, []) := cd_row ac_76 rfl
theorem cd_76_36 : cd 76 36 = some (0, 37, 0, 0, 0, []) := cd_row ac_76 rfl
theorem cd_76_37 : cd 76 37 = some (46, 40, 96, 3, 6, []) := cd_row ac_76 rfl
theorem cd_76_40 : cd 76 40 = some (8, 43, 1, 0, 1, []) := cd_row ac_76 rfl
theorem cd_76_43 : cd 76 43 = some (22, 46, 6, 0, 0, []) := cd_row ac_76 rfl
theorem cd_76_46 : cd 76 46 = some (39, 47, 0, 0, 0, []) := cd_row ac_76 rfl
set_option maxRecDepth 20000 in
theorem ac_77 : allC[77]? = some cl77 := rfl
theorem cd_77_0 : cd 77 0 = some (4, 1, 0, 0, 0, []) := cd_row ac_77 rfl
theorem cd_77_1 : cd 77 1 = some (23, 4, 4, 3, 0, []) := cd_row ac_77 rfl
theorem cd_77_4 : cd 77 4 = some (0, 6, 0, 0, 31, []) := cd_row ac_77 rfl
theorem cd_77_6 : cd 77 6 = some (21, 9, 41, 1, 0, []) := cd_row ac_77 rfl
theorem cd_77_9 : cd 77 9 = some (4, 10, 0, 0, 0, []) := cd_row ac_77 rfl
theorem cd_77_10 : cd 77 10 = some (46, 13, 71, 1, 4, []) := cd_row ac_77 rfl
theorem cd_77_13 : cd 77 13 = some (20, 16, 40, 0, 0, []) := cd_row ac_77 rfl
theorem cd_77_16 : cd 77 16 = some (4, 17, 0, 0, 0, []) := cd_row ac_77 rfl
theorem cd_77_17 : cd 77 17 = some (46, 20, 77, 1, 4, []) := cd_row ac_77 rfl
theorem cd_77_20 : cd 77 20 = some (4, 21, 0, 0, 0, []) := cd_row ac_77 rfl
theorem cd_77_21 : cd 77 21 = some (23, 24, 4, 1, 0, []) := cd_row ac_77 rfl
theorem cd_77_24 : cd 77 24 = some (0, 26, 0, 0, 7, []) := cd_row ac_77 rfl
theorem cd_77_26 : cd 77 26 = some (0, 27, 0, 0, 0, []) := cd_row ac_77 rfl
theorem cd_77_27 : cd 77 27 = some (46, 30, 96, 3, 6, []) := cd_row ac_77 rfl
theorem cd_77_30 : cd 77 30 = some (4, 31, 0, 0, 0, []) := cd_row ac_77 rfl
theorem cd_77_31 : cd 77 31 = some (17, 32, 0, 0, 0, []) := cd_row ac_77 rfl
theorem cd_77_32 : cd 77 32 = some (23, 35, 4, 4, 0, []) := cd_row ac_77 rfl
theorem cd_77_35 : cd 77 35 = some (0, 36, 0, 0, 1, []) := cd_row ac_77 rfl
theorem cd_77_36 : cd 77 36 = some (9, 37, 0, 1, 0, []) := cd_row ac_77 rfl
theorem cd_77_37 : cd 77 37 = some (24, 40, 4, 4, 0, []) := cd_row ac_77 rfl
theorem cd_77_40 : cd 77 40 = some (39, 41, 0, 0, 0, []) := cd_row ac_77 rfl
theorem cd_77_41 : cd 77 41 = some (4, 42, 0, 0, 0, []) := cd_row ac_77 rfl
theorem cd_77_42 : cd 77 42 = some (46, 45, 68, 1, 4, []) := cd_row ac_77 rfl
theorem cd_77_45 : cd 77 45 = some (4, 46, 0, 0, 0, []) := cd_row ac_77 rfl
theorem cd_77_46 : cd 77 46 = some (23, 49, 4, 3, 0, []) := cd_row ac_77 rfl
theorem cd_77_49 : cd 77 49 = some (5, 50, 1, 0, 0, []) := cd_row ac_77 rfl
theorem cd_77_50 : cd 77 50 = some (2, 51, 1, 0, 0, []) := cd_row ac_77 rfl
theorem cd_77_51 : cd 77 51 = some (0, 53, 0, 0, 40, []) := cd_row ac_77 rfl
theorem cd_77_53 : cd 77 53 = some (21, 56, 62, 2, 0, []) := cd_row ac_77 rfl
theorem cd_77_56 : cd 77 56 = some (2, 57, 1, 0, 0, []) := cd_row ac_77 rfl
theorem cd_77_57 : cd 77 57 = some (0, 59, 0, 0, 45, []) := cd_row ac_77 rfl
theorem cd_77_59 : cd 77 59 = some (21, 62, 68, 5, 0, []) := cd_row ac_77 rfl
theorem cd_77_62 : cd 77 62 = some (4, 63, 0, 0, 0, []) := cd_row ac_77 rfl
theorem cd_77_63 : cd 77 63 = some (0, 64, 0, 0, 1, []) := cd_row ac_77 rfl
theorem cd_77_64 : cd 77 64 = some (46, 67, 60, 2, 4, []) := cd_row ac_77 rfl
theorem cd_77_67 : cd 77 67 = some (39, 68, 0, 0, 0, []) := cd_row ac_77 rfl
theorem cd_77_68 : cd 77 68 = some (4, 69, 0, 0, 0, []) := cd_row ac_77 rfl
theorem cd_77_69 : cd 77 69 = some (46, 72, 61, 1, 4, []) := cd_row ac_77 rfl
theorem cd_77_72 : cd 77 72 = some (4, 73, 0, 0, 0, []) := cd_row ac_77 rfl
theorem cd_77_73 : cd 77 73 = some (46, 76, 68, 1, 4, []) := cd_row ac_77 rfl
theorem cd_77_76 : cd 77 76 = some (4, 77, 0, 0, 0, []) := cd_row ac_77 rfl
theorem cd_77_77 : cd 77 77 = some (23, 80, 4, 1, 0, []) := cd_row ac_77 rfl
theorem cd_77_80 : cd 77 80 = some (0, 82, 0, 0, 12, []) := cd_row ac_77 rfl
theorem cd_77_82 : cd 77 82 = some (2, 83, 1, 0, 0, []) := cd_row ac_77 rfl
theorem cd_77_83 : cd 77 83 = some (9, 84, 0, 0, 0, []) := cd_row ac_77 rfl
theorem cd_77_84 : cd 77 84 = some (0, 86, 0, 0, 40, []) := cd_row ac_77 rfl
theorem cd_77_86 : cd 77 86 = some (9, 87, 0, 1, 0, []) := cd_row ac_77 rfl
theorem cd_77_87 : cd 77 87 = some (0, 88, 0, 0, 0, []) := cd_row ac_77 rfl
theorem cd_77_88 : cd 77 88 = some (46, 91, 96, 3, 6, []) := cd_row ac_77 rfl
theorem cd_77_91 : cd 77 91 = some (39, 92, 0, 0, 0, []) := cd_row ac_77 rfl
set_option maxHeartbeats 4000000 in
theorem F_one {d : Nat} {h : AH} {T D cnt : Nat} {n : Int} {kn vn pn : Nat → Int} (hb : RDB h T D) (hk : TOK h cnt n kn vn pn) {L : Nat} {c l f p : Int} {dd : Nat → Int} {a : Int} (hf : f ≠ 0) (Q : Option AV → AH → Prop) : XC (d + 4) 70 [vR 70] (hR h T D a 63 c l f p L dd) Q = Q none (hR h T D a 63 c l f p L dd) := by
  have sw : swF 63 163 [(25, 130), (32, 121), (33, 137), (47, 113), (50, 83), (60, 64)] = 163 := by decide
  refine XC_eq (Nat.le_of_ble_eq_true rfl) ?_ Q
  show XP (d + 3) 70 0 [some (vR 70), none] [] (hR h T D a 63 c l f p L dd) _
  refine xpk_sound (stops := []) (n := 40) ?_
  simp only [sk_0, sk_1, sk_2, sk_3, sk_4, sk_5, sk_6, sk_7, sk_8, sk_iadd, sk_isub, sk_imul, sk_iand, sk_ior, sk_ixor, sk_ishl, sk_ishr, sk_iushr, sk_idiv, sk_irem, sk_ineg, sk_ladd, sk_lsub, sk_lmul, sk_land, sk_lor, sk_ldiv, sk_lrem, sk_lneg, sk_lshl, sk_lshr, sk_i2l, sk_l2i, sk_lcmp, sk_dupI, sk_dupR, sk_dup2L, sk_dup2I, sk_popI, sk_ifeq, sk_ifne, sk_iflt, sk_ifge, sk_ifgt, sk_ifle, sk_iceq, sk_icne, sk_iclt, sk_icge, sk_icgt, sk_icle, sk_goto, sk_getf, sk_putf, sk_gets, sk_iald, sk_lald, sk_bald, sk_aald, sk_iast, sk_last, sk_bast, sk_aast, sk_alen, sk_newa, sk_newt, sk_new, sk_cs1, sk_cs2, sk_cs3, sk_cs4, sk_cs5, sk_cs6, sk_cv1, sk_cv2, sk_cv3, sk_cv4, sk_cv5, sk_cv6, sk_ci1, sk_ci2, sk_ci3, sk_ret0, sk_retI, sk_retL, sk_retR, sk_sw, sk_oin, sk_max, sk_min, sk_abs, lI_0, lI_s, lL_0, lL_s, lR_0, lR_s, vIo_e, vLo_e, vOo_e, stW_I, stW_L, stW_R, stW_0, stW_z, okSt_0, okSt_s, hV_eq, hK_eq, okF_0, okF_1, okF_3, is01_0, is01_1, is01_i, Int.toNat_natCast, Int.reduceEq, Int.reduceLE, Int.reduceLT, Int.reduceNeg, Nat.reduceLT, not_true_eq_false, not_false_eq_true, reduceIte, Option.toList, List.cons_append, List.nil_append, List.set_cons_zero, List.set_cons_succ, List.not_mem_nil, List.mem_cons, if_false, if_true, ite_true, ite_false, and_self, and_true, true_and, Nat.reduceAdd, Nat.reduceLeDiff, Nat.reduceEqDiff, Nat.zero_add, Nat.le_refl, Nat.zero_le, or_false, false_or, Int.reduceToNat, or_true, true_or, eq_self, and_false, false_and, inR_d, nc_4, nc_5, nc_6, nc_7, nc_8, nc_16, nc_18, nc_20, nc_24, nc_32, nc_40, nc_64, nc_104, nc_120, nc_160, nc_256, nc_300, nc_330, nc_390, nc_1200, nc_1260, nc_3012, nc_9834, okSt_1i, okSt_1r, okSt_1n, List.length_cons, List.length_nil, xpk_succ cd_70_0, xpk_succ cd_70_1, xpk_succ cd_70_4, xpk_succ cd_70_64, xpk_succ cd_70_65, xpk_succ cd_70_68, xpk_succ cd_70_69, xpk_succ cd_70_70, xpk_succ cd_70_71, xpk_succ cd_70_74, xpk_succ cd_70_77, xpk_succ cd_70_80, xpk_succ cd_70_83, xpk_succ cd_70_84, xpk_succ cd_70_87, xpk_succ cd_70_90, xpk_succ cd_70_91, xpk_succ cd_70_94, xpk_succ cd_70_95, xpk_succ cd_70_97, xpk_succ cd_70_100, xpk_succ cd_70_101, xpk_succ cd_70_102, xpk_succ cd_70_105, xpk_succ cd_70_106, xpk_succ cd_70_107, xpk_succ cd_70_110, xpk_succ cd_70_113, xpk_succ cd_70_114, xpk_succ cd_70_115, xpk_succ cd_70_118, xpk_succ cd_70_121, xpk_succ cd_70_122, xpk_succ cd_70_124, xpk_succ cd_70_127, xpk_succ cd_70_130, xpk_succ cd_70_131, xpk_succ cd_70_134, xpk_succ cd_70_137, xpk_succ cd_70_138, xpk_succ cd_70_141, xpk_succ cd_70_142, xpk_succ cd_70_143, xpk_succ cd_70_145, xpk_succ cd_70_148, xpk_succ cd_70_149, xpk_succ cd_70_150, xpk_succ cd_70_151, xpk_succ cd_70_152, xpk_succ cd_70_154, xpk_succ cd_70_155, xpk_succ cd_70_157, xpk_succ cd_70_160, xpk_succ cd_70_163, xpk_succ cd_70_164, xpk_succ cd_70_165, xpk_succ cd_70_166, xpk_succ cd_70_169, xpk_succ cd_70_172, hR_2, hR_3, hR_4, hR_5, hR_6, hR_7, hR_s2, hR_s3, hR_s4, hR_s5, hR_s6, hR_s7, (hR_T hb.1), (hR_sT hb.1), (R_0 hb), (R_1 hb), (R_T0 hb), (R_N hb), hK_R, hb.2.1.1, hk.2.1.1, hb.2.2.1.1, hb.2.2.1.2.2, hb.2.2.2.1, (E_kindAt (TOK_R hb.1 hk)), (E_placeAt (TOK_R hb.1 hk)), (E_valueAt (TOK_R hb.1 hk)), sw, (F_name hb hk hf)]
set_option maxHeartbeats 4000000 in
theorem F_product {d : Nat} {h : AH} {T D cnt : Nat} {n : Int} {kn vn pn : Nat → Int} (hb : RDB h T D) (hk : TOK h cnt n kn vn pn) {L : Nat} {c l f p : Int} {dd : Nat → Int} {a : Int} (hf : f ≠ 0) (Q : Option AV → AH → Prop) : XC (d + 5) 69 [vR 70] (hR h T D a 63 c l f p L dd) Q = Q none (hR h T D a 63 c l f p L dd) := by
  refine XC_eq (Nat.le_of_ble_eq_true rfl) ?_ Q
  show XP (d + 4) 69 0 [some (vR 70), none, none] [] (hR h T D a 63 c l f p L dd) _
  refine xpk_sound (stops := []) (n := 60) ?_
  simp only [sk_0, sk_1, sk_2, sk_3, sk_4, sk_5, sk_6, sk_7, sk_8, sk_iadd, sk_isub, sk_imul, sk_iand, sk_ior, sk_ixor, sk_ishl, sk_ishr, sk_iushr, sk_idiv, sk_irem, sk_ineg, sk_ladd, sk_lsub, sk_lmul, sk_land, sk_lor, sk_ldiv, sk_lrem, sk_lneg, sk_lshl, sk_lshr, sk_i2l, sk_l2i, sk_lcmp, sk_dupI, sk_dupR, sk_dup2L, sk_dup2I, sk_popI, sk_ifeq, sk_ifne, sk_iflt, sk_ifge, sk_ifgt, sk_ifle, sk_iceq, sk_icne, sk_iclt, sk_icge, sk_icgt, sk_icle, sk_goto, sk_getf, sk_putf, sk_gets, sk_iald, sk_lald, sk_bald, sk_aald, sk_iast, sk_last, sk_bast, sk_aast, sk_alen, sk_newa, sk_newt, sk_new, sk_cs1, sk_cs2, sk_cs3, sk_cs4, sk_cs5, sk_cs6, sk_cv1, sk_cv2, sk_cv3, sk_cv4, sk_cv5, sk_cv6, sk_ci1, sk_ci2, sk_ci3, sk_ret0, sk_retI, sk_retL, sk_retR, sk_sw, sk_oin, sk_max, sk_min, sk_abs, lI_0, lI_s, lL_0, lL_s, lR_0, lR_s, vIo_e, vLo_e, vOo_e, stW_I, stW_L, stW_R, stW_0, stW_z, okSt_0, okSt_s, hV_eq, hK_eq, okF_0, okF_1, okF_3, is01_0, is01_1, is01_i, Int.toNat_natCast, Int.reduceEq, Int.reduceLE, Int.reduceLT, Int.reduceNeg, Nat.reduceLT, not_true_eq_false, not_false_eq_true, reduceIte, Option.toList, List.cons_append, List.nil_append, List.set_cons_zero, List.set_cons_succ, List.not_mem_nil, List.mem_cons, if_false, if_true, ite_true, ite_false, and_self, and_true, true_and, Nat.reduceAdd, Nat.reduceLeDiff, Nat.reduceEqDiff, Nat.zero_add, Nat.le_refl, Nat.zero_le, or_false, false_or, Int.reduceToNat, or_true, true_or, eq_self, and_false, false_and, inR_d, nc_4, nc_5, nc_6, nc_7, nc_8, nc_16, nc_18, nc_20, nc_24, nc_32, nc_40, nc_64, nc_104, nc_120, nc_160, nc_256, nc_300, nc_330, nc_390, nc_1200, nc_1260, nc_3012, nc_9834, okSt_1i, okSt_1r, okSt_1n, List.length_cons, List.length_nil, xpk_succ cd_69_0, xpk_succ cd_69_1, xpk_succ cd_69_4, xpk_succ cd_69_5, xpk_succ cd_69_6, xpk_succ cd_69_7, xpk_succ cd_69_10, xpk_succ cd_69_13, xpk_succ cd_69_14, xpk_succ cd_69_17, xpk_succ cd_69_19, xpk_succ cd_69_22, xpk_succ cd_69_23, xpk_succ cd_69_26, xpk_succ cd_69_28, xpk_succ cd_69_31, xpk_succ cd_69_32, xpk_succ cd_69_35, xpk_succ cd_69_37, xpk_succ cd_69_40, xpk_succ cd_69_42, xpk_succ cd_69_45, xpk_succ cd_69_47, xpk_succ cd_69_48, xpk_succ cd_69_49, xpk_succ cd_69_52, xpk_succ cd_69_53, xpk_succ cd_69_56, xpk_succ cd_69_57, xpk_succ cd_69_60, xpk_succ cd_69_61, xpk_succ cd_69_62, xpk_succ cd_69_65, xpk_succ cd_69_68, xpk_succ cd_69_71, hR_2, hR_3, hR_4, hR_5, hR_6, hR_7, hR_s2, hR_s3, hR_s4, hR_s5, hR_s6, hR_s7, (hR_T hb.1), (hR_sT hb.1), (R_0 hb), (R_1 hb), (R_T0 hb), (R_N hb), hK_R, hb.2.1.1, hk.2.1.1, hb.2.2.1.1, hb.2.2.1.2.2, hb.2.2.2.1, (E_kindAt (TOK_R hb.1 hk)), (E_placeAt (TOK_R hb.1 hk)), (E_valueAt (TOK_R hb.1 hk)), (F_one hb hk hf)]
set_option maxHeartbeats 4000000 in
theorem F_sum {d : Nat} {h : AH} {T D cnt : Nat} {n : Int} {kn vn pn : Nat → Int} (hb : RDB h T D) (hk : TOK h cnt n kn vn pn) {L : Nat} {c l f p : Int} {dd : Nat → Int} {a : Int} (hf : f ≠ 0) (Q : Option AV → AH → Prop) : XC (d + 6) 68 [vR 70] (hR h T D a 63 c l f p L dd) Q = Q none (hR h T D a 63 c l f p L dd) := by
  refine XC_eq (Nat.le_of_ble_eq_true rfl) ?_ Q
  show XP (d + 5) 68 0 [some (vR 70), none, none] [] (hR h T D a 63 c l f p L dd) _
  refine xpk_sound (stops := []) (n := 60) ?_
  simp only [sk_0, sk_1, sk_2, sk_3, sk_4, sk_5, sk_6, sk_7, sk_8, sk_iadd, sk_isub, sk_imul, sk_iand, sk_ior, sk_ixor, sk_ishl, sk_ishr, sk_iushr, sk_idiv, sk_irem, sk_ineg, sk_ladd, sk_lsub, sk_lmul, sk_land, sk_lor, sk_ldiv, sk_lrem, sk_lneg, sk_lshl, sk_lshr, sk_i2l, sk_l2i, sk_lcmp, sk_dupI, sk_dupR, sk_dup2L, sk_dup2I, sk_popI, sk_ifeq, sk_ifne, sk_iflt, sk_ifge, sk_ifgt, sk_ifle, sk_iceq, sk_icne, sk_iclt, sk_icge, sk_icgt, sk_icle, sk_goto, sk_getf, sk_putf, sk_gets, sk_iald, sk_lald, sk_bald, sk_aald, sk_iast, sk_last, sk_bast, sk_aast, sk_alen, sk_newa, sk_newt, sk_new, sk_cs1, sk_cs2, sk_cs3, sk_cs4, sk_cs5, sk_cs6, sk_cv1, sk_cv2, sk_cv3, sk_cv4, sk_cv5, sk_cv6, sk_ci1, sk_ci2, sk_ci3, sk_ret0, sk_retI, sk_retL, sk_retR, sk_sw, sk_oin, sk_max, sk_min, sk_abs, lI_0, lI_s, lL_0, lL_s, lR_0, lR_s, vIo_e, vLo_e, vOo_e, stW_I, stW_L, stW_R, stW_0, stW_z, okSt_0, okSt_s, hV_eq, hK_eq, okF_0, okF_1, okF_3, is01_0, is01_1, is01_i, Int.toNat_natCast, Int.reduceEq, Int.reduceLE, Int.reduceLT, Int.reduceNeg, Nat.reduceLT, not_true_eq_false, not_false_eq_true, reduceIte, Option.toList, List.cons_append, List.nil_append, List.set_cons_zero, List.set_cons_succ, List.not_mem_nil, List.mem_cons, if_false, if_true, ite_true, ite_false, and_self, and_true, true_and, Nat.reduceAdd, Nat.reduceLeDiff, Nat.reduceEqDiff, Nat.zero_add, Nat.le_refl, Nat.zero_le, or_false, false_or, Int.reduceToNat, or_true, true_or, eq_self, and_false, false_and, inR_d, nc_4, nc_5, nc_6, nc_7, nc_8, nc_16, nc_18, nc_20, nc_24, nc_32, nc_40, nc_64, nc_104, nc_120, nc_160, nc_256, nc_300, nc_330, nc_390, nc_1200, nc_1260, nc_3012, nc_9834, okSt_1i, okSt_1r, okSt_1n, List.length_cons, List.length_nil, xpk_succ cd_68_0, xpk_succ cd_68_1, xpk_succ cd_68_4, xpk_succ cd_68_5, xpk_succ cd_68_6, xpk_succ cd_68_7, xpk_succ cd_68_10, xpk_succ cd_68_13, xpk_succ cd_68_14, xpk_succ cd_68_17, xpk_succ cd_68_19, xpk_succ cd_68_22, xpk_succ cd_68_23, xpk_succ cd_68_26, xpk_succ cd_68_28, xpk_succ cd_68_31, xpk_succ cd_68_32, xpk_succ cd_68_35, xpk_succ cd_68_37, xpk_succ cd_68_40, xpk_succ cd_68_42, xpk_succ cd_68_45, xpk_succ cd_68_47, xpk_succ cd_68_48, xpk_succ cd_68_49, xpk_succ cd_68_52, xpk_succ cd_68_53, xpk_succ cd_68_56, xpk_succ cd_68_57, xpk_succ cd_68_60, xpk_succ cd_68_61, xpk_succ cd_68_62, xpk_succ cd_68_65, xpk_succ cd_68_68, xpk_succ cd_68_71, hR_2, hR_3, hR_4, hR_5, hR_6, hR_7, hR_s2, hR_s3, hR_s4, hR_s5, hR_s6, hR_s7, (hR_T hb.1), (hR_sT hb.1), (R_0 hb), (R_1 hb), (R_T0 hb), (R_N hb), hK_R, hb.2.1.1, hk.2.1.1, hb.2.2.1.1, hb.2.2.1.2.2, hb.2.2.2.1, (E_kindAt (TOK_R hb.1 hk)), (E_placeAt (TOK_R hb.1 hk)), (E_valueAt (TOK_R hb.1 hk)), (F_product hb hk hf)]
set_option maxHeartbeats 4000000 in
theorem F_ask {d : Nat} {h : AH} {T D cnt : Nat} {n : Int} {kn vn pn : Nat → Int} (hb : RDB h T D) (hk : TOK h cnt n kn vn pn) {L : Nat} {c l f p : Int} {dd : Nat → Int} {a : Int} (hf : f ≠ 0) (Q : Option AV → AH → Prop) : XC (d + 7) 77 [vR 70] (hR h T D a 63 c l f p L dd) Q = Q none (hR h T D a 63 c l f p L dd) := by
  refine XC_eq (Nat.le_of_ble_eq_true rfl) ?_ Q
  show XP (d + 6) 77 0 [some (vR 70), none] [] (hR h T D a 63 c l f p L dd) _
  refine xpk_sound (stops := []) (n := 60) ?_
  simp only [sk_0, sk_1, sk_2, sk_3, sk_4, sk_5, sk_6, sk_7, sk_8, sk_iadd, sk_isub, sk_imul, sk_iand, sk_ior, sk_ixor, sk_ishl, sk_ishr, sk_iushr, sk_idiv, sk_irem, sk_ineg, sk_ladd, sk_lsub, sk_lmul, sk_land, sk_lor, sk_ldiv, sk_lrem, sk_lneg, sk_lshl, sk_lshr, sk_i2l, sk_l2i, sk_lcmp, sk_dupI, sk_dupR, sk_dup2L, sk_dup2I, sk_popI, sk_ifeq, sk_ifne, sk_iflt, sk_ifge, sk_ifgt, sk_ifle, sk_iceq, sk_icne, sk_iclt, sk_icge, sk_icgt, sk_icle, sk_goto, sk_getf, sk_putf, sk_gets, sk_iald, sk_lald, sk_bald, sk_aald, sk_iast, sk_last, sk_bast, sk_aast, sk_alen, sk_newa, sk_newt, sk_new, sk_cs1, sk_cs2, sk_cs3, sk_cs4, sk_cs5, sk_cs6, sk_cv1, sk_cv2, sk_cv3, sk_cv4, sk_cv5, sk_cv6, sk_ci1, sk_ci2, sk_ci3, sk_ret0, sk_retI, sk_retL, sk_retR, sk_sw, sk_oin, sk_max, sk_min, sk_abs, lI_0, lI_s, lL_0, lL_s, lR_0, lR_s, vIo_e, vLo_e, vOo_e, stW_I, stW_L, stW_R, stW_0, stW_z, okSt_0, okSt_s, hV_eq, hK_eq, okF_0, okF_1, okF_3, is01_0, is01_1, is01_i, Int.toNat_natCast, Int.reduceEq, Int.reduceLE, Int.reduceLT, Int.reduceNeg, Nat.reduceLT, not_true_eq_false, not_false_eq_true, reduceIte, Option.toList, List.cons_append, List.nil_append, List.set_cons_zero, List.set_cons_succ, List.not_mem_nil, List.mem_cons, if_false, if_true, ite_true, ite_false, and_self, and_true, true_and, Nat.reduceAdd, Nat.reduceLeDiff, Nat.reduceEqDiff, Nat.zero_add, Nat.le_refl, Nat.zero_le, or_false, false_or, Int.reduceToNat, or_true, true_or, eq_self, and_false, false_and, inR_d, nc_4, nc_5, nc_6, nc_7, nc_8, nc_16, nc_18, nc_20, nc_24, nc_32, nc_40, nc_64, nc_104, nc_120, nc_160, nc_256, nc_300, nc_330, nc_390, nc_1200, nc_1260, nc_3012, nc_9834, okSt_1i, okSt_1r, okSt_1n, List.length_cons, List.length_nil, xpk_succ cd_77_0, xpk_succ cd_77_1, xpk_succ cd_77_4, xpk_succ cd_77_6, xpk_succ cd_77_9, xpk_succ cd_77_10, xpk_succ cd_77_13, xpk_succ cd_77_16, xpk_succ cd_77_17, xpk_succ cd_77_20, xpk_succ cd_77_21, xpk_succ cd_77_24, xpk_succ cd_77_26, xpk_succ cd_77_27, xpk_succ cd_77_30, xpk_succ cd_77_31, xpk_succ cd_77_32, xpk_succ cd_77_35, xpk_succ cd_77_36, xpk_succ cd_77_37, xpk_succ cd_77_40, xpk_succ cd_77_41, xpk_succ cd_77_42, xpk_succ cd_77_45, xpk_succ cd_77_46, xpk_succ cd_77_49, xpk_succ cd_77_50, xpk_succ cd_77_51, xpk_succ cd_77_53, xpk_succ cd_77_56, xpk_succ cd_77_57, xpk_succ cd_77_59, xpk_succ cd_77_62, xpk_succ cd_77_63, xpk_succ cd_77_64, xpk_succ cd_77_67, xpk_succ cd_77_68, xpk_succ cd_77_69, xpk_succ cd_77_72, xpk_succ cd_77_73, xpk_succ cd_77_76, xpk_succ cd_77_77, xpk_succ cd_77_80, xpk_succ cd_77_82, xpk_succ cd_77_83, xpk_succ cd_77_84, xpk_succ cd_77_86, xpk_succ cd_77_87, xpk_succ cd_77_88, xpk_succ cd_77_91, hR_2, hR_3, hR_4, hR_5, hR_6, hR_7, hR_s2, hR_s3, hR_s4, hR_s5, hR_s6, hR_s7, (hR_T hb.1), (hR_sT hb.1), (R_0 hb), (R_1 hb), (R_T0 hb), (R_N hb), hK_R, hb.2.1.1, hk.2.1.1, hb.2.2.1.1, hb.2.2.1.2.2, hb.2.2.2.1, (E_kindAt (TOK_R hb.1 hk)), (E_placeAt (TOK_R hb.1 hk)), (E_valueAt (TOK_R hb.1 hk)), (F_sum hb hk hf), (E_failx hb hk hf)]
set_option maxHeartbeats 4000000 in
theorem F_both {d : Nat} {h : AH} {T D cnt : Nat} {n : Int} {kn vn pn : Nat → Int} (hb : RDB h T D) (hk : TOK h cnt n kn vn pn) {L : Nat} {c l f p : Int} {dd : Nat → Int} {a : Int} (hf : f ≠ 0) (Q : Option AV → AH → Prop) : XC (d + 8) 76 [vR 70] (hR h T D a 63 c l f p L dd) Q = Q none (hR h T D a 63 c l f p L dd) := by
  refine XC_eq (Nat.le_of_ble_eq_true rfl) ?_ Q
  show XP (d + 7) 76 0 [some (vR 70), none] [] (hR h T D a 63 c l f p L dd) _
  refine xpk_sound (stops := []) (n := 60) ?_
  simp only [sk_0, sk_1, sk_2, sk_3, sk_4, sk_5, sk_6, sk_7, sk_8, sk_iadd, sk_isub, sk_imul, sk_iand, sk_ior, sk_ixor, sk_ishl, sk_ishr, sk_iushr, sk_idiv, sk_irem, sk_ineg, sk_ladd, sk_lsub, sk_lmul, sk_land, sk_lor, sk_ldiv, sk_lrem, sk_lneg, sk_lshl, sk_lshr, sk_i2l, sk_l2i, sk_lcmp, sk_dupI, sk_dupR, sk_dup2L, sk_dup2I, sk_popI, sk_ifeq, sk_ifne, sk_iflt, sk_ifge, sk_ifgt, sk_ifle, sk_iceq, sk_icne, sk_iclt, sk_icge, sk_icgt, sk_icle, sk_goto, sk_getf, sk_putf, sk_gets, sk_iald, sk_lald, sk_bald, sk_aald, sk_iast, sk_last, sk_bast, sk_aast, sk_alen, sk_newa, sk_newt, sk_new, sk_cs1, sk_cs2, sk_cs3, sk_cs4, sk_cs5, sk_cs6, sk_cv1, sk_cv2, sk_cv3, sk_cv4, sk_cv5, sk_cv6, sk_ci1, sk_ci2, sk_ci3, sk_ret0, sk_retI, sk_retL, sk_retR, sk_sw, sk_oin, sk_max, sk_min, sk_abs, lI_0, lI_s, lL_0, lL_s, lR_0, lR_s, vIo_e, vLo_e, vOo_e, stW_I, stW_L, stW_R, stW_0, stW_z, okSt_0, okSt_s, hV_eq, hK_eq, okF_0, okF_1, okF_3, is01_0, is01_1, is01_i, Int.toNat_natCast, Int.reduceEq, Int.reduceLE, Int.reduceLT, Int.reduceNeg, Nat.reduceLT, not_true_eq_false, not_false_eq_true, reduceIte, Option.toList, List.cons_append, List.nil_append, List.set_cons_zero, List.set_cons_succ, List.not_mem_nil, List.mem_cons, if_false, if_true, ite_true, ite_false, and_self, and_true, true_and, Nat.reduceAdd, Nat.reduceLeDiff, Nat.reduceEqDiff, Nat.zero_add, Nat.le_refl, Nat.zero_le, or_false, false_or, Int.reduceToNat, or_true, true_or, eq_self, and_false, false_and, inR_d, nc_4, nc_5, nc_6, nc_7, nc_8, nc_16, nc_18, nc_20, nc_24, nc_32, nc_40, nc_64, nc_104, nc_120, nc_160, nc_256, nc_300, nc_330, nc_390, nc_1200, nc_1260, nc_3012, nc_9834, okSt_1i, okSt_1r, okSt_1n, List.length_cons, List.length_nil, xpk_succ cd_76_0, xpk_succ cd_76_1, xpk_succ cd_76_4, xpk_succ cd_76_5, xpk_succ cd_76_6, xpk_succ cd_76_7, xpk_succ cd_76_10, xpk_succ cd_76_13, xpk_succ cd_76_14, xpk_succ cd_76_17, xpk_succ cd_76_19, xpk_succ cd_76_22, xpk_succ cd_76_23, xpk_succ cd_76_26, xpk_succ cd_76_27, xpk_succ cd_76_30, xpk_succ cd_76_31, xpk_succ cd_76_34, xpk_succ cd_76_36, xpk_succ cd_76_37, xpk_succ cd_76_40, xpk_succ cd_76_43, xpk_succ cd_76_46, hR_2, hR_3, hR_4, hR_5, hR_6, hR_7, hR_s2, hR_s3, hR_s4, hR_s5, hR_s6, hR_s7, (hR_T hb.1), (hR_sT hb.1), (R_0 hb), (R_1 hb), (R_T0 hb), (R_N hb), hK_R, hb.2.1.1, hk.2.1.1, hb.2.2.1.1, hb.2.2.1.2.2, hb.2.2.2.1, (E_kindAt (TOK_R hb.1 hk)), (E_placeAt (TOK_R hb.1 hk)), (E_valueAt (TOK_R hb.1 hk)), (F_ask hb hk hf)]
set_option maxHeartbeats 4000000 in
theorem F_either {d : Nat} {h : AH} {T D cnt : Nat} {n : Int} {kn vn pn : Nat → Int} (hb : RDB h T D) (hk : TOK h cnt n kn vn pn) {L : Nat} {c l f p : Int} {dd : Nat → Int} {a : Int} (hf : f ≠ 0) (Q : Option AV → AH → Prop) : XC (d + 9) 75 [vR 70] (hR h T D a 63 c l f p L dd) Q = Q none (hR h T D a 63 c l f p L dd) := by
  refine XC_eq (Nat.le_of_ble_eq_true rfl) ?_ Q
  show XP (d + 8) 75 0 [some (vR 70), none] [] (hR h T D a 63 c l f p L dd) _
  refine xpk_sound (stops := []) (n := 60) ?_
  simp only [sk_0, sk_1, sk_2, sk_3, sk_4, sk_5, sk_6, sk_7, sk_8, sk_iadd, sk_isub, sk_imul, sk_iand, sk_ior, sk_ixor, sk_ishl, sk_ishr, sk_iushr, sk_idiv, sk_irem, sk_ineg, sk_ladd, sk_lsub, sk_lmul, sk_land, sk_lor, sk_ldiv, sk_lrem, sk_lneg, sk_lshl, sk_lshr, sk_i2l, sk_l2i, sk_lcmp, sk_dupI, sk_dupR, sk_dup2L, sk_dup2I, sk_popI, sk_ifeq, sk_ifne, sk_iflt, sk_ifge, sk_ifgt, sk_ifle, sk_iceq, sk_icne, sk_iclt, sk_icge, sk_icgt, sk_icle, sk_goto, sk_getf, sk_putf, sk_gets, sk_iald, sk_lald, sk_bald, sk_aald, sk_iast, sk_last, sk_bast, sk_aast, sk_alen, sk_newa, sk_newt, sk_new, sk_cs1, sk_cs2, sk_cs3, sk_cs4, sk_cs5, sk_cs6, sk_cv1, sk_cv2, sk_cv3, sk_cv4, sk_cv5, sk_cv6, sk_ci1, sk_ci2, sk_ci3, sk_ret0, sk_retI, sk_retL, sk_retR, sk_sw, sk_oin, sk_max, sk_min, sk_abs, lI_0, lI_s, lL_0, lL_s, lR_0, lR_s, vIo_e, vLo_e, vOo_e, stW_I, stW_L, stW_R, stW_0, stW_z, okSt_0, okSt_s, hV_eq, hK_eq, okF_0, okF_1, okF_3, is01_0, is01_1, is01_i, Int.toNat_natCast, Int.reduceEq, Int.reduceLE, Int.reduceLT, Int.reduceNeg, Nat.reduceLT, not_true_eq_false, not_false_eq_true, reduceIte, Option.toList, List.cons_append, List.nil_append, List.set_cons_zero, List.set_cons_succ, List.not_mem_nil, List.mem_cons, if_false, if_true, ite_true, ite_false, and_self, and_true, true_and, Nat.reduceAdd, Nat.reduceLeDiff, Nat.reduceEqDiff, Nat.zero_add, Nat.le_refl, Nat.zero_le, or_false, false_or, Int.reduceToNat, or_true, true_or, eq_self, and_false, false_and, inR_d, nc_4, nc_5, nc_6, nc_7, nc_8, nc_16, nc_18, nc_20, nc_24, nc_32, nc_40, nc_64, nc_104, nc_120, nc_160, nc_256, nc_300, nc_330, nc_390, nc_1200, nc_1260, nc_3012, nc_9834, okSt_1i, okSt_1r, okSt_1n, List.length_cons, List.length_nil, xpk_succ cd_75_0, xpk_succ cd_75_1, xpk_succ cd_75_4, xpk_succ cd_75_5, xpk_succ cd_75_6, xpk_succ cd_75_7, xpk_succ cd_75_10, xpk_succ cd_75_13, xpk_succ cd_75_14, xpk_succ cd_75_17, xpk_succ cd_75_19, xpk_succ cd_75_22, xpk_succ cd_75_23, xpk_succ cd_75_26, xpk_succ cd_75_27, xpk_succ cd_75_30, xpk_succ cd_75_31, xpk_succ cd_75_34, xpk_succ cd_75_36, xpk_succ cd_75_37, xpk_succ cd_75_40, xpk_succ cd_75_43, xpk_succ cd_75_46, hR_2, hR_3, hR_4, hR_5, hR_6, hR_7, hR_s2, hR_s3, hR_s4, hR_s5, hR_s6, hR_s7, (hR_T hb.1), (hR_sT hb.1), (R_0 hb), (R_1 hb), (R_T0 hb), (R_N hb), hK_R, hb.2.1.1, hk.2.1.1, hb.2.2.1.1, hb.2.2.1.2.2, hb.2.2.2.1, (E_kindAt (TOK_R hb.1 hk)), (E_placeAt (TOK_R hb.1 hk)), (E_valueAt (TOK_R hb.1 hk)), (F_both hb hk hf)]
set_option maxHeartbeats 4000000 in
theorem F_take {d : Nat} {h : AH} {T D cnt : Nat} {n : Int} {kn vn pn : Nat → Int} (hb : RDB h T D) (hk : TOK h cnt n kn vn pn) {L : Nat} {c l f p : Int} {dd : Nat → Int} {a x : Int} (hf : f ≠ 0) (hx : x ≠ 63) (Q : Option AV → AH → Prop) : XC (d + 3) 62 [vR 70, vI x] (hR h T D a 63 c l f p L dd) Q = Q none (hR h T D a 63 c l f p L dd) := by
  have hx2 : ¬ (63 = x) := fun z => hx z.symm
  refine XC_eq (Nat.le_of_ble_eq_true rfl) ?_ Q
  show XP (d + 2) 62 0 [some (vR 70), some (vI x)] [] (hR h T D a 63 c l f p L dd) _
  refine xpk_sound (stops := []) (n := 40) ?_
  simp only [sk_0, sk_1, sk_2, sk_3, sk_4, sk_5, sk_6, sk_7, sk_8, sk_iadd, sk_isub, sk_imul, sk_iand, sk_ior, sk_ixor, sk_ishl, sk_ishr, sk_iushr, sk_idiv, sk_irem, sk_ineg, sk_ladd, sk_lsub, sk_lmul, sk_land, sk_lor, sk_ldiv, sk_lrem, sk_lneg, sk_lshl, sk_lshr, sk_i2l, sk_l2i, sk_lcmp, sk_dupI, sk_dupR, sk_dup2L, sk_dup2I, sk_popI, sk_ifeq, sk_ifne, sk_iflt, sk_ifge, sk_ifgt, sk_ifle, sk_iceq, sk_icne, sk_iclt, sk_icge, sk_icgt, sk_icle, sk_goto, sk_getf, sk_putf, sk_gets, sk_iald, sk_lald, sk_bald, sk_aald, sk_iast, sk_last, sk_bast, sk_aast, sk_alen, sk_newa, sk_newt, sk_new, sk_cs1, sk_cs2, sk_cs3, sk_cs4, sk_cs5, sk_cs6, sk_cv1, sk_cv2, sk_cv3, sk_cv4, sk_cv5, sk_cv6, sk_ci1, sk_ci2, sk_ci3, sk_ret0, sk_retI, sk_retL, sk_retR, sk_sw, sk_oin, sk_max, sk_min, sk_abs, lI_0, lI_s, lL_0, lL_s, lR_0, lR_s, vIo_e, vLo_e, vOo_e, stW_I, stW_L, stW_R, stW_0, stW_z, okSt_0, okSt_s, hV_eq, hK_eq, okF_0, okF_1, okF_3, is01_0, is01_1, is01_i, Int.toNat_natCast, Int.reduceEq, Int.reduceLE, Int.reduceLT, Int.reduceNeg, Nat.reduceLT, not_true_eq_false, not_false_eq_true, reduceIte, Option.toList, List.cons_append, List.nil_append, List.set_cons_zero, List.set_cons_succ, List.not_mem_nil, List.mem_cons, if_false, if_true, ite_true, ite_false, and_self, and_true, true_and, Nat.reduceAdd, Nat.reduceLeDiff, Nat.reduceEqDiff, Nat.zero_add, Nat.le_refl, Nat.zero_le, or_false, false_or, Int.reduceToNat, or_true, true_or, eq_self, and_false, false_and, inR_d, nc_4, nc_5, nc_6, nc_7, nc_8, nc_16, nc_18, nc_20, nc_24, nc_32, nc_40, nc_64, nc_104, nc_120, nc_160, nc_256, nc_300, nc_330, nc_390, nc_1200, nc_1260, nc_3012, nc_9834, okSt_1i, okSt_1r, okSt_1n, List.length_cons, List.length_nil, xpk_succ cd_62_0, xpk_succ cd_62_1, xpk_succ cd_62_4, xpk_succ cd_62_5, xpk_succ cd_62_8, xpk_succ cd_62_9, xpk_succ cd_62_12, xpk_succ cd_62_15, xpk_succ cd_62_16, xpk_succ cd_62_17, xpk_succ cd_62_20, hR_2, hR_3, hR_4, hR_5, hR_6, hR_7, hR_s2, hR_s3, hR_s4, hR_s5, hR_s6, hR_s7, (hR_T hb.1), (hR_sT hb.1), (R_0 hb), (R_1 hb), (R_T0 hb), (R_N hb), hK_R, hb.2.1.1, hk.2.1.1, hb.2.2.1.1, hb.2.2.1.2.2, hb.2.2.2.1, (E_kindAt (TOK_R hb.1 hk)), (E_placeAt (TOK_R hb.1 hk)), (E_valueAt (TOK_R hb.1 hk)), hx2, (E_failx hb hk hf)]
set_option maxHeartbeats 4000000 in
theorem F_num {d : Nat} {h : AH} {T D cnt : Nat} {n : Int} {kn vn pn : Nat → Int} (hb : RDB h T D) (hk : TOK h cnt n kn vn pn) {j L : Nat} {c l f p : Int} {dd : Nat → Int} {x y : Int} (hf : f ≠ 0) (Q : Option AV → AH → Prop) : XC (d + 3) 63 [vR 70, vI x, vI y] (hR h T D (j : Int) 63 c l f p L dd) Q = Q (some (vI x)) (hR h T D (j : Int) 63 c l f p L dd) := by
  refine XC_eq (Nat.le_of_ble_eq_true rfl) ?_ Q
  show XP (d + 2) 63 0 [some (vR 70), some (vI x), some (vI y), none] [] (hR h T D (j : Int) 63 c l f p L dd) _
  refine xpk_sound (stops := []) (n := 60) ?_
  simp only [sk_0, sk_1, sk_2, sk_3, sk_4, sk_5, sk_6, sk_7, sk_8, sk_iadd, sk_isub, sk_imul, sk_iand, sk_ior, sk_ixor, sk_ishl, sk_ishr, sk_iushr, sk_idiv, sk_irem, sk_ineg, sk_ladd, sk_lsub, sk_lmul, sk_land, sk_lor, sk_ldiv, sk_lrem, sk_lneg, sk_lshl, sk_lshr, sk_i2l, sk_l2i, sk_lcmp, sk_dupI, sk_dupR, sk_dup2L, sk_dup2I, sk_popI, sk_ifeq, sk_ifne, sk_iflt, sk_ifge, sk_ifgt, sk_ifle, sk_iceq, sk_icne, sk_iclt, sk_icge, sk_icgt, sk_icle, sk_goto, sk_getf, sk_putf, sk_gets, sk_iald, sk_lald, sk_bald, sk_aald, sk_iast, sk_last, sk_bast, sk_aast, sk_alen, sk_newa, sk_newt, sk_new, sk_cs1, sk_cs2, sk_cs3, sk_cs4, sk_cs5, sk_cs6, sk_cv1, sk_cv2, sk_cv3, sk_cv4, sk_cv5, sk_cv6, sk_ci1, sk_ci2, sk_ci3, sk_ret0, sk_retI, sk_retL, sk_retR, sk_sw, sk_oin, sk_max, sk_min, sk_abs, lI_0, lI_s, lL_0, lL_s, lR_0, lR_s, vIo_e, vLo_e, vOo_e, stW_I, stW_L, stW_R, stW_0, stW_z, okSt_0, okSt_s, hV_eq, hK_eq, okF_0, okF_1, okF_3, is01_0, is01_1, is01_i, Int.toNat_natCast, Int.reduceEq, Int.reduceLE, Int.reduceLT, Int.reduceNeg, Nat.reduceLT, not_true_eq_false, not_false_eq_true, reduceIte, Option.toList, List.cons_append, List.nil_append, List.set_cons_zero, List.set_cons_succ, List.not_mem_nil, List.mem_cons, if_false, if_true, ite_true, ite_false, and_self, and_true, true_and, Nat.reduceAdd, Nat.reduceLeDiff, Nat.reduceEqDiff, Nat.zero_add, Nat.le_refl, Nat.zero_le, or_false, false_or, Int.reduceToNat, or_true, true_or, eq_self, and_false, false_and, inR_d, nc_4, nc_5, nc_6, nc_7, nc_8, nc_16, nc_18, nc_20, nc_24, nc_32, nc_40, nc_64, nc_104, nc_120, nc_160, nc_256, nc_300, nc_330, nc_390, nc_1200, nc_1260, nc_3012, nc_9834, okSt_1i, okSt_1r, okSt_1n, List.length_cons, List.length_nil, xpk_succ cd_63_0, xpk_succ cd_63_1, xpk_succ cd_63_4, xpk_succ cd_63_5, xpk_succ cd_63_8, xpk_succ cd_63_11, xpk_succ cd_63_12, xpk_succ cd_63_13, xpk_succ cd_63_16, xpk_succ cd_63_18, xpk_succ cd_63_21, xpk_succ cd_63_22, xpk_succ cd_63_23, xpk_succ cd_63_26, xpk_succ cd_63_27, xpk_succ cd_63_28, xpk_succ cd_63_29, xpk_succ cd_63_30, xpk_succ cd_63_33, xpk_succ cd_63_34, xpk_succ cd_63_35, xpk_succ cd_63_38, xpk_succ cd_63_39, xpk_succ cd_63_40, xpk_succ cd_63_43, xpk_succ cd_63_44, xpk_succ cd_63_45, xpk_succ cd_63_46, xpk_succ cd_63_49, xpk_succ cd_63_50, hR_2, hR_3, hR_4, hR_5, hR_6, hR_7, hR_s2, hR_s3, hR_s4, hR_s5, hR_s6, hR_s7, (hR_T hb.1), (hR_sT hb.1), (R_0 hb), (R_1 hb), (R_T0 hb), (R_N hb), hK_R, hb.2.1.1, hk.2.1.1, hb.2.2.1.1, hb.2.2.1.2.2, hb.2.2.2.1, (E_kindAt (TOK_R hb.1 hk)), (E_placeAt (TOK_R hb.1 hk)), (E_valueAt (TOK_R hb.1 hk)), (E_failx hb hk hf)]
/-! what reading on comes to: read, with the pile's machine as far, or a fault, and the machine's -/
def SFA (h : AH) (T D cnt : Nat) (n : Int) (pn : Nat → Int) (l f : Int) (jf : Nat) (g : AH) : Prop := ∃ (a c : Int) (L : Nat) (dd : Nat → Int), g = hR h T D a 63 c l f (plf cnt n pn jf) L dd ∧ L ≤ 300 ∧ f ≠ 0
def ADV (cnt j L : Nat) (dd : Nat → Int) (j' L' : Nat) (dd' : Nat → Int) : Prop := (j < j' ∧ j' ≤ cnt) ∧ (L ≤ L' ∧ L' + j ≤ L + j') ∧ ∀ i, i < L → dd' i = dd i
def RES (h : AH) (T D cnt : Nat) (n : Int) (kn vn pn : Nat → Int) (l : Int) (X : Nat → Nat → (Nat → Int) → Prop) (S0 : oSt) (j L o : Nat) (dd : Nat → Int) (g : AH) : Prop :=
  (∃ (j' L' : Nat) (dd' : Nat → Int), g = hR h T D (j' : Int) (tkf cnt kn vn j').1 (o : Int) l 0 (-1) L' dd' ∧ ADV cnt j L dd j' L' dd' ∧ X j' L' dd') ∨ (∃ f jf, SFA h T D cnt n pn l f jf g ∧ oHa l (tkf cnt kn vn) S0 f jf)
theorem tk_le {cnt : Nat} {kn vn : Nat → Int} {j : Nat} (h : (tkf cnt kn vn j).1 ≠ 62) : j < cnt := by
  unfold tkf at h
  by_cases z : j < cnt
  · exact z
  · rw [if_neg z] at h; exact absurd rfl h
theorem ADV_t {cnt j L j1 L1 j2 L2 : Nat} {dd dd1 dd2 : Nat → Int} (h1 : ADV cnt j L dd j1 L1 dd1) (h2 : ADV cnt j1 L1 dd1 j2 L2 dd2) : ADV cnt j L dd j2 L2 dd2 := by
  obtain ⟨⟨a1, a2⟩, ⟨a3, a4⟩, a5⟩ := h1
  obtain ⟨⟨b1, b2⟩, ⟨b3, b4⟩, b5⟩ := h2
  exact ⟨⟨by omega, by omega⟩, ⟨by omega, by omega⟩, fun i hi => by rw [b5 i (by omega), a5 i hi]⟩
theorem ADV_1 {cnt j L : Nat} {dd : Nat → Int} (h : j < cnt) : ADV cnt j L dd (j + 1) L dd := ⟨⟨by omega, by omega⟩, ⟨by omega, by omega⟩, fun _ _ => rfl⟩
theorem ADV_d {cnt j L j1 L1 : Nat} {dd dd1 : Nat → Int} {x : Int} (h : ADV cnt j L dd j1 L1 dd1) (hs : L1 + 1 + j ≤ L + j1) : ADV cnt j L dd j1 (L1 + 1) (upF dd1 L1 x) := by
  obtain ⟨⟨a1, a2⟩, ⟨a3, a4⟩, a5⟩ := h
  exact ⟨⟨a1, a2⟩, ⟨by omega, by omega⟩, fun i hi => by rw [upF_ne (by omega), a5 i hi]⟩
theorem ask_f {x : Int} {R : List Int} (h : 4 ≤ rankO x) : askA (x :: R) = false := by
  have h1 : x ≠ 41 := fun z => by subst z; exact absurd h (by decide)
  show (decide (opJ (x :: R) = 41) && (decide (x = 41) || decide (1 ≤ rankO x ∧ rankO x ≤ 3))) = false
  rw [decide_eq_false (p := x = 41) h1, decide_eq_false (p := 1 ≤ rankO x ∧ rankO x ≤ 3) (by omega), Bool.false_or, Bool.and_false]
theorem oneS_e {P R : List Int} {o : Nat} {c : oCd} {q : Int × Int} {j : Nat} (h : ∀ x, x ∈ P → 7 ≤ rankO x) (h2 : topL 7 R) : oneS (P ++ R) o c q j = .inl (R, true, j, o - cnO P, (c ++ [q]) ++ emO P) := by
  unfold oneS
  rw [stJ_p h h2]
theorem un_7 {U : List Int} (h : ∀ x, x ∈ U → x = 4 ∨ x = 5) : (∀ x, x ∈ U → 7 ≤ rankO x) ∧ cnO U = U.length := by
  refine ⟨fun x hx => by rcases h x hx with rfl | rfl <;> decide, ?_⟩
  unfold cnO
  rw [List.filter_eq_self.mpr (fun x hx => by rcases h x hx with rfl | rfl <;> decide)]
def ONEr (h : AH) (T D cnt : Nat) (n : Int) (kn vn pn : Nat → Int) (l : Int) (N : Nat) (U R : List Int) (cc : oCd) (j L o : Nat) (dd : Nat → Int) (g : AH) : Prop :=
  RES h T D cnt n kn vn pn l (fun j' L' dd' => ∃ cm, Ex dd' L L' cm (5 * N + 1) ∧ oRe l (tkf cnt kn vn) (U ++ R, false, j, o, cc) (R, true, j', o - U.length, cc ++ (cm ++ emO U))) (U ++ R, false, j, o, cc) j L o dd g
def ONEp (h : AH) (T D cnt : Nat) (n : Int) (kn vn pn : Nat → Int) (l : Int) (N : Nat) : Prop :=
  ∀ (d j o L : Nat) (dd : Nat → Int) (U R : List Int) (cc : oCd), o + N = 8 → j ≤ cnt → L ≤ j → topL 7 R → (∀ x, x ∈ U → x = 4 ∨ x = 5) → U.length ≤ o → ((tkf cnt kn vn j).1 = 31 → askA (U ++ R) = false) → 8 * N + 8 ≤ d → ∃ g, (∀ Q : Option AV → AH → Prop, XC d 70 [vR 70] (hR h T D (j : Int) (tkf cnt kn vn j).1 (o : Int) l 0 (-1) L dd) Q = Q none g) ∧ ONEr h T D cnt n kn vn pn l N U R cc j L o dd g
/-- product (r = 6), sum (r = 5) -/
def PRr (h : AH) (T D cnt : Nat) (n : Int) (kn vn pn : Nat → Int) (l : Int) (K r : Nat) (R : List Int) (cc : oCd) (j L o : Nat) (dd : Nat → Int) (rr : Option AV) (g : AH) : Prop :=
  rr = none ∧ RES h T D cnt n kn vn pn l (fun j' L' dd' => ∃ cm pend, (∀ x, x ∈ pend → (r : Int) ≤ rankO x ∧ rankO x ≤ 6) ∧ Ex dd' L L' (cm ++ emO pend) K ∧ oRe l (tkf cnt kn vn) (R, false, j, o, cc) (pend ++ R, true, j', o, cc ++ cm) ∧ ((r = 6 → ¬ (48 ≤ (tkf cnt kn vn j').1 ∧ (tkf cnt kn vn j').1 ≤ 49)) ∧ (r = 5 → ¬ (46 ≤ (tkf cnt kn vn j').1 ∧ (tkf cnt kn vn j').1 ≤ 49)))) (R, false, j, o, cc) j L o dd g
def PRp (h : AH) (T D cnt : Nat) (n : Int) (kn vn pn : Nat → Int) (l : Int) (N K r M dp : Nat) : Prop :=
  ∀ (d j o L : Nat) (dd : Nat → Int) (R : List Int) (cc : oCd), o + N = 8 → j ≤ cnt → L ≤ j → topL r R → ((tkf cnt kn vn j).1 = 31 → askA R = false) → 8 * N + dp ≤ d → ∃ g, (∀ Q : Option AV → AH → Prop, XC d M [vR 70] (hR h T D (j : Int) (tkf cnt kn vn j).1 (o : Int) l 0 (-1) L dd) Q = Q none g) ∧ PRr h T D cnt n kn vn pn l K r R cc j L o dd none g
set_option maxHeartbeats 4000000 in
theorem PD_l {h : AH} {T D cnt : Nat} {n : Int} {kn vn pn : Nat → Int} {l : Int} (hb : RDB h T D) (hk : TOK h cnt n kn vn pn) (hl : 0 ≤ l ∧ l ≤ 4) {N : Nat} (ih : ONEp h T D cnt n kn vn pn l N) {j0 L0 o : Nat} {dd0 : Nat → Int} {R : List Int} {cc : oCd} (ho : o + N = 8) (hRt : topL 6 R) : ∀ (m d j L i : Nat) (dd : Nat → Int) (cm : oCd) (pend : List Int) (l2 : Option AV), cnt < j + m → L ≤ j → 2 * i ≤ j → ADV cnt j0 L0 dd0 j L dd → (∀ x, x ∈ pend → (6 : Int) ≤ rankO x ∧ rankO x ≤ 6) → Ex dd L0 L (cm ++ emO pend) (5 * N + 2) → oRe l (tkf cnt kn vn) (R, false, j0, o, cc) (pend ++ R, true, j, o, cc ++ cm) → 8 * N + 8 ≤ d → XP d 69 6 [some (vR 70), some (vI (i : Int)), l2] [] (hR h T D (j : Int) (tkf cnt kn vn j).1 (o : Int) l 0 (-1) L dd) (PRr h T D cnt n kn vn pn l (5 * N + 2) 6 R cc j0 L0 o dd0) := by
  intro m
  induction m with
  | zero => intro d j L i dd cm pend l2 hm hL hi hA; exact absurd hm (by have := hA.1.2; omega)
  | succ m ihm =>
  intro d j L i dd cm pend l2 hm hL hi hA hp hE hO hd
  obtain ⟨d, rfl⟩ : ∃ d', d = d' + 4 := ⟨d - 4, by omega⟩
  have hc := hk.1.1
  have i1 : ¬ ((300 : Int) ≤ (i : Int)) := by have := hA.1.2; omega
  have i2 : w32 ((i : Int) + 1) = ((i + 1 : Nat) : Int) := by have := hA.1.2; unfold w32; omega
  by_cases z : 48 ≤ (tkf cnt kn vn j).1 ∧ (tkf cnt kn vn j).1 ≤ 49
  · have jc := tk_le (cnt := cnt) (kn := kn) (vn := vn) (j := j) (by omega)
    have i3 : ¬ ((300 : Int) ≤ ((i + 1 : Nat) : Int)) := by omega
    -- the machine takes the sign
    have kz : (tkf cnt kn vn j).1 = 48 ∨ (tkf cnt kn vn j).1 = 49 := by omega
    obtain ⟨op, hop, hk1, hk2⟩ : ∃ op : Int, rankO op = 6 ∧ (tkf cnt kn vn j).1 - 40 = op ∧ (op = 8 ∨ op = 9) := by
      rcases kz with e | e
      · exact ⟨8, by decide, by omega, Or.inl rfl⟩
      · exact ⟨9, by decide, by omega, Or.inr rfl⟩
    have st : oRe l (tkf cnt kn vn) (pend ++ R, true, j, o, cc ++ cm) (op :: R, false, j + 1, o, (cc ++ cm) ++ emO pend) := oRe_1 (by
      show behS (tkf cnt kn vn) (pend ++ R) j o (cc ++ cm) = _
      have eb : btw (tkf cnt kn vn j).1 (pend ++ R) = op := by unfold btw; rw [if_pos (by omega)]; exact hk1
      unfold behS
      rw [eb, if_pos (by omega), hop, stJ_p (fun x hx => (hp x hx).1) hRt, cnO_0 (fun x hx => by have := hp x hx; omega)]
      rfl)
    obtain ⟨g, e1, hr⟩ := ih (d + 4) (j + 1) o L dd [] (op :: R) ((cc ++ cm) ++ emO pend) ho (by omega) (by omega) (topL_c (by omega)) (fun x hx => by cases hx) (Nat.zero_le _) (fun _ => ask_f (by omega)) (by omega)
    have tail : ∀ (z1 : (tkf cnt kn vn j).1 = 48 ∨ (tkf cnt kn vn j).1 = 49), XP (d + 4) 69 6 [some (vR 70), some (vI (i : Int)), l2] [] (hR h T D (j : Int) (tkf cnt kn vn j).1 (o : Int) l 0 (-1) L dd) (PRr h T D cnt n kn vn pn l (5 * N + 2) 6 R cc j0 L0 o dd0) := by
      intro z1
      rcases hr with ⟨j2, L2, dd2, rfl, hA2, hX⟩ | ⟨f, jf, ⟨a, c, L2, dd2, rfl, h3, hf⟩, hH⟩
      · obtain ⟨cmX, hEx, hOx⟩ := hX
        have hEx : Ex dd2 L L2 (cmX ++ emO []) (5 * N + 1) := by rw [show emO [] = [] from rfl, List.append_nil]; exact hEx
        have hOx : oRe l (tkf cnt kn vn) (op :: R, false, j + 1, o, (cc ++ cm) ++ emO pend) ([] ++ (op :: R), true, j2, o, ((cc ++ cm) ++ emO pend) ++ cmX) := by
          have q := hOx
          rw [show emO [] = [] from rfl, List.append_nil] at q
          exact q
        have hpX : ∀ x, x ∈ ([] : List Int) → (6 : Int) ≤ rankO x ∧ rankO x ≤ 6 := fun x hx => by cases hx
        have A1 : ADV cnt j0 L0 dd0 j2 L2 dd2 := ADV_t hA (ADV_t (ADV_1 jc) hA2)
        have bnd := hA2.1
        have bn2 := hA2.2.1
        have l3 : L2 < 300 := by omega
        have E2 : ∀ x : Int, x = op + 2 → Ex (upF dd2 L2 x) L0 (L2 + 1) (((cm ++ emO pend) ++ cmX) ++ emO ([] ++ [op])) (5 * N + 2) := fun x hx => by
          have := Ex_bin (dd := upF dd2 L2 x) (Ex_w (fun i a1 a2 => by rw [upF_ne (by omega), hA2.2.2 i a2]) (Nat.le_refl _) hE) (Ex_w (fun i a1 a2 => by rw [upF_ne (by omega)]) (Nat.le_refl _) hEx) (o := op) (by omega) (by omega) (by rw [upF_at]; exact hx)
          have e0 : ((cm ++ emO pend) ++ cmX) ++ emO ([] ++ [op]) = (cm ++ emO pend) ++ ((cmX ++ emO []) ++ [(op, 0)]) := by rw [emO_a, List.append_assoc, List.append_assoc cmX]; rfl
          rw [e0]
          exact Ex_w (fun _ _ _ => rfl) (by omega) this
        have O2 : oRe l (tkf cnt kn vn) (R, false, j0, o, cc) (([] ++ [op]) ++ R, true, j2, o, cc ++ ((cm ++ emO pend) ++ cmX)) := by
          have := oRe_t hO (oRe_t st hOx)
          have e0 : cc ++ ((cm ++ emO pend) ++ cmX) = ((cc ++ cm) ++ emO pend) ++ cmX := by rw [List.append_assoc cm, List.append_assoc, List.append_assoc cc]
          rw [e0, List.append_assoc []]
          exact this
        rcases z1 with z1 | z1
        · have y := ihm (d + 4) j2 (L2 + 1) (i + 1) (upF dd2 L2 (32 * 0 + 10)) ((cm ++ emO pend) ++ cmX) ([] ++ [op]) (some (vI 10)) (by omega) (by omega) (by omega) (ADV_d A1 (by have := hA.2.1; omega)) (fun x hx => by
            rcases List.mem_append.mp hx with hx | hx
            · have := hpX x hx; omega
            · rw [List.mem_singleton.mp hx]; omega) (E2 _ (by omega)) O2 (by omega)
          refine xpk_sound (stops := [6]) (n := 60) ?_
          simp only [sk_0, sk_1, sk_2, sk_3, sk_4, sk_5, sk_6, sk_7, sk_8, sk_iadd, sk_isub, sk_imul, sk_iand, sk_ior, sk_ixor, sk_ishl, sk_ishr, sk_iushr, sk_idiv, sk_irem, sk_ineg, sk_ladd, sk_lsub, sk_lmul, sk_land, sk_lor, sk_ldiv, sk_lrem, sk_lneg, sk_lshl, sk_lshr, sk_i2l, sk_l2i, sk_lcmp, sk_dupI, sk_dupR, sk_dup2L, sk_dup2I, sk_popI, sk_ifeq, sk_ifne, sk_iflt, sk_ifge, sk_ifgt, sk_ifle, sk_iceq, sk_icne, sk_iclt, sk_icge, sk_icgt, sk_icle, sk_goto, sk_getf, sk_putf, sk_gets, sk_iald, sk_lald, sk_bald, sk_aald, sk_iast, sk_last, sk_bast, sk_aast, sk_alen, sk_newa, sk_newt, sk_new, sk_cs1, sk_cs2, sk_cs3, sk_cs4, sk_cs5, sk_cs6, sk_cv1, sk_cv2, sk_cv3, sk_cv4, sk_cv5, sk_cv6, sk_ci1, sk_ci2, sk_ci3, sk_ret0, sk_retI, sk_retL, sk_retR, sk_sw, sk_oin, sk_max, sk_min, sk_abs, lI_0, lI_s, lL_0, lL_s, lR_0, lR_s, vIo_e, vLo_e, vOo_e, stW_I, stW_L, stW_R, stW_0, stW_z, okSt_0, okSt_s, hV_eq, hK_eq, okF_0, okF_1, okF_3, is01_0, is01_1, is01_i, Int.toNat_natCast, Int.reduceEq, Int.reduceLE, Int.reduceLT, Int.reduceNeg, Nat.reduceLT, not_true_eq_false, not_false_eq_true, reduceIte, Option.toList, List.cons_append, List.nil_append, List.set_cons_zero, List.set_cons_succ, List.not_mem_nil, List.mem_cons, if_false, if_true, ite_true, ite_false, and_self, and_true, true_and, Nat.reduceAdd, Nat.reduceLeDiff, Nat.reduceEqDiff, Nat.zero_add, Nat.le_refl, Nat.zero_le, or_false, false_or, Int.reduceToNat, or_true, true_or, eq_self, and_false, false_and, inR_d, nc_4, nc_5, nc_6, nc_7, nc_8, nc_16, nc_18, nc_20, nc_24, nc_32, nc_40, nc_64, nc_104, nc_120, nc_160, nc_256, nc_300, nc_330, nc_390, nc_1200, nc_1260, nc_3012, nc_9834, okSt_1i, okSt_1r, okSt_1n, List.length_cons, List.length_nil, xpk_succ cd_69_6, xpk_succ cd_69_7, xpk_succ cd_69_10, xpk_succ cd_69_13, xpk_succ cd_69_14, xpk_succ cd_69_17, xpk_succ cd_69_19, xpk_succ cd_69_22, xpk_succ cd_69_23, xpk_succ cd_69_26, xpk_succ cd_69_28, xpk_succ cd_69_31, xpk_succ cd_69_32, xpk_succ cd_69_35, xpk_succ cd_69_37, xpk_succ cd_69_40, xpk_succ cd_69_42, xpk_succ cd_69_45, xpk_succ cd_69_47, xpk_succ cd_69_48, xpk_succ cd_69_49, xpk_succ cd_69_52, xpk_succ cd_69_53, xpk_succ cd_69_56, xpk_succ cd_69_57, xpk_succ cd_69_60, xpk_succ cd_69_61, xpk_succ cd_69_62, xpk_succ cd_69_65, xpk_succ cd_69_68, xpk_succ cd_69_71, hR_2, hR_3, hR_4, hR_5, hR_6, hR_7, hR_s2, hR_s3, hR_s4, hR_s5, hR_s6, hR_s7, (hR_T hb.1), (hR_sT hb.1), (R_0 hb), (R_1 hb), (R_T0 hb), (R_N hb), hK_R, hb.2.1.1, hk.2.1.1, hb.2.2.1.1, hb.2.2.1.2.2, hb.2.2.2.1, (E_kindAt (TOK_R hb.1 hk)), (E_placeAt (TOK_R hb.1 hk)), (E_valueAt (TOK_R hb.1 hk)), i1, i2, (E_step hb hk (show j < 1000 by omega)), e1, z1, (E_add hb hk l3 (show (0 : Int) ≤ 0 by decide) (show (0 : Int) ≤ 20000 by decide) (show (0 : Int) ≤ 10 by decide) (show (10 : Int) < 32 by decide))]
          exact y
        · have y := ihm (d + 4) j2 (L2 + 1) (i + 1) (upF dd2 L2 (32 * 0 + 11)) ((cm ++ emO pend) ++ cmX) ([] ++ [op]) (some (vI 11)) (by omega) (by omega) (by omega) (ADV_d A1 (by have := hA.2.1; omega)) (fun x hx => by
            rcases List.mem_append.mp hx with hx | hx
            · have := hpX x hx; omega
            · rw [List.mem_singleton.mp hx]; omega) (E2 _ (by omega)) O2 (by omega)
          refine xpk_sound (stops := [6]) (n := 60) ?_
          simp only [sk_0, sk_1, sk_2, sk_3, sk_4, sk_5, sk_6, sk_7, sk_8, sk_iadd, sk_isub, sk_imul, sk_iand, sk_ior, sk_ixor, sk_ishl, sk_ishr, sk_iushr, sk_idiv, sk_irem, sk_ineg, sk_ladd, sk_lsub, sk_lmul, sk_land, sk_lor, sk_ldiv, sk_lrem, sk_lneg, sk_lshl, sk_lshr, sk_i2l, sk_l2i, sk_lcmp, sk_dupI, sk_dupR, sk_dup2L, sk_dup2I, sk_popI, sk_ifeq, sk_ifne, sk_iflt, sk_ifge, sk_ifgt, sk_ifle, sk_iceq, sk_icne, sk_iclt, sk_icge, sk_icgt, sk_icle, sk_goto, sk_getf, sk_putf, sk_gets, sk_iald, sk_lald, sk_bald, sk_aald, sk_iast, sk_last, sk_bast, sk_aast, sk_alen, sk_newa, sk_newt, sk_new, sk_cs1, sk_cs2, sk_cs3, sk_cs4, sk_cs5, sk_cs6, sk_cv1, sk_cv2, sk_cv3, sk_cv4, sk_cv5, sk_cv6, sk_ci1, sk_ci2, sk_ci3, sk_ret0, sk_retI, sk_retL, sk_retR, sk_sw, sk_oin, sk_max, sk_min, sk_abs, lI_0, lI_s, lL_0, lL_s, lR_0, lR_s, vIo_e, vLo_e, vOo_e, stW_I, stW_L, stW_R, stW_0, stW_z, okSt_0, okSt_s, hV_eq, hK_eq, okF_0, okF_1, okF_3, is01_0, is01_1, is01_i, Int.toNat_natCast, Int.reduceEq, Int.reduceLE, Int.reduceLT, Int.reduceNeg, Nat.reduceLT, not_true_eq_false, not_false_eq_true, reduceIte, Option.toList, List.cons_append, List.nil_append, List.set_cons_zero, List.set_cons_succ, List.not_mem_nil, List.mem_cons, if_false, if_true, ite_true, ite_false, and_self, and_true, true_and, Nat.reduceAdd, Nat.reduceLeDiff, Nat.reduceEqDiff, Nat.zero_add, Nat.le_refl, Nat.zero_le, or_false, false_or, Int.reduceToNat, or_true, true_or, eq_self, and_false, false_and, inR_d, nc_4, nc_5, nc_6, nc_7, nc_8, nc_16, nc_18, nc_20, nc_24, nc_32, nc_40, nc_64, nc_104, nc_120, nc_160, nc_256, nc_300, nc_330, nc_390, nc_1200, nc_1260, nc_3012, nc_9834, okSt_1i, okSt_1r, okSt_1n, List.length_cons, List.length_nil, xpk_succ cd_69_6, xpk_succ cd_69_7, xpk_succ cd_69_10, xpk_succ cd_69_13, xpk_succ cd_69_14, xpk_succ cd_69_17, xpk_succ cd_69_19, xpk_succ cd_69_22, xpk_succ cd_69_23, xpk_succ cd_69_26, xpk_succ cd_69_28, xpk_succ cd_69_31, xpk_succ cd_69_32, xpk_succ cd_69_35, xpk_succ cd_69_37, xpk_succ cd_69_40, xpk_succ cd_69_42, xpk_succ cd_69_45, xpk_succ cd_69_47, xpk_succ cd_69_48, xpk_succ cd_69_49, xpk_succ cd_69_52, xpk_succ cd_69_53, xpk_succ cd_69_56, xpk_succ cd_69_57, xpk_succ cd_69_60, xpk_succ cd_69_61, xpk_succ cd_69_62, xpk_succ cd_69_65, xpk_succ cd_69_68, xpk_succ cd_69_71, hR_2, hR_3, hR_4, hR_5, hR_6, hR_7, hR_s2, hR_s3, hR_s4, hR_s5, hR_s6, hR_s7, (hR_T hb.1), (hR_sT hb.1), (R_0 hb), (R_1 hb), (R_T0 hb), (R_N hb), hK_R, hb.2.1.1, hk.2.1.1, hb.2.2.1.1, hb.2.2.1.2.2, hb.2.2.2.1, (E_kindAt (TOK_R hb.1 hk)), (E_placeAt (TOK_R hb.1 hk)), (E_valueAt (TOK_R hb.1 hk)), i1, i2, (E_step hb hk (show j < 1000 by omega)), e1, z1, (E_add hb hk l3 (show (0 : Int) ≤ 0 by decide) (show (0 : Int) ≤ 20000 by decide) (show (0 : Int) ≤ 11 by decide) (show (11 : Int) < 32 by decide))]
          exact y
      · have hH2 := oHa_t hO (oHa_t st hH)
        have y : ∀ L3 dd3, L3 ≤ 300 → PRr h T D cnt n kn vn pn l (5 * N + 2) 6 R cc j0 L0 o dd0 none (hR h T D a 63 c l f (plf cnt n pn jf) L3 dd3) := fun L3 dd3 h4 => ⟨rfl, Or.inr ⟨f, jf, ⟨a, c, L3, dd3, rfl, h4, hf⟩, hH2⟩⟩
        rcases Nat.lt_or_ge L2 300 with l3 | l3
        · have y := fun x => y (L2 + 1) (upF dd2 L2 x) l3
          rcases z1 with z1 | z1
          · refine xpk_sound (stops := []) (n := 80) ?_
            simp only [sk_0, sk_1, sk_2, sk_3, sk_4, sk_5, sk_6, sk_7, sk_8, sk_iadd, sk_isub, sk_imul, sk_iand, sk_ior, sk_ixor, sk_ishl, sk_ishr, sk_iushr, sk_idiv, sk_irem, sk_ineg, sk_ladd, sk_lsub, sk_lmul, sk_land, sk_lor, sk_ldiv, sk_lrem, sk_lneg, sk_lshl, sk_lshr, sk_i2l, sk_l2i, sk_lcmp, sk_dupI, sk_dupR, sk_dup2L, sk_dup2I, sk_popI, sk_ifeq, sk_ifne, sk_iflt, sk_ifge, sk_ifgt, sk_ifle, sk_iceq, sk_icne, sk_iclt, sk_icge, sk_icgt, sk_icle, sk_goto, sk_getf, sk_putf, sk_gets, sk_iald, sk_lald, sk_bald, sk_aald, sk_iast, sk_last, sk_bast, sk_aast, sk_alen, sk_newa, sk_newt, sk_new, sk_cs1, sk_cs2, sk_cs3, sk_cs4, sk_cs5, sk_cs6, sk_cv1, sk_cv2, sk_cv3, sk_cv4, sk_cv5, sk_cv6, sk_ci1, sk_ci2, sk_ci3, sk_ret0, sk_retI, sk_retL, sk_retR, sk_sw, sk_oin, sk_max, sk_min, sk_abs, lI_0, lI_s, lL_0, lL_s, lR_0, lR_s, vIo_e, vLo_e, vOo_e, stW_I, stW_L, stW_R, stW_0, stW_z, okSt_0, okSt_s, hV_eq, hK_eq, okF_0, okF_1, okF_3, is01_0, is01_1, is01_i, Int.toNat_natCast, Int.reduceEq, Int.reduceLE, Int.reduceLT, Int.reduceNeg, Nat.reduceLT, not_true_eq_false, not_false_eq_true, reduceIte, Option.toList, List.cons_append, List.nil_append, List.set_cons_zero, List.set_cons_succ, List.not_mem_nil, List.mem_cons, if_false, if_true, ite_true, ite_false, and_self, and_true, true_and, Nat.reduceAdd, Nat.reduceLeDiff, Nat.reduceEqDiff, Nat.zero_add, Nat.le_refl, Nat.zero_le, or_false, false_or, Int.reduceToNat, or_true, true_or, eq_self, and_false, false_and, inR_d, nc_4, nc_5, nc_6, nc_7, nc_8, nc_16, nc_18, nc_20, nc_24, nc_32, nc_40, nc_64, nc_104, nc_120, nc_160, nc_256, nc_300, nc_330, nc_390, nc_1200, nc_1260, nc_3012, nc_9834, okSt_1i, okSt_1r, okSt_1n, List.length_cons, List.length_nil, xpk_succ cd_69_6, xpk_succ cd_69_7, xpk_succ cd_69_10, xpk_succ cd_69_13, xpk_succ cd_69_14, xpk_succ cd_69_17, xpk_succ cd_69_19, xpk_succ cd_69_22, xpk_succ cd_69_23, xpk_succ cd_69_26, xpk_succ cd_69_28, xpk_succ cd_69_31, xpk_succ cd_69_32, xpk_succ cd_69_35, xpk_succ cd_69_37, xpk_succ cd_69_40, xpk_succ cd_69_42, xpk_succ cd_69_45, xpk_succ cd_69_47, xpk_succ cd_69_48, xpk_succ cd_69_49, xpk_succ cd_69_52, xpk_succ cd_69_53, xpk_succ cd_69_56, xpk_succ cd_69_57, xpk_succ cd_69_60, xpk_succ cd_69_61, xpk_succ cd_69_62, xpk_succ cd_69_65, xpk_succ cd_69_68, xpk_succ cd_69_71, hR_2, hR_3, hR_4, hR_5, hR_6, hR_7, hR_s2, hR_s3, hR_s4, hR_s5, hR_s6, hR_s7, (hR_T hb.1), (hR_sT hb.1), (R_0 hb), (R_1 hb), (R_T0 hb), (R_N hb), hK_R, hb.2.1.1, hk.2.1.1, hb.2.2.1.1, hb.2.2.1.2.2, hb.2.2.2.1, (E_kindAt (TOK_R hb.1 hk)), (E_placeAt (TOK_R hb.1 hk)), (E_valueAt (TOK_R hb.1 hk)), i1, i2, (E_step hb hk (show j < 1000 by omega)), e1, z1, i3, (E_addg hb hk l3)]
            exact y _
          · refine xpk_sound (stops := []) (n := 80) ?_
            simp only [sk_0, sk_1, sk_2, sk_3, sk_4, sk_5, sk_6, sk_7, sk_8, sk_iadd, sk_isub, sk_imul, sk_iand, sk_ior, sk_ixor, sk_ishl, sk_ishr, sk_iushr, sk_idiv, sk_irem, sk_ineg, sk_ladd, sk_lsub, sk_lmul, sk_land, sk_lor, sk_ldiv, sk_lrem, sk_lneg, sk_lshl, sk_lshr, sk_i2l, sk_l2i, sk_lcmp, sk_dupI, sk_dupR, sk_dup2L, sk_dup2I, sk_popI, sk_ifeq, sk_ifne, sk_iflt, sk_ifge, sk_ifgt, sk_ifle, sk_iceq, sk_icne, sk_iclt, sk_icge, sk_icgt, sk_icle, sk_goto, sk_getf, sk_putf, sk_gets, sk_iald, sk_lald, sk_bald, sk_aald, sk_iast, sk_last, sk_bast, sk_aast, sk_alen, sk_newa, sk_newt, sk_new, sk_cs1, sk_cs2, sk_cs3, sk_cs4, sk_cs5, sk_cs6, sk_cv1, sk_cv2, sk_cv3, sk_cv4, sk_cv5, sk_cv6, sk_ci1, sk_ci2, sk_ci3, sk_ret0, sk_retI, sk_retL, sk_retR, sk_sw, sk_oin, sk_max, sk_min, sk_abs, lI_0, lI_s, lL_0, lL_s, lR_0, lR_s, vIo_e, vLo_e, vOo_e, stW_I, stW_L, stW_R, stW_0, stW_z, okSt_0, okSt_s, hV_eq, hK_eq, okF_0, okF_1, okF_3, is01_0, is01_1, is01_i, Int.toNat_natCast, Int.reduceEq, Int.reduceLE, Int.reduceLT, Int.reduceNeg, Nat.reduceLT, not_true_eq_false, not_false_eq_true, reduceIte, Option.toList, List.cons_append, List.nil_append, List.set_cons_zero, List.set_cons_succ, List.not_mem_nil, List.mem_cons, if_false, if_true, ite_true, ite_false, and_self, and_true, true_and, Nat.reduceAdd, Nat.reduceLeDiff, Nat.reduceEqDiff, Nat.zero_add, Nat.le_refl, Nat.zero_le, or_false, false_or, Int.reduceToNat, or_true, true_or, eq_self, and_false, false_and, inR_d, nc_4, nc_5, nc_6, nc_7, nc_8, nc_16, nc_18, nc_20, nc_24, nc_32, nc_40, nc_64, nc_104, nc_120, nc_160, nc_256, nc_300, nc_330, nc_390, nc_1200, nc_1260, nc_3012, nc_9834, okSt_1i, okSt_1r, okSt_1n, List.length_cons, List.length_nil, xpk_succ cd_69_6, xpk_succ cd_69_7, xpk_succ cd_69_10, xpk_succ cd_69_13, xpk_succ cd_69_14, xpk_succ cd_69_17, xpk_succ cd_69_19, xpk_succ cd_69_22, xpk_succ cd_69_23, xpk_succ cd_69_26, xpk_succ cd_69_28, xpk_succ cd_69_31, xpk_succ cd_69_32, xpk_succ cd_69_35, xpk_succ cd_69_37, xpk_succ cd_69_40, xpk_succ cd_69_42, xpk_succ cd_69_45, xpk_succ cd_69_47, xpk_succ cd_69_48, xpk_succ cd_69_49, xpk_succ cd_69_52, xpk_succ cd_69_53, xpk_succ cd_69_56, xpk_succ cd_69_57, xpk_succ cd_69_60, xpk_succ cd_69_61, xpk_succ cd_69_62, xpk_succ cd_69_65, xpk_succ cd_69_68, xpk_succ cd_69_71, hR_2, hR_3, hR_4, hR_5, hR_6, hR_7, hR_s2, hR_s3, hR_s4, hR_s5, hR_s6, hR_s7, (hR_T hb.1), (hR_sT hb.1), (R_0 hb), (R_1 hb), (R_T0 hb), (R_N hb), hK_R, hb.2.1.1, hk.2.1.1, hb.2.2.1.1, hb.2.2.1.2.2, hb.2.2.2.1, (E_kindAt (TOK_R hb.1 hk)), (E_placeAt (TOK_R hb.1 hk)), (E_valueAt (TOK_R hb.1 hk)), i1, i2, (E_step hb hk (show j < 1000 by omega)), e1, z1, i3, (E_addg hb hk l3)]
            exact y _
        · have y := y L2 dd2 h3
          rcases z1 with z1 | z1
          · refine xpk_sound (stops := []) (n := 80) ?_
            simp only [sk_0, sk_1, sk_2, sk_3, sk_4, sk_5, sk_6, sk_7, sk_8, sk_iadd, sk_isub, sk_imul, sk_iand, sk_ior, sk_ixor, sk_ishl, sk_ishr, sk_iushr, sk_idiv, sk_irem, sk_ineg, sk_ladd, sk_lsub, sk_lmul, sk_land, sk_lor, sk_ldiv, sk_lrem, sk_lneg, sk_lshl, sk_lshr, sk_i2l, sk_l2i, sk_lcmp, sk_dupI, sk_dupR, sk_dup2L, sk_dup2I, sk_popI, sk_ifeq, sk_ifne, sk_iflt, sk_ifge, sk_ifgt, sk_ifle, sk_iceq, sk_icne, sk_iclt, sk_icge, sk_icgt, sk_icle, sk_goto, sk_getf, sk_putf, sk_gets, sk_iald, sk_lald, sk_bald, sk_aald, sk_iast, sk_last, sk_bast, sk_aast, sk_alen, sk_newa, sk_newt, sk_new, sk_cs1, sk_cs2, sk_cs3, sk_cs4, sk_cs5, sk_cs6, sk_cv1, sk_cv2, sk_cv3, sk_cv4, sk_cv5, sk_cv6, sk_ci1, sk_ci2, sk_ci3, sk_ret0, sk_retI, sk_retL, sk_retR, sk_sw, sk_oin, sk_max, sk_min, sk_abs, lI_0, lI_s, lL_0, lL_s, lR_0, lR_s, vIo_e, vLo_e, vOo_e, stW_I, stW_L, stW_R, stW_0, stW_z, okSt_0, okSt_s, hV_eq, hK_eq, okF_0, okF_1, okF_3, is01_0, is01_1, is01_i, Int.toNat_natCast, Int.reduceEq, Int.reduceLE, Int.reduceLT, Int.reduceNeg, Nat.reduceLT, not_true_eq_false, not_false_eq_true, reduceIte, Option.toList, List.cons_append, List.nil_append, List.set_cons_zero, List.set_cons_succ, List.not_mem_nil, List.mem_cons, if_false, if_true, ite_true, ite_false, and_self, and_true, true_and, Nat.reduceAdd, Nat.reduceLeDiff, Nat.reduceEqDiff, Nat.zero_add, Nat.le_refl, Nat.zero_le, or_false, false_or, Int.reduceToNat, or_true, true_or, eq_self, and_false, false_and, inR_d, nc_4, nc_5, nc_6, nc_7, nc_8, nc_16, nc_18, nc_20, nc_24, nc_32, nc_40, nc_64, nc_104, nc_120, nc_160, nc_256, nc_300, nc_330, nc_390, nc_1200, nc_1260, nc_3012, nc_9834, okSt_1i, okSt_1r, okSt_1n, List.length_cons, List.length_nil, xpk_succ cd_69_6, xpk_succ cd_69_7, xpk_succ cd_69_10, xpk_succ cd_69_13, xpk_succ cd_69_14, xpk_succ cd_69_17, xpk_succ cd_69_19, xpk_succ cd_69_22, xpk_succ cd_69_23, xpk_succ cd_69_26, xpk_succ cd_69_28, xpk_succ cd_69_31, xpk_succ cd_69_32, xpk_succ cd_69_35, xpk_succ cd_69_37, xpk_succ cd_69_40, xpk_succ cd_69_42, xpk_succ cd_69_45, xpk_succ cd_69_47, xpk_succ cd_69_48, xpk_succ cd_69_49, xpk_succ cd_69_52, xpk_succ cd_69_53, xpk_succ cd_69_56, xpk_succ cd_69_57, xpk_succ cd_69_60, xpk_succ cd_69_61, xpk_succ cd_69_62, xpk_succ cd_69_65, xpk_succ cd_69_68, xpk_succ cd_69_71, hR_2, hR_3, hR_4, hR_5, hR_6, hR_7, hR_s2, hR_s3, hR_s4, hR_s5, hR_s6, hR_s7, (hR_T hb.1), (hR_sT hb.1), (R_0 hb), (R_1 hb), (R_T0 hb), (R_N hb), hK_R, hb.2.1.1, hk.2.1.1, hb.2.2.1.1, hb.2.2.1.2.2, hb.2.2.2.1, (E_kindAt (TOK_R hb.1 hk)), (E_placeAt (TOK_R hb.1 hk)), (E_valueAt (TOK_R hb.1 hk)), i1, i2, (E_step hb hk (show j < 1000 by omega)), e1, z1, i3, (E_addn hb hk l3)]
            exact y
          · refine xpk_sound (stops := []) (n := 80) ?_
            simp only [sk_0, sk_1, sk_2, sk_3, sk_4, sk_5, sk_6, sk_7, sk_8, sk_iadd, sk_isub, sk_imul, sk_iand, sk_ior, sk_ixor, sk_ishl, sk_ishr, sk_iushr, sk_idiv, sk_irem, sk_ineg, sk_ladd, sk_lsub, sk_lmul, sk_land, sk_lor, sk_ldiv, sk_lrem, sk_lneg, sk_lshl, sk_lshr, sk_i2l, sk_l2i, sk_lcmp, sk_dupI, sk_dupR, sk_dup2L, sk_dup2I, sk_popI, sk_ifeq, sk_ifne, sk_iflt, sk_ifge, sk_ifgt, sk_ifle, sk_iceq, sk_icne, sk_iclt, sk_icge, sk_icgt, sk_icle, sk_goto, sk_getf, sk_putf, sk_gets, sk_iald, sk_lald, sk_bald, sk_aald, sk_iast, sk_last, sk_bast, sk_aast, sk_alen, sk_newa, sk_newt, sk_new, sk_cs1, sk_cs2, sk_cs3, sk_cs4, sk_cs5, sk_cs6, sk_cv1, sk_cv2, sk_cv3, sk_cv4, sk_cv5, sk_cv6, sk_ci1, sk_ci2, sk_ci3, sk_ret0, sk_retI, sk_retL, sk_retR, sk_sw, sk_oin, sk_max, sk_min, sk_abs, lI_0, lI_s, lL_0, lL_s, lR_0, lR_s, vIo_e, vLo_e, vOo_e, stW_I, stW_L, stW_R, stW_0, stW_z, okSt_0, okSt_s, hV_eq, hK_eq, okF_0, okF_1, okF_3, is01_0, is01_1, is01_i, Int.toNat_natCast, Int.reduceEq, Int.reduceLE, Int.reduceLT, Int.reduceNeg, Nat.reduceLT, not_true_eq_false, not_false_eq_true, reduceIte, Option.toList, List.cons_append, List.nil_append, List.set_cons_zero, List.set_cons_succ, List.not_mem_nil, List.mem_cons, if_false, if_true, ite_true, ite_false, and_self, and_true, true_and, Nat.reduceAdd, Nat.reduceLeDiff, Nat.reduceEqDiff, Nat.zero_add, Nat.le_refl, Nat.zero_le, or_false, false_or, Int.reduceToNat, or_true, true_or, eq_self, and_false, false_and, inR_d, nc_4, nc_5, nc_6, nc_7, nc_8, nc_16, nc_18, nc_20, nc_24, nc_32, nc_40, nc_64, nc_104, nc_120, nc_160, nc_256, nc_300, nc_330, nc_390, nc_1200, nc_1260, nc_3012, nc_9834, okSt_1i, okSt_1r, okSt_1n, List.length_cons, List.length_nil, xpk_succ cd_69_6, xpk_succ cd_69_7, xpk_succ cd_69_10, xpk_succ cd_69_13, xpk_succ cd_69_14, xpk_succ cd_69_17, xpk_succ cd_69_19, xpk_succ cd_69_22, xpk_succ cd_69_23, xpk_succ cd_69_26, xpk_succ cd_69_28, xpk_succ cd_69_31, xpk_succ cd_69_32, xpk_succ cd_69_35, xpk_succ cd_69_37, xpk_succ cd_69_40, xpk_succ cd_69_42, xpk_succ cd_69_45, xpk_succ cd_69_47, xpk_succ cd_69_48, xpk_succ cd_69_49, xpk_succ cd_69_52, xpk_succ cd_69_53, xpk_succ cd_69_56, xpk_succ cd_69_57, xpk_succ cd_69_60, xpk_succ cd_69_61, xpk_succ cd_69_62, xpk_succ cd_69_65, xpk_succ cd_69_68, xpk_succ cd_69_71, hR_2, hR_3, hR_4, hR_5, hR_6, hR_7, hR_s2, hR_s3, hR_s4, hR_s5, hR_s6, hR_s7, (hR_T hb.1), (hR_sT hb.1), (R_0 hb), (R_1 hb), (R_T0 hb), (R_N hb), hK_R, hb.2.1.1, hk.2.1.1, hb.2.2.1.1, hb.2.2.1.2.2, hb.2.2.2.1, (E_kindAt (TOK_R hb.1 hk)), (E_placeAt (TOK_R hb.1 hk)), (E_valueAt (TOK_R hb.1 hk)), i1, i2, (E_step hb hk (show j < 1000 by omega)), e1, z1, i3, (E_addn hb hk l3)]
            exact y
    exact tail kz
  · have z1 : ¬ ((tkf cnt kn vn j).1 = 48) := by omega
    have z2 : ¬ ((tkf cnt kn vn j).1 = 49) := by omega
    have y : PRr h T D cnt n kn vn pn l (5 * N + 2) 6 R cc j0 L0 o dd0 none (hR h T D (j : Int) (tkf cnt kn vn j).1 (o : Int) l 0 (-1) L dd) := ⟨rfl, Or.inl ⟨j, L, dd, rfl, hA, cm, pend, hp, hE, hO, ⟨fun _ => by omega, fun q => by omega⟩⟩⟩
    refine xpk_sound (stops := []) (n := 30) ?_
    simp only [sk_0, sk_1, sk_2, sk_3, sk_4, sk_5, sk_6, sk_7, sk_8, sk_iadd, sk_isub, sk_imul, sk_iand, sk_ior, sk_ixor, sk_ishl, sk_ishr, sk_iushr, sk_idiv, sk_irem, sk_ineg, sk_ladd, sk_lsub, sk_lmul, sk_land, sk_lor, sk_ldiv, sk_lrem, sk_lneg, sk_lshl, sk_lshr, sk_i2l, sk_l2i, sk_lcmp, sk_dupI, sk_dupR, sk_dup2L, sk_dup2I, sk_popI, sk_ifeq, sk_ifne, sk_iflt, sk_ifge, sk_ifgt, sk_ifle, sk_iceq, sk_icne, sk_iclt, sk_icge, sk_icgt, sk_icle, sk_goto, sk_getf, sk_putf, sk_gets, sk_iald, sk_lald, sk_bald, sk_aald, sk_iast, sk_last, sk_bast, sk_aast, sk_alen, sk_newa, sk_newt, sk_new, sk_cs1, sk_cs2, sk_cs3, sk_cs4, sk_cs5, sk_cs6, sk_cv1, sk_cv2, sk_cv3, sk_cv4, sk_cv5, sk_cv6, sk_ci1, sk_ci2, sk_ci3, sk_ret0, sk_retI, sk_retL, sk_retR, sk_sw, sk_oin, sk_max, sk_min, sk_abs, lI_0, lI_s, lL_0, lL_s, lR_0, lR_s, vIo_e, vLo_e, vOo_e, stW_I, stW_L, stW_R, stW_0, stW_z, okSt_0, okSt_s, hV_eq, hK_eq, okF_0, okF_1, okF_3, is01_0, is01_1, is01_i, Int.toNat_natCast, Int.reduceEq, Int.reduceLE, Int.reduceLT, Int.reduceNeg, Nat.reduceLT, not_true_eq_false, not_false_eq_true, reduceIte, Option.toList, List.cons_append, List.nil_append, List.set_cons_zero, List.set_cons_succ, List.not_mem_nil, List.mem_cons, if_false, if_true, ite_true, ite_false, and_self, and_true, true_and, Nat.reduceAdd, Nat.reduceLeDiff, Nat.reduceEqDiff, Nat.zero_add, Nat.le_refl, Nat.zero_le, or_false, false_or, Int.reduceToNat, or_true, true_or, eq_self, and_false, false_and, inR_d, nc_4, nc_5, nc_6, nc_7, nc_8, nc_16, nc_18, nc_20, nc_24, nc_32, nc_40, nc_64, nc_104, nc_120, nc_160, nc_256, nc_300, nc_330, nc_390, nc_1200, nc_1260, nc_3012, nc_9834, okSt_1i, okSt_1r, okSt_1n, List.length_cons, List.length_nil, xpk_succ cd_69_6, xpk_succ cd_69_7, xpk_succ cd_69_10, xpk_succ cd_69_13, xpk_succ cd_69_14, xpk_succ cd_69_17, xpk_succ cd_69_19, xpk_succ cd_69_22, xpk_succ cd_69_23, xpk_succ cd_69_26, xpk_succ cd_69_28, xpk_succ cd_69_31, xpk_succ cd_69_32, xpk_succ cd_69_35, xpk_succ cd_69_37, xpk_succ cd_69_40, xpk_succ cd_69_42, xpk_succ cd_69_45, xpk_succ cd_69_47, xpk_succ cd_69_48, xpk_succ cd_69_49, xpk_succ cd_69_52, xpk_succ cd_69_53, xpk_succ cd_69_56, xpk_succ cd_69_57, xpk_succ cd_69_60, xpk_succ cd_69_61, xpk_succ cd_69_62, xpk_succ cd_69_65, xpk_succ cd_69_68, xpk_succ cd_69_71, hR_2, hR_3, hR_4, hR_5, hR_6, hR_7, hR_s2, hR_s3, hR_s4, hR_s5, hR_s6, hR_s7, (hR_T hb.1), (hR_sT hb.1), (R_0 hb), (R_1 hb), (R_T0 hb), (R_N hb), hK_R, hb.2.1.1, hk.2.1.1, hb.2.2.1.1, hb.2.2.1.2.2, hb.2.2.2.1, (E_kindAt (TOK_R hb.1 hk)), (E_placeAt (TOK_R hb.1 hk)), (E_valueAt (TOK_R hb.1 hk)), i1, z1, z2]
    exact y

set_option maxHeartbeats 4000000 in
theorem PD {h : AH} {T D cnt : Nat} {n : Int} {kn vn pn : Nat → Int} {l : Int} (hb : RDB h T D) (hk : TOK h cnt n kn vn pn) (hl : 0 ≤ l ∧ l ≤ 4) {N : Nat} (ih : ONEp h T D cnt n kn vn pn l N) : PRp h T D cnt n kn vn pn l N (5 * N + 2) 6 69 9 := by
  intro d j o L dd R cc ho hj hL hRt hask hd
  obtain ⟨d, rfl⟩ : ∃ d', d = d' + 5 := ⟨d - 5, by omega⟩
  obtain ⟨g, e1, hr⟩ := ih (d + 4) j o L dd [] R cc ho hj hL (topL_m hRt (by decide)) (fun x hx => by cases hx) (Nat.zero_le _) hask (by omega)
  have q0 : XC (d + 5) 69 [vR 70] (hR h T D (j : Int) (tkf cnt kn vn j).1 (o : Int) l 0 (-1) L dd) (PRr h T D cnt n kn vn pn l (5 * N + 2) 6 R cc j L o dd) := by
    refine XC_of (Nat.le_of_ble_eq_true rfl) ?_
    show XP (d + 4) 69 0 [some (vR 70), none, none] [] (hR h T D (j : Int) (tkf cnt kn vn j).1 (o : Int) l 0 (-1) L dd) _
    rcases hr with ⟨j2, L2, dd2, rfl, hA2, hX⟩ | ⟨f, jf, ⟨a, c, L2, dd2, rfl, h3, hf⟩, hH⟩
    · obtain ⟨cmX, hEx, hOx⟩ := hX
      have hEx : Ex dd2 L L2 (cmX ++ emO []) (5 * N + 1) := by rw [show emO [] = [] from rfl, List.append_nil]; exact hEx
      have hOx : oRe l (tkf cnt kn vn) (R, false, j, o, cc) ([] ++ R, true, j2, o, cc ++ cmX) := by
        have q := hOx
        rw [show emO [] = [] from rfl, List.append_nil] at q
        exact q
      have hpX : ∀ x, x ∈ ([] : List Int) → (6 : Int) ≤ rankO x ∧ rankO x ≤ 6 := fun x hx => by cases hx
      have y := PD_l hb hk hl ih ho hRt (cnt + 1) (d + 4) j2 L2 0 dd2 cmX [] none (by omega) (by have := hA2.1; have := hA2.2.1; omega) (by omega) hA2 hpX (Ex_w (fun _ _ _ => rfl) (by omega) hEx) hOx (by omega)
      have y : XP (d + 4) 69 6 [some (vR 70), some (vI 0), none] [] (hR h T D (j2 : Int) (tkf cnt kn vn j2).1 (o : Int) l 0 (-1) L2 dd2) (PRr h T D cnt n kn vn pn l (5 * N + 2) 6 R cc j L o dd) := y
      refine xpk_sound (stops := [6]) (n := 20) ?_
      simp only [sk_0, sk_1, sk_2, sk_3, sk_4, sk_5, sk_6, sk_7, sk_8, sk_iadd, sk_isub, sk_imul, sk_iand, sk_ior, sk_ixor, sk_ishl, sk_ishr, sk_iushr, sk_idiv, sk_irem, sk_ineg, sk_ladd, sk_lsub, sk_lmul, sk_land, sk_lor, sk_ldiv, sk_lrem, sk_lneg, sk_lshl, sk_lshr, sk_i2l, sk_l2i, sk_lcmp, sk_dupI, sk_dupR, sk_dup2L, sk_dup2I, sk_popI, sk_ifeq, sk_ifne, sk_iflt, sk_ifge, sk_ifgt, sk_ifle, sk_iceq, sk_icne, sk_iclt, sk_icge, sk_icgt, sk_icle, sk_goto, sk_getf, sk_putf, sk_gets, sk_iald, sk_lald, sk_bald, sk_aald, sk_iast, sk_last, sk_bast, sk_aast, sk_alen, sk_newa, sk_newt, sk_new, sk_cs1, sk_cs2, sk_cs3, sk_cs4, sk_cs5, sk_cs6, sk_cv1, sk_cv2, sk_cv3, sk_cv4, sk_cv5, sk_cv6, sk_ci1, sk_ci2, sk_ci3, sk_ret0, sk_retI, sk_retL, sk_retR, sk_sw, sk_oin, sk_max, sk_min, sk_abs, lI_0, lI_s, lL_0, lL_s, lR_0, lR_s, vIo_e, vLo_e, vOo_e, stW_I, stW_L, stW_R, stW_0, stW_z, okSt_0, okSt_s, hV_eq, hK_eq, okF_0, okF_1, okF_3, is01_0, is01_1, is01_i, Int.toNat_natCast, Int.reduceEq, Int.reduceLE, Int.reduceLT, Int.reduceNeg, Nat.reduceLT, not_true_eq_false, not_false_eq_true, reduceIte, Option.toList, List.cons_append, List.nil_append, List.set_cons_zero, List.set_cons_succ, List.not_mem_nil, List.mem_cons, if_false, if_true, ite_true, ite_false, and_self, and_true, true_and, Nat.reduceAdd, Nat.reduceLeDiff, Nat.reduceEqDiff, Nat.zero_add, Nat.le_refl, Nat.zero_le, or_false, false_or, Int.reduceToNat, or_true, true_or, eq_self, and_false, false_and, inR_d, nc_4, nc_5, nc_6, nc_7, nc_8, nc_16, nc_18, nc_20, nc_24, nc_32, nc_40, nc_64, nc_104, nc_120, nc_160, nc_256, nc_300, nc_330, nc_390, nc_1200, nc_1260, nc_3012, nc_9834, okSt_1i, okSt_1r, okSt_1n, List.length_cons, List.length_nil, xpk_succ cd_69_0, xpk_succ cd_69_1, xpk_succ cd_69_4, xpk_succ cd_69_5, hR_2, hR_3, hR_4, hR_5, hR_6, hR_7, hR_s2, hR_s3, hR_s4, hR_s5, hR_s6, hR_s7, (hR_T hb.1), (hR_sT hb.1), (R_0 hb), (R_1 hb), (R_T0 hb), (R_N hb), hK_R, hb.2.1.1, hk.2.1.1, hb.2.2.1.1, hb.2.2.1.2.2, hb.2.2.2.1, (E_kindAt (TOK_R hb.1 hk)), (E_placeAt (TOK_R hb.1 hk)), (E_valueAt (TOK_R hb.1 hk)), e1]
      exact y
    · have y : PRr h T D cnt n kn vn pn l (5 * N + 2) 6 R cc j L o dd none (hR h T D a 63 c l f (plf cnt n pn jf) L2 dd2) := ⟨rfl, Or.inr ⟨f, jf, ⟨a, c, L2, dd2, rfl, h3, hf⟩, hH⟩⟩
      refine xpk_sound (stops := []) (n := 40) ?_
      simp only [sk_0, sk_1, sk_2, sk_3, sk_4, sk_5, sk_6, sk_7, sk_8, sk_iadd, sk_isub, sk_imul, sk_iand, sk_ior, sk_ixor, sk_ishl, sk_ishr, sk_iushr, sk_idiv, sk_irem, sk_ineg, sk_ladd, sk_lsub, sk_lmul, sk_land, sk_lor, sk_ldiv, sk_lrem, sk_lneg, sk_lshl, sk_lshr, sk_i2l, sk_l2i, sk_lcmp, sk_dupI, sk_dupR, sk_dup2L, sk_dup2I, sk_popI, sk_ifeq, sk_ifne, sk_iflt, sk_ifge, sk_ifgt, sk_ifle, sk_iceq, sk_icne, sk_iclt, sk_icge, sk_icgt, sk_icle, sk_goto, sk_getf, sk_putf, sk_gets, sk_iald, sk_lald, sk_bald, sk_aald, sk_iast, sk_last, sk_bast, sk_aast, sk_alen, sk_newa, sk_newt, sk_new, sk_cs1, sk_cs2, sk_cs3, sk_cs4, sk_cs5, sk_cs6, sk_cv1, sk_cv2, sk_cv3, sk_cv4, sk_cv5, sk_cv6, sk_ci1, sk_ci2, sk_ci3, sk_ret0, sk_retI, sk_retL, sk_retR, sk_sw, sk_oin, sk_max, sk_min, sk_abs, lI_0, lI_s, lL_0, lL_s, lR_0, lR_s, vIo_e, vLo_e, vOo_e, stW_I, stW_L, stW_R, stW_0, stW_z, okSt_0, okSt_s, hV_eq, hK_eq, okF_0, okF_1, okF_3, is01_0, is01_1, is01_i, Int.toNat_natCast, Int.reduceEq, Int.reduceLE, Int.reduceLT, Int.reduceNeg, Nat.reduceLT, not_true_eq_false, not_false_eq_true, reduceIte, Option.toList, List.cons_append, List.nil_append, List.set_cons_zero, List.set_cons_succ, List.not_mem_nil, List.mem_cons, if_false, if_true, ite_true, ite_false, and_self, and_true, true_and, Nat.reduceAdd, Nat.reduceLeDiff, Nat.reduceEqDiff, Nat.zero_add, Nat.le_refl, Nat.zero_le, or_false, false_or, Int.reduceToNat, or_true, true_or, eq_self, and_false, false_and, inR_d, nc_4, nc_5, nc_6, nc_7, nc_8, nc_16, nc_18, nc_20, nc_24, nc_32, nc_40, nc_64, nc_104, nc_120, nc_160, nc_256, nc_300, nc_330, nc_390, nc_1200, nc_1260, nc_3012, nc_9834, okSt_1i, okSt_1r, okSt_1n, List.length_cons, List.length_nil, xpk_succ cd_69_0, xpk_succ cd_69_1, xpk_succ cd_69_4, xpk_succ cd_69_5, xpk_succ cd_69_6, xpk_succ cd_69_7, xpk_succ cd_69_10, xpk_succ cd_69_13, xpk_succ cd_69_14, xpk_succ cd_69_17, xpk_succ cd_69_19, xpk_succ cd_69_22, xpk_succ cd_69_23, xpk_succ cd_69_26, xpk_succ cd_69_28, xpk_succ cd_69_31, xpk_succ cd_69_32, xpk_succ cd_69_35, xpk_succ cd_69_37, xpk_succ cd_69_40, xpk_succ cd_69_42, xpk_succ cd_69_45, xpk_succ cd_69_47, xpk_succ cd_69_48, xpk_succ cd_69_49, xpk_succ cd_69_52, xpk_succ cd_69_53, xpk_succ cd_69_56, xpk_succ cd_69_57, xpk_succ cd_69_60, xpk_succ cd_69_61, xpk_succ cd_69_62, xpk_succ cd_69_65, xpk_succ cd_69_68, xpk_succ cd_69_71, hR_2, hR_3, hR_4, hR_5, hR_6, hR_7, hR_s2, hR_s3, hR_s4, hR_s5, hR_s6, hR_s7, (hR_T hb.1), (hR_sT hb.1), (R_0 hb), (R_1 hb), (R_T0 hb), (R_N hb), hK_R, hb.2.1.1, hk.2.1.1, hb.2.2.1.1, hb.2.2.1.2.2, hb.2.2.2.1, (E_kindAt (TOK_R hb.1 hk)), (E_placeAt (TOK_R hb.1 hk)), (E_valueAt (TOK_R hb.1 hk)), e1]
      exact y
  obtain ⟨r, g, hp, e⟩ := XC_dt q0
  have hr1 := hp.1
  subst hr1
  exact ⟨g, e, hp⟩

set_option maxHeartbeats 4000000 in
theorem SM_l {h : AH} {T D cnt : Nat} {n : Int} {kn vn pn : Nat → Int} {l : Int} (hb : RDB h T D) (hk : TOK h cnt n kn vn pn) (hl : 0 ≤ l ∧ l ≤ 4) {N : Nat} (ih : PRp h T D cnt n kn vn pn l N (5 * N + 2) 6 69 9) {j0 L0 o : Nat} {dd0 : Nat → Int} {R : List Int} {cc : oCd} (ho : o + N = 8) (hRt : topL 5 R) : ∀ (m d j L i : Nat) (dd : Nat → Int) (cm : oCd) (pend : List Int) (l2 : Option AV), cnt < j + m → L ≤ j → 2 * i ≤ j → ADV cnt j0 L0 dd0 j L dd → (∀ x, x ∈ pend → (5 : Int) ≤ rankO x ∧ rankO x ≤ 6) → Ex dd L0 L (cm ++ emO pend) (5 * N + 3) → oRe l (tkf cnt kn vn) (R, false, j0, o, cc) (pend ++ R, true, j, o, cc ++ cm) → ¬ (48 ≤ (tkf cnt kn vn j).1 ∧ (tkf cnt kn vn j).1 ≤ 49) → 8 * N + 9 ≤ d → XP d 68 6 [some (vR 70), some (vI (i : Int)), l2] [] (hR h T D (j : Int) (tkf cnt kn vn j).1 (o : Int) l 0 (-1) L dd) (PRr h T D cnt n kn vn pn l (5 * N + 3) 5 R cc j0 L0 o dd0) := by
  intro m
  induction m with
  | zero => intro d j L i dd cm pend l2 hm hL hi hA; exact absurd hm (by have := hA.1.2; omega)
  | succ m ihm =>
  intro d j L i dd cm pend l2 hm hL hi hA hp hE hO ht hd
  obtain ⟨d, rfl⟩ : ∃ d', d = d' + 4 := ⟨d - 4, by omega⟩
  have hc := hk.1.1
  have i1 : ¬ ((300 : Int) ≤ (i : Int)) := by have := hA.1.2; omega
  have i2 : w32 ((i : Int) + 1) = ((i + 1 : Nat) : Int) := by have := hA.1.2; unfold w32; omega
  by_cases z : 46 ≤ (tkf cnt kn vn j).1 ∧ (tkf cnt kn vn j).1 ≤ 47
  · have jc := tk_le (cnt := cnt) (kn := kn) (vn := vn) (j := j) (by omega)
    have i3 : ¬ ((300 : Int) ≤ ((i + 1 : Nat) : Int)) := by omega
    -- the machine takes the sign
    have kz : (tkf cnt kn vn j).1 = 46 ∨ (tkf cnt kn vn j).1 = 47 := by omega
    obtain ⟨op, hop, hk1, hk2⟩ : ∃ op : Int, rankO op = 5 ∧ (tkf cnt kn vn j).1 - 40 = op ∧ (op = 6 ∨ op = 7) := by
      rcases kz with e | e
      · exact ⟨6, by decide, by omega, Or.inl rfl⟩
      · exact ⟨7, by decide, by omega, Or.inr rfl⟩
    have st : oRe l (tkf cnt kn vn) (pend ++ R, true, j, o, cc ++ cm) (op :: R, false, j + 1, o, (cc ++ cm) ++ emO pend) := oRe_1 (by
      show behS (tkf cnt kn vn) (pend ++ R) j o (cc ++ cm) = _
      have eb : btw (tkf cnt kn vn j).1 (pend ++ R) = op := by unfold btw; rw [if_pos (by omega)]; exact hk1
      unfold behS
      rw [eb, if_pos (by omega), hop, stJ_p (fun x hx => (hp x hx).1) hRt, cnO_0 (fun x hx => by have := hp x hx; omega)]
      rfl)
    obtain ⟨g, e1, hr⟩ := ih (d + 4) (j + 1) o L dd (op :: R) ((cc ++ cm) ++ emO pend) ho (by omega) (by omega) (topL_c (by omega)) (fun _ => ask_f (by omega)) (by omega)
    have tail : ∀ (z1 : (tkf cnt kn vn j).1 = 46 ∨ (tkf cnt kn vn j).1 = 47), XP (d + 4) 68 6 [some (vR 70), some (vI (i : Int)), l2] [] (hR h T D (j : Int) (tkf cnt kn vn j).1 (o : Int) l 0 (-1) L dd) (PRr h T D cnt n kn vn pn l (5 * N + 3) 5 R cc j0 L0 o dd0) := by
      intro z1
      rcases hr.2 with ⟨j2, L2, dd2, rfl, hA2, hX⟩ | ⟨f, jf, ⟨a, c, L2, dd2, rfl, h3, hf⟩, hH⟩
      · obtain ⟨cmX, pX, hpX, hEx, hOx, hn2⟩ := hX
        have hn2 := hn2.1 rfl
        have A1 : ADV cnt j0 L0 dd0 j2 L2 dd2 := ADV_t hA (ADV_t (ADV_1 jc) hA2)
        have bnd := hA2.1
        have bn2 := hA2.2.1
        have l3 : L2 < 300 := by omega
        have E2 : ∀ x : Int, x = op + 2 → Ex (upF dd2 L2 x) L0 (L2 + 1) (((cm ++ emO pend) ++ cmX) ++ emO (pX ++ [op])) (5 * N + 3) := fun x hx => by
          have := Ex_bin (dd := upF dd2 L2 x) (Ex_w (fun i a1 a2 => by rw [upF_ne (by omega), hA2.2.2 i a2]) (Nat.le_refl _) hE) (Ex_w (fun i a1 a2 => by rw [upF_ne (by omega)]) (Nat.le_refl _) hEx) (o := op) (by omega) (by omega) (by rw [upF_at]; exact hx)
          have e0 : ((cm ++ emO pend) ++ cmX) ++ emO (pX ++ [op]) = (cm ++ emO pend) ++ ((cmX ++ emO pX) ++ [(op, 0)]) := by rw [emO_a, List.append_assoc, List.append_assoc cmX]; rfl
          rw [e0]
          exact Ex_w (fun _ _ _ => rfl) (by omega) this
        have O2 : oRe l (tkf cnt kn vn) (R, false, j0, o, cc) ((pX ++ [op]) ++ R, true, j2, o, cc ++ ((cm ++ emO pend) ++ cmX)) := by
          have := oRe_t hO (oRe_t st hOx)
          have e0 : cc ++ ((cm ++ emO pend) ++ cmX) = ((cc ++ cm) ++ emO pend) ++ cmX := by rw [List.append_assoc cm, List.append_assoc, List.append_assoc cc]
          rw [e0, List.append_assoc pX]
          exact this
        rcases z1 with z1 | z1
        · have y := ihm (d + 4) j2 (L2 + 1) (i + 1) (upF dd2 L2 (32 * 0 + 8)) ((cm ++ emO pend) ++ cmX) (pX ++ [op]) (some (vI 8)) (by omega) (by omega) (by omega) (ADV_d A1 (by have := hA.2.1; omega)) (fun x hx => by
            rcases List.mem_append.mp hx with hx | hx
            · have := hpX x hx; omega
            · rw [List.mem_singleton.mp hx]; omega) (E2 _ (by omega)) O2 hn2 (by omega)
          refine xpk_sound (stops := [6]) (n := 60) ?_
          simp only [sk_0, sk_1, sk_2, sk_3, sk_4, sk_5, sk_6, sk_7, sk_8, sk_iadd, sk_isub, sk_imul, sk_iand, sk_ior, sk_ixor, sk_ishl, sk_ishr, sk_iushr, sk_idiv, sk_irem, sk_ineg, sk_ladd, sk_lsub, sk_lmul, sk_land, sk_lor, sk_ldiv, sk_lrem, sk_lneg, sk_lshl, sk_lshr, sk_i2l, sk_l2i, sk_lcmp, sk_dupI, sk_dupR, sk_dup2L, sk_dup2I, sk_popI, sk_ifeq, sk_ifne, sk_iflt, sk_ifge, sk_ifgt, sk_ifle, sk_iceq, sk_icne, sk_iclt, sk_icge, sk_icgt, sk_icle, sk_goto, sk_getf, sk_putf, sk_gets, sk_iald, sk_lald, sk_bald, sk_aald, sk_iast, sk_last, sk_bast, sk_aast, sk_alen, sk_newa, sk_newt, sk_new, sk_cs1, sk_cs2, sk_cs3, sk_cs4, sk_cs5, sk_cs6, sk_cv1, sk_cv2, sk_cv3, sk_cv4, sk_cv5, sk_cv6, sk_ci1, sk_ci2, sk_ci3, sk_ret0, sk_retI, sk_retL, sk_retR, sk_sw, sk_oin, sk_max, sk_min, sk_abs, lI_0, lI_s, lL_0, lL_s, lR_0, lR_s, vIo_e, vLo_e, vOo_e, stW_I, stW_L, stW_R, stW_0, stW_z, okSt_0, okSt_s, hV_eq, hK_eq, okF_0, okF_1, okF_3, is01_0, is01_1, is01_i, Int.toNat_natCast, Int.reduceEq, Int.reduceLE, Int.reduceLT, Int.reduceNeg, Nat.reduceLT, not_true_eq_false, not_false_eq_true, reduceIte, Option.toList, List.cons_append, List.nil_append, List.set_cons_zero, List.set_cons_succ, List.not_mem_nil, List.mem_cons, if_false, if_true, ite_true, ite_false, and_self, and_true, true_and, Nat.reduceAdd, Nat.reduceLeDiff, Nat.reduceEqDiff, Nat.zero_add, Nat.le_refl, Nat.zero_le, or_false, false_or, Int.reduceToNat, or_true, true_or, eq_self, and_false, false_and, inR_d, nc_4, nc_5, nc_6, nc_7, nc_8, nc_16, nc_18, nc_20, nc_24, nc_32, nc_40, nc_64, nc_104, nc_120, nc_160, nc_256, nc_300, nc_330, nc_390, nc_1200, nc_1260, nc_3012, nc_9834, okSt_1i, okSt_1r, okSt_1n, List.length_cons, List.length_nil, xpk_succ cd_68_6, xpk_succ cd_68_7, xpk_succ cd_68_10, xpk_succ cd_68_13, xpk_succ cd_68_14, xpk_succ cd_68_17, xpk_succ cd_68_19, xpk_succ cd_68_22, xpk_succ cd_68_23, xpk_succ cd_68_26, xpk_succ cd_68_28, xpk_succ cd_68_31, xpk_succ cd_68_32, xpk_succ cd_68_35, xpk_succ cd_68_37, xpk_succ cd_68_40, xpk_succ cd_68_42, xpk_succ cd_68_45, xpk_succ cd_68_47, xpk_succ cd_68_48, xpk_succ cd_68_49, xpk_succ cd_68_52, xpk_succ cd_68_53, xpk_succ cd_68_56, xpk_succ cd_68_57, xpk_succ cd_68_60, xpk_succ cd_68_61, xpk_succ cd_68_62, xpk_succ cd_68_65, xpk_succ cd_68_68, xpk_succ cd_68_71, hR_2, hR_3, hR_4, hR_5, hR_6, hR_7, hR_s2, hR_s3, hR_s4, hR_s5, hR_s6, hR_s7, (hR_T hb.1), (hR_sT hb.1), (R_0 hb), (R_1 hb), (R_T0 hb), (R_N hb), hK_R, hb.2.1.1, hk.2.1.1, hb.2.2.1.1, hb.2.2.1.2.2, hb.2.2.2.1, (E_kindAt (TOK_R hb.1 hk)), (E_placeAt (TOK_R hb.1 hk)), (E_valueAt (TOK_R hb.1 hk)), i1, i2, (E_step hb hk (show j < 1000 by omega)), e1, z1, (E_add hb hk l3 (show (0 : Int) ≤ 0 by decide) (show (0 : Int) ≤ 20000 by decide) (show (0 : Int) ≤ 8 by decide) (show (8 : Int) < 32 by decide))]
          exact y
        · have y := ihm (d + 4) j2 (L2 + 1) (i + 1) (upF dd2 L2 (32 * 0 + 9)) ((cm ++ emO pend) ++ cmX) (pX ++ [op]) (some (vI 9)) (by omega) (by omega) (by omega) (ADV_d A1 (by have := hA.2.1; omega)) (fun x hx => by
            rcases List.mem_append.mp hx with hx | hx
            · have := hpX x hx; omega
            · rw [List.mem_singleton.mp hx]; omega) (E2 _ (by omega)) O2 hn2 (by omega)
          refine xpk_sound (stops := [6]) (n := 60) ?_
          simp only [sk_0, sk_1, sk_2, sk_3, sk_4, sk_5, sk_6, sk_7, sk_8, sk_iadd, sk_isub, sk_imul, sk_iand, sk_ior, sk_ixor, sk_ishl, sk_ishr, sk_iushr, sk_idiv, sk_irem, sk_ineg, sk_ladd, sk_lsub, sk_lmul, sk_land, sk_lor, sk_ldiv, sk_lrem, sk_lneg, sk_lshl, sk_lshr, sk_i2l, sk_l2i, sk_lcmp, sk_dupI, sk_dupR, sk_dup2L, sk_dup2I, sk_popI, sk_ifeq, sk_ifne, sk_iflt, sk_ifge, sk_ifgt, sk_ifle, sk_iceq, sk_icne, sk_iclt, sk_icge, sk_icgt, sk_icle, sk_goto, sk_getf, sk_putf, sk_gets, sk_iald, sk_lald, sk_bald, sk_aald, sk_iast, sk_last, sk_bast, sk_aast, sk_alen, sk_newa, sk_newt, sk_new, sk_cs1, sk_cs2, sk_cs3, sk_cs4, sk_cs5, sk_cs6, sk_cv1, sk_cv2, sk_cv3, sk_cv4, sk_cv5, sk_cv6, sk_ci1, sk_ci2, sk_ci3, sk_ret0, sk_retI, sk_retL, sk_retR, sk_sw, sk_oin, sk_max, sk_min, sk_abs, lI_0, lI_s, lL_0, lL_s, lR_0, lR_s, vIo_e, vLo_e, vOo_e, stW_I, stW_L, stW_R, stW_0, stW_z, okSt_0, okSt_s, hV_eq, hK_eq, okF_0, okF_1, okF_3, is01_0, is01_1, is01_i, Int.toNat_natCast, Int.reduceEq, Int.reduceLE, Int.reduceLT, Int.reduceNeg, Nat.reduceLT, not_true_eq_false, not_false_eq_true, reduceIte, Option.toList, List.cons_append, List.nil_append, List.set_cons_zero, List.set_cons_succ, List.not_mem_nil, List.mem_cons, if_false, if_true, ite_true, ite_false, and_self, and_true, true_and, Nat.reduceAdd, Nat.reduceLeDiff, Nat.reduceEqDiff, Nat.zero_add, Nat.le_refl, Nat.zero_le, or_false, false_or, Int.reduceToNat, or_true, true_or, eq_self, and_false, false_and, inR_d, nc_4, nc_5, nc_6, nc_7, nc_8, nc_16, nc_18, nc_20, nc_24, nc_32, nc_40, nc_64, nc_104, nc_120, nc_160, nc_256, nc_300, nc_330, nc_390, nc_1200, nc_1260, nc_3012, nc_9834, okSt_1i, okSt_1r, okSt_1n, List.length_cons, List.length_nil, xpk_succ cd_68_6, xpk_succ cd_68_7, xpk_succ cd_68_10, xpk_succ cd_68_13, xpk_succ cd_68_14, xpk_succ cd_68_17, xpk_succ cd_68_19, xpk_succ cd_68_22, xpk_succ cd_68_23, xpk_succ cd_68_26, xpk_succ cd_68_28, xpk_succ cd_68_31, xpk_succ cd_68_32, xpk_succ cd_68_35, xpk_succ cd_68_37, xpk_succ cd_68_40, xpk_succ cd_68_42, xpk_succ cd_68_45, xpk_succ cd_68_47, xpk_succ cd_68_48, xpk_succ cd_68_49, xpk_succ cd_68_52, xpk_succ cd_68_53, xpk_succ cd_68_56, xpk_succ cd_68_57, xpk_succ cd_68_60, xpk_succ cd_68_61, xpk_succ cd_68_62, xpk_succ cd_68_65, xpk_succ cd_68_68, xpk_succ cd_68_71, hR_2, hR_3, hR_4, hR_5, hR_6, hR_7, hR_s2, hR_s3, hR_s4, hR_s5, hR_s6, hR_s7, (hR_T hb.1), (hR_sT hb.1), (R_0 hb), (R_1 hb), (R_T0 hb), (R_N hb), hK_R, hb.2.1.1, hk.2.1.1, hb.2.2.1.1, hb.2.2.1.2.2, hb.2.2.2.1, (E_kindAt (TOK_R hb.1 hk)), (E_placeAt (TOK_R hb.1 hk)), (E_valueAt (TOK_R hb.1 hk)), i1, i2, (E_step hb hk (show j < 1000 by omega)), e1, z1, (E_add hb hk l3 (show (0 : Int) ≤ 0 by decide) (show (0 : Int) ≤ 20000 by decide) (show (0 : Int) ≤ 9 by decide) (show (9 : Int) < 32 by decide))]
          exact y
      · have hH2 := oHa_t hO (oHa_t st hH)
        have y : ∀ L3 dd3, L3 ≤ 300 → PRr h T D cnt n kn vn pn l (5 * N + 3) 5 R cc j0 L0 o dd0 none (hR h T D a 63 c l f (plf cnt n pn jf) L3 dd3) := fun L3 dd3 h4 => ⟨rfl, Or.inr ⟨f, jf, ⟨a, c, L3, dd3, rfl, h4, hf⟩, hH2⟩⟩
        rcases Nat.lt_or_ge L2 300 with l3 | l3
        · have y := fun x => y (L2 + 1) (upF dd2 L2 x) l3
          rcases z1 with z1 | z1
          · refine xpk_sound (stops := []) (n := 80) ?_
            simp only [sk_0, sk_1, sk_2, sk_3, sk_4, sk_5, sk_6, sk_7, sk_8, sk_iadd, sk_isub, sk_imul, sk_iand, sk_ior, sk_ixor, sk_ishl, sk_ishr, sk_iushr, sk_idiv, sk_irem, sk_ineg, sk_ladd, sk_lsub, sk_lmul, sk_land, sk_lor, sk_ldiv, sk_lrem, sk_lneg, sk_lshl, sk_lshr, sk_i2l, sk_l2i, sk_lcmp, sk_dupI, sk_dupR, sk_dup2L, sk_dup2I, sk_popI, sk_ifeq, sk_ifne, sk_iflt, sk_ifge, sk_ifgt, sk_ifle, sk_iceq, sk_icne, sk_iclt, sk_icge, sk_icgt, sk_icle, sk_goto, sk_getf, sk_putf, sk_gets, sk_iald, sk_lald, sk_bald, sk_aald, sk_iast, sk_last, sk_bast, sk_aast, sk_alen, sk_newa, sk_newt, sk_new, sk_cs1, sk_cs2, sk_cs3, sk_cs4, sk_cs5, sk_cs6, sk_cv1, sk_cv2, sk_cv3, sk_cv4, sk_cv5, sk_cv6, sk_ci1, sk_ci2, sk_ci3, sk_ret0, sk_retI, sk_retL, sk_retR, sk_sw, sk_oin, sk_max, sk_min, sk_abs, lI_0, lI_s, lL_0, lL_s, lR_0, lR_s, vIo_e, vLo_e, vOo_e, stW_I, stW_L, stW_R, stW_0, stW_z, okSt_0, okSt_s, hV_eq, hK_eq, okF_0, okF_1, okF_3, is01_0, is01_1, is01_i, Int.toNat_natCast, Int.reduceEq, Int.reduceLE, Int.reduceLT, Int.reduceNeg, Nat.reduceLT, not_true_eq_false, not_false_eq_true, reduceIte, Option.toList, List.cons_append, List.nil_append, List.set_cons_zero, List.set_cons_succ, List.not_mem_nil, List.mem_cons, if_false, if_true, ite_true, ite_false, and_self, and_true, true_and, Nat.reduceAdd, Nat.reduceLeDiff, Nat.reduceEqDiff, Nat.zero_add, Nat.le_refl, Nat.zero_le, or_false, false_or, Int.reduceToNat, or_true, true_or, eq_self, and_false, false_and, inR_d, nc_4, nc_5, nc_6, nc_7, nc_8, nc_16, nc_18, nc_20, nc_24, nc_32, nc_40, nc_64, nc_104, nc_120, nc_160, nc_256, nc_300, nc_330, nc_390, nc_1200, nc_1260, nc_3012, nc_9834, okSt_1i, okSt_1r, okSt_1n, List.length_cons, List.length_nil, xpk_succ cd_68_6, xpk_succ cd_68_7, xpk_succ cd_68_10, xpk_succ cd_68_13, xpk_succ cd_68_14, xpk_succ cd_68_17, xpk_succ cd_68_19, xpk_succ cd_68_22, xpk_succ cd_68_23, xpk_succ cd_68_26, xpk_succ cd_68_28, xpk_succ cd_68_31, xpk_succ cd_68_32, xpk_succ cd_68_35, xpk_succ cd_68_37, xpk_succ cd_68_40, xpk_succ cd_68_42, xpk_succ cd_68_45, xpk_succ cd_68_47, xpk_succ cd_68_48, xpk_succ cd_68_49, xpk_succ cd_68_52, xpk_succ cd_68_53, xpk_succ cd_68_56, xpk_succ cd_68_57, xpk_succ cd_68_60, xpk_succ cd_68_61, xpk_succ cd_68_62, xpk_succ cd_68_65, xpk_succ cd_68_68, xpk_succ cd_68_71, hR_2, hR_3, hR_4, hR_5, hR_6, hR_7, hR_s2, hR_s3, hR_s4, hR_s5, hR_s6, hR_s7, (hR_T hb.1), (hR_sT hb.1), (R_0 hb), (R_1 hb), (R_T0 hb), (R_N hb), hK_R, hb.2.1.1, hk.2.1.1, hb.2.2.1.1, hb.2.2.1.2.2, hb.2.2.2.1, (E_kindAt (TOK_R hb.1 hk)), (E_placeAt (TOK_R hb.1 hk)), (E_valueAt (TOK_R hb.1 hk)), i1, i2, (E_step hb hk (show j < 1000 by omega)), e1, z1, i3, (E_addg hb hk l3)]
            exact y _
          · refine xpk_sound (stops := []) (n := 80) ?_
            simp only [sk_0, sk_1, sk_2, sk_3, sk_4, sk_5, sk_6, sk_7, sk_8, sk_iadd, sk_isub, sk_imul, sk_iand, sk_ior, sk_ixor, sk_ishl, sk_ishr, sk_iushr, sk_idiv, sk_irem, sk_ineg, sk_ladd, sk_lsub, sk_lmul, sk_land, sk_lor, sk_ldiv, sk_lrem, sk_lneg, sk_lshl, sk_lshr, sk_i2l, sk_l2i, sk_lcmp, sk_dupI, sk_dupR, sk_dup2L, sk_dup2I, sk_popI, sk_ifeq, sk_ifne, sk_iflt, sk_ifge, sk_ifgt, sk_ifle, sk_iceq, sk_icne, sk_iclt, sk_icge, sk_icgt, sk_icle, sk_goto, sk_getf, sk_putf, sk_gets, sk_iald, sk_lald, sk_bald, sk_aald, sk_iast, sk_last, sk_bast, sk_aast, sk_alen, sk_newa, sk_newt, sk_new, sk_cs1, sk_cs2, sk_cs3, sk_cs4, sk_cs5, sk_cs6, sk_cv1, sk_cv2, sk_cv3, sk_cv4, sk_cv5, sk_cv6, sk_ci1, sk_ci2, sk_ci3, sk_ret0, sk_retI, sk_retL, sk_retR, sk_sw, sk_oin, sk_max, sk_min, sk_abs, lI_0, lI_s, lL_0, lL_s, lR_0, lR_s, vIo_e, vLo_e, vOo_e, stW_I, stW_L, stW_R, stW_0, stW_z, okSt_0, okSt_s, hV_eq, hK_eq, okF_0, okF_1, okF_3, is01_0, is01_1, is01_i, Int.toNat_natCast, Int.reduceEq, Int.reduceLE, Int.reduceLT, Int.reduceNeg, Nat.reduceLT, not_true_eq_false, not_false_eq_true, reduceIte, Option.toList, List.cons_append, List.nil_append, List.set_cons_zero, List.set_cons_succ, List.not_mem_nil, List.mem_cons, if_false, if_true, ite_true, ite_false, and_self, and_true, true_and, Nat.reduceAdd, Nat.reduceLeDiff, Nat.reduceEqDiff, Nat.zero_add, Nat.le_refl, Nat.zero_le, or_false, false_or, Int.reduceToNat, or_true, true_or, eq_self, and_false, false_and, inR_d, nc_4, nc_5, nc_6, nc_7, nc_8, nc_16, nc_18, nc_20, nc_24, nc_32, nc_40, nc_64, nc_104, nc_120, nc_160, nc_256, nc_300, nc_330, nc_390, nc_1200, nc_1260, nc_3012, nc_9834, okSt_1i, okSt_1r, okSt_1n, List.length_cons, List.length_nil, xpk_succ cd_68_6, xpk_succ cd_68_7, xpk_succ cd_68_10, xpk_succ cd_68_13, xpk_succ cd_68_14, xpk_succ cd_68_17, xpk_succ cd_68_19, xpk_succ cd_68_22, xpk_succ cd_68_23, xpk_succ cd_68_26, xpk_succ cd_68_28, xpk_succ cd_68_31, xpk_succ cd_68_32, xpk_succ cd_68_35, xpk_succ cd_68_37, xpk_succ cd_68_40, xpk_succ cd_68_42, xpk_succ cd_68_45, xpk_succ cd_68_47, xpk_succ cd_68_48, xpk_succ cd_68_49, xpk_succ cd_68_52, xpk_succ cd_68_53, xpk_succ cd_68_56, xpk_succ cd_68_57, xpk_succ cd_68_60, xpk_succ cd_68_61, xpk_succ cd_68_62, xpk_succ cd_68_65, xpk_succ cd_68_68, xpk_succ cd_68_71, hR_2, hR_3, hR_4, hR_5, hR_6, hR_7, hR_s2, hR_s3, hR_s4, hR_s5, hR_s6, hR_s7, (hR_T hb.1), (hR_sT hb.1), (R_0 hb), (R_1 hb), (R_T0 hb), (R_N hb), hK_R, hb.2.1.1, hk.2.1.1, hb.2.2.1.1, hb.2.2.1.2.2, hb.2.2.2.1, (E_kindAt (TOK_R hb.1 hk)), (E_placeAt (TOK_R hb.1 hk)), (E_valueAt (TOK_R hb.1 hk)), i1, i2, (E_step hb hk (show j < 1000 by omega)), e1, z1, i3, (E_addg hb hk l3)]
            exact y _
        · have y := y L2 dd2 h3
          rcases z1 with z1 | z1
          · refine xpk_sound (stops := []) (n := 80) ?_
            simp only [sk_0, sk_1, sk_2, sk_3, sk_4, sk_5, sk_6, sk_7, sk_8, sk_iadd, sk_isub, sk_imul, sk_iand, sk_ior, sk_ixor, sk_ishl, sk_ishr, sk_iushr, sk_idiv, sk_irem, sk_ineg, sk_ladd, sk_lsub, sk_lmul, sk_land, sk_lor, sk_ldiv, sk_lrem, sk_lneg, sk_lshl, sk_lshr, sk_i2l, sk_l2i, sk_lcmp, sk_dupI, sk_dupR, sk_dup2L, sk_dup2I, sk_popI, sk_ifeq, sk_ifne, sk_iflt, sk_ifge, sk_ifgt, sk_ifle, sk_iceq, sk_icne, sk_iclt, sk_icge, sk_icgt, sk_icle, sk_goto, sk_getf, sk_putf, sk_gets, sk_iald, sk_lald, sk_bald, sk_aald, sk_iast, sk_last, sk_bast, sk_aast, sk_alen, sk_newa, sk_newt, sk_new, sk_cs1, sk_cs2, sk_cs3, sk_cs4, sk_cs5, sk_cs6, sk_cv1, sk_cv2, sk_cv3, sk_cv4, sk_cv5, sk_cv6, sk_ci1, sk_ci2, sk_ci3, sk_ret0, sk_retI, sk_retL, sk_retR, sk_sw, sk_oin, sk_max, sk_min, sk_abs, lI_0, lI_s, lL_0, lL_s, lR_0, lR_s, vIo_e, vLo_e, vOo_e, stW_I, stW_L, stW_R, stW_0, stW_z, okSt_0, okSt_s, hV_eq, hK_eq, okF_0, okF_1, okF_3, is01_0, is01_1, is01_i, Int.toNat_natCast, Int.reduceEq, Int.reduceLE, Int.reduceLT, Int.reduceNeg, Nat.reduceLT, not_true_eq_false, not_false_eq_true, reduceIte, Option.toList, List.cons_append, List.nil_append, List.set_cons_zero, List.set_cons_succ, List.not_mem_nil, List.mem_cons, if_false, if_true, ite_true, ite_false, and_self, and_true, true_and, Nat.reduceAdd, Nat.reduceLeDiff, Nat.reduceEqDiff, Nat.zero_add, Nat.le_refl, Nat.zero_le, or_false, false_or, Int.reduceToNat, or_true, true_or, eq_self, and_false, false_and, inR_d, nc_4, nc_5, nc_6, nc_7, nc_8, nc_16, nc_18, nc_20, nc_24, nc_32, nc_40, nc_64, nc_104, nc_120, nc_160, nc_256, nc_300, nc_330, nc_390, nc_1200, nc_1260, nc_3012, nc_9834, okSt_1i, okSt_1r, okSt_1n, List.length_cons, List.length_nil, xpk_succ cd_68_6, xpk_succ cd_68_7, xpk_succ cd_68_10, xpk_succ cd_68_13, xpk_succ cd_68_14, xpk_succ cd_68_17, xpk_succ cd_68_19, xpk_succ cd_68_22, xpk_succ cd_68_23, xpk_succ cd_68_26, xpk_succ cd_68_28, xpk_succ cd_68_31, xpk_succ cd_68_32, xpk_succ cd_68_35, xpk_succ cd_68_37, xpk_succ cd_68_40, xpk_succ cd_68_42, xpk_succ cd_68_45, xpk_succ cd_68_47, xpk_succ cd_68_48, xpk_succ cd_68_49, xpk_succ cd_68_52, xpk_succ cd_68_53, xpk_succ cd_68_56, xpk_succ cd_68_57, xpk_succ cd_68_60, xpk_succ cd_68_61, xpk_succ cd_68_62, xpk_succ cd_68_65, xpk_succ cd_68_68, xpk_succ cd_68_71, hR_2, hR_3, hR_4, hR_5, hR_6, hR_7, hR_s2, hR_s3, hR_s4, hR_s5, hR_s6, hR_s7, (hR_T hb.1), (hR_sT hb.1), (R_0 hb), (R_1 hb), (R_T0 hb), (R_N hb), hK_R, hb.2.1.1, hk.2.1.1, hb.2.2.1.1, hb.2.2.1.2.2, hb.2.2.2.1, (E_kindAt (TOK_R hb.1 hk)), (E_placeAt (TOK_R hb.1 hk)), (E_valueAt (TOK_R hb.1 hk)), i1, i2, (E_step hb hk (show j < 1000 by omega)), e1, z1, i3, (E_addn hb hk l3)]
            exact y
          · refine xpk_sound (stops := []) (n := 80) ?_
            simp only [sk_0, sk_1, sk_2, sk_3, sk_4, sk_5, sk_6, sk_7, sk_8, sk_iadd, sk_isub, sk_imul, sk_iand, sk_ior, sk_ixor, sk_ishl, sk_ishr, sk_iushr, sk_idiv, sk_irem, sk_ineg, sk_ladd, sk_lsub, sk_lmul, sk_land, sk_lor, sk_ldiv, sk_lrem, sk_lneg, sk_lshl, sk_lshr, sk_i2l, sk_l2i, sk_lcmp, sk_dupI, sk_dupR, sk_dup2L, sk_dup2I, sk_popI, sk_ifeq, sk_ifne, sk_iflt, sk_ifge, sk_ifgt, sk_ifle, sk_iceq, sk_icne, sk_iclt, sk_icge, sk_icgt, sk_icle, sk_goto, sk_getf, sk_putf, sk_gets, sk_iald, sk_lald, sk_bald, sk_aald, sk_iast, sk_last, sk_bast, sk_aast, sk_alen, sk_newa, sk_newt, sk_new, sk_cs1, sk_cs2, sk_cs3, sk_cs4, sk_cs5, sk_cs6, sk_cv1, sk_cv2, sk_cv3, sk_cv4, sk_cv5, sk_cv6, sk_ci1, sk_ci2, sk_ci3, sk_ret0, sk_retI, sk_retL, sk_retR, sk_sw, sk_oin, sk_max, sk_min, sk_abs, lI_0, lI_s, lL_0, lL_s, lR_0, lR_s, vIo_e, vLo_e, vOo_e, stW_I, stW_L, stW_R, stW_0, stW_z, okSt_0, okSt_s, hV_eq, hK_eq, okF_0, okF_1, okF_3, is01_0, is01_1, is01_i, Int.toNat_natCast, Int.reduceEq, Int.reduceLE, Int.reduceLT, Int.reduceNeg, Nat.reduceLT, not_true_eq_false, not_false_eq_true, reduceIte, Option.toList, List.cons_append, List.nil_append, List.set_cons_zero, List.set_cons_succ, List.not_mem_nil, List.mem_cons, if_false, if_true, ite_true, ite_false, and_self, and_true, true_and, Nat.reduceAdd, Nat.reduceLeDiff, Nat.reduceEqDiff, Nat.zero_add, Nat.le_refl, Nat.zero_le, or_false, false_or, Int.reduceToNat, or_true, true_or, eq_self, and_false, false_and, inR_d, nc_4, nc_5, nc_6, nc_7, nc_8, nc_16, nc_18, nc_20, nc_24, nc_32, nc_40, nc_64, nc_104, nc_120, nc_160, nc_256, nc_300, nc_330, nc_390, nc_1200, nc_1260, nc_3012, nc_9834, okSt_1i, okSt_1r, okSt_1n, List.length_cons, List.length_nil, xpk_succ cd_68_6, xpk_succ cd_68_7, xpk_succ cd_68_10, xpk_succ cd_68_13, xpk_succ cd_68_14, xpk_succ cd_68_17, xpk_succ cd_68_19, xpk_succ cd_68_22, xpk_succ cd_68_23, xpk_succ cd_68_26, xpk_succ cd_68_28, xpk_succ cd_68_31, xpk_succ cd_68_32, xpk_succ cd_68_35, xpk_succ cd_68_37, xpk_succ cd_68_40, xpk_succ cd_68_42, xpk_succ cd_68_45, xpk_succ cd_68_47, xpk_succ cd_68_48, xpk_succ cd_68_49, xpk_succ cd_68_52, xpk_succ cd_68_53, xpk_succ cd_68_56, xpk_succ cd_68_57, xpk_succ cd_68_60, xpk_succ cd_68_61, xpk_succ cd_68_62, xpk_succ cd_68_65, xpk_succ cd_68_68, xpk_succ cd_68_71, hR_2, hR_3, hR_4, hR_5, hR_6, hR_7, hR_s2, hR_s3, hR_s4, hR_s5, hR_s6, hR_s7, (hR_T hb.1), (hR_sT hb.1), (R_0 hb), (R_1 hb), (R_T0 hb), (R_N hb), hK_R, hb.2.1.1, hk.2.1.1, hb.2.2.1.1, hb.2.2.1.2.2, hb.2.2.2.1, (E_kindAt (TOK_R hb.1 hk)), (E_placeAt (TOK_R hb.1 hk)), (E_valueAt (TOK_R hb.1 hk)), i1, i2, (E_step hb hk (show j < 1000 by omega)), e1, z1, i3, (E_addn hb hk l3)]
            exact y
    exact tail kz
  · have z1 : ¬ ((tkf cnt kn vn j).1 = 46) := by omega
    have z2 : ¬ ((tkf cnt kn vn j).1 = 47) := by omega
    have y : PRr h T D cnt n kn vn pn l (5 * N + 3) 5 R cc j0 L0 o dd0 none (hR h T D (j : Int) (tkf cnt kn vn j).1 (o : Int) l 0 (-1) L dd) := ⟨rfl, Or.inl ⟨j, L, dd, rfl, hA, cm, pend, hp, hE, hO, ⟨fun q => by omega, fun _ => by omega⟩⟩⟩
    refine xpk_sound (stops := []) (n := 30) ?_
    simp only [sk_0, sk_1, sk_2, sk_3, sk_4, sk_5, sk_6, sk_7, sk_8, sk_iadd, sk_isub, sk_imul, sk_iand, sk_ior, sk_ixor, sk_ishl, sk_ishr, sk_iushr, sk_idiv, sk_irem, sk_ineg, sk_ladd, sk_lsub, sk_lmul, sk_land, sk_lor, sk_ldiv, sk_lrem, sk_lneg, sk_lshl, sk_lshr, sk_i2l, sk_l2i, sk_lcmp, sk_dupI, sk_dupR, sk_dup2L, sk_dup2I, sk_popI, sk_ifeq, sk_ifne, sk_iflt, sk_ifge, sk_ifgt, sk_ifle, sk_iceq, sk_icne, sk_iclt, sk_icge, sk_icgt, sk_icle, sk_goto, sk_getf, sk_putf, sk_gets, sk_iald, sk_lald, sk_bald, sk_aald, sk_iast, sk_last, sk_bast, sk_aast, sk_alen, sk_newa, sk_newt, sk_new, sk_cs1, sk_cs2, sk_cs3, sk_cs4, sk_cs5, sk_cs6, sk_cv1, sk_cv2, sk_cv3, sk_cv4, sk_cv5, sk_cv6, sk_ci1, sk_ci2, sk_ci3, sk_ret0, sk_retI, sk_retL, sk_retR, sk_sw, sk_oin, sk_max, sk_min, sk_abs, lI_0, lI_s, lL_0, lL_s, lR_0, lR_s, vIo_e, vLo_e, vOo_e, stW_I, stW_L, stW_R, stW_0, stW_z, okSt_0, okSt_s, hV_eq, hK_eq, okF_0, okF_1, okF_3, is01_0, is01_1, is01_i, Int.toNat_natCast, Int.reduceEq, Int.reduceLE, Int.reduceLT, Int.reduceNeg, Nat.reduceLT, not_true_eq_false, not_false_eq_true, reduceIte, Option.toList, List.cons_append, List.nil_append, List.set_cons_zero, List.set_cons_succ, List.not_mem_nil, List.mem_cons, if_false, if_true, ite_true, ite_false, and_self, and_true, true_and, Nat.reduceAdd, Nat.reduceLeDiff, Nat.reduceEqDiff, Nat.zero_add, Nat.le_refl, Nat.zero_le, or_false, false_or, Int.reduceToNat, or_true, true_or, eq_self, and_false, false_and, inR_d, nc_4, nc_5, nc_6, nc_7, nc_8, nc_16, nc_18, nc_20, nc_24, nc_32, nc_40, nc_64, nc_104, nc_120, nc_160, nc_256, nc_300, nc_330, nc_390, nc_1200, nc_1260, nc_3012, nc_9834, okSt_1i, okSt_1r, okSt_1n, List.length_cons, List.length_nil, xpk_succ cd_68_6, xpk_succ cd_68_7, xpk_succ cd_68_10, xpk_succ cd_68_13, xpk_succ cd_68_14, xpk_succ cd_68_17, xpk_succ cd_68_19, xpk_succ cd_68_22, xpk_succ cd_68_23, xpk_succ cd_68_26, xpk_succ cd_68_28, xpk_succ cd_68_31, xpk_succ cd_68_32, xpk_succ cd_68_35, xpk_succ cd_68_37, xpk_succ cd_68_40, xpk_succ cd_68_42, xpk_succ cd_68_45, xpk_succ cd_68_47, xpk_succ cd_68_48, xpk_succ cd_68_49, xpk_succ cd_68_52, xpk_succ cd_68_53, xpk_succ cd_68_56, xpk_succ cd_68_57, xpk_succ cd_68_60, xpk_succ cd_68_61, xpk_succ cd_68_62, xpk_succ cd_68_65, xpk_succ cd_68_68, xpk_succ cd_68_71, hR_2, hR_3, hR_4, hR_5, hR_6, hR_7, hR_s2, hR_s3, hR_s4, hR_s5, hR_s6, hR_s7, (hR_T hb.1), (hR_sT hb.1), (R_0 hb), (R_1 hb), (R_T0 hb), (R_N hb), hK_R, hb.2.1.1, hk.2.1.1, hb.2.2.1.1, hb.2.2.1.2.2, hb.2.2.2.1, (E_kindAt (TOK_R hb.1 hk)), (E_placeAt (TOK_R hb.1 hk)), (E_valueAt (TOK_R hb.1 hk)), i1, z1, z2]
    exact y

set_option maxHeartbeats 4000000 in
theorem SM {h : AH} {T D cnt : Nat} {n : Int} {kn vn pn : Nat → Int} {l : Int} (hb : RDB h T D) (hk : TOK h cnt n kn vn pn) (hl : 0 ≤ l ∧ l ≤ 4) {N : Nat} (ih : PRp h T D cnt n kn vn pn l N (5 * N + 2) 6 69 9) : PRp h T D cnt n kn vn pn l N (5 * N + 3) 5 68 10 := by
  intro d j o L dd R cc ho hj hL hRt hask hd
  obtain ⟨d, rfl⟩ : ∃ d', d = d' + 5 := ⟨d - 5, by omega⟩
  obtain ⟨g, e1, hr⟩ := ih (d + 4) j o L dd R cc ho hj hL (topL_m hRt (by decide)) hask (by omega)
  have q0 : XC (d + 5) 68 [vR 70] (hR h T D (j : Int) (tkf cnt kn vn j).1 (o : Int) l 0 (-1) L dd) (PRr h T D cnt n kn vn pn l (5 * N + 3) 5 R cc j L o dd) := by
    refine XC_of (Nat.le_of_ble_eq_true rfl) ?_
    show XP (d + 4) 68 0 [some (vR 70), none, none] [] (hR h T D (j : Int) (tkf cnt kn vn j).1 (o : Int) l 0 (-1) L dd) _
    rcases hr.2 with ⟨j2, L2, dd2, rfl, hA2, hX⟩ | ⟨f, jf, ⟨a, c, L2, dd2, rfl, h3, hf⟩, hH⟩
    · obtain ⟨cmX, pX, hpX, hEx, hOx, hn2⟩ := hX
      have hpX : ∀ x, x ∈ pX → (5 : Int) ≤ rankO x ∧ rankO x ≤ 6 := fun x hx => by have := hpX x hx; omega
      have hn2 := hn2.1 rfl
      have y := SM_l hb hk hl ih ho hRt (cnt + 1) (d + 4) j2 L2 0 dd2 cmX pX none (by omega) (by have := hA2.1; have := hA2.2.1; omega) (by omega) hA2 hpX (Ex_w (fun _ _ _ => rfl) (by omega) hEx) hOx hn2 (by omega)
      have y : XP (d + 4) 68 6 [some (vR 70), some (vI 0), none] [] (hR h T D (j2 : Int) (tkf cnt kn vn j2).1 (o : Int) l 0 (-1) L2 dd2) (PRr h T D cnt n kn vn pn l (5 * N + 3) 5 R cc j L o dd) := y
      refine xpk_sound (stops := [6]) (n := 20) ?_
      simp only [sk_0, sk_1, sk_2, sk_3, sk_4, sk_5, sk_6, sk_7, sk_8, sk_iadd, sk_isub, sk_imul, sk_iand, sk_ior, sk_ixor, sk_ishl, sk_ishr, sk_iushr, sk_idiv, sk_irem, sk_ineg, sk_ladd, sk_lsub, sk_lmul, sk_land, sk_lor, sk_ldiv, sk_lrem, sk_lneg, sk_lshl, sk_lshr, sk_i2l, sk_l2i, sk_lcmp, sk_dupI, sk_dupR, sk_dup2L, sk_dup2I, sk_popI, sk_ifeq, sk_ifne, sk_iflt, sk_ifge, sk_ifgt, sk_ifle, sk_iceq, sk_icne, sk_iclt, sk_icge, sk_icgt, sk_icle, sk_goto, sk_getf, sk_putf, sk_gets, sk_iald, sk_lald, sk_bald, sk_aald, sk_iast, sk_last, sk_bast, sk_aast, sk_alen, sk_newa, sk_newt, sk_new, sk_cs1, sk_cs2, sk_cs3, sk_cs4, sk_cs5, sk_cs6, sk_cv1, sk_cv2, sk_cv3, sk_cv4, sk_cv5, sk_cv6, sk_ci1, sk_ci2, sk_ci3, sk_ret0, sk_retI, sk_retL, sk_retR, sk_sw, sk_oin, sk_max, sk_min, sk_abs, lI_0, lI_s, lL_0, lL_s, lR_0, lR_s, vIo_e, vLo_e, vOo_e, stW_I, stW_L, stW_R, stW_0, stW_z, okSt_0, okSt_s, hV_eq, hK_eq, okF_0, okF_1, okF_3, is01_0, is01_1, is01_i, Int.toNat_natCast, Int.reduceEq, Int.reduceLE, Int.reduceLT, Int.reduceNeg, Nat.reduceLT, not_true_eq_false, not_false_eq_true, reduceIte, Option.toList, List.cons_append, List.nil_append, List.set_cons_zero, List.set_cons_succ, List.not_mem_nil, List.mem_cons, if_false, if_true, ite_true, ite_false, and_self, and_true, true_and, Nat.reduceAdd, Nat.reduceLeDiff, Nat.reduceEqDiff, Nat.zero_add, Nat.le_refl, Nat.zero_le, or_false, false_or, Int.reduceToNat, or_true, true_or, eq_self, and_false, false_and, inR_d, nc_4, nc_5, nc_6, nc_7, nc_8, nc_16, nc_18, nc_20, nc_24, nc_32, nc_40, nc_64, nc_104, nc_120, nc_160, nc_256, nc_300, nc_330, nc_390, nc_1200, nc_1260, nc_3012, nc_9834, okSt_1i, okSt_1r, okSt_1n, List.length_cons, List.length_nil, xpk_succ cd_68_0, xpk_succ cd_68_1, xpk_succ cd_68_4, xpk_succ cd_68_5, hR_2, hR_3, hR_4, hR_5, hR_6, hR_7, hR_s2, hR_s3, hR_s4, hR_s5, hR_s6, hR_s7, (hR_T hb.1), (hR_sT hb.1), (R_0 hb), (R_1 hb), (R_T0 hb), (R_N hb), hK_R, hb.2.1.1, hk.2.1.1, hb.2.2.1.1, hb.2.2.1.2.2, hb.2.2.2.1, (E_kindAt (TOK_R hb.1 hk)), (E_placeAt (TOK_R hb.1 hk)), (E_valueAt (TOK_R hb.1 hk)), e1]
      exact y
    · have y : PRr h T D cnt n kn vn pn l (5 * N + 3) 5 R cc j L o dd none (hR h T D a 63 c l f (plf cnt n pn jf) L2 dd2) := ⟨rfl, Or.inr ⟨f, jf, ⟨a, c, L2, dd2, rfl, h3, hf⟩, hH⟩⟩
      refine xpk_sound (stops := []) (n := 40) ?_
      simp only [sk_0, sk_1, sk_2, sk_3, sk_4, sk_5, sk_6, sk_7, sk_8, sk_iadd, sk_isub, sk_imul, sk_iand, sk_ior, sk_ixor, sk_ishl, sk_ishr, sk_iushr, sk_idiv, sk_irem, sk_ineg, sk_ladd, sk_lsub, sk_lmul, sk_land, sk_lor, sk_ldiv, sk_lrem, sk_lneg, sk_lshl, sk_lshr, sk_i2l, sk_l2i, sk_lcmp, sk_dupI, sk_dupR, sk_dup2L, sk_dup2I, sk_popI, sk_ifeq, sk_ifne, sk_iflt, sk_ifge, sk_ifgt, sk_ifle, sk_iceq, sk_icne, sk_iclt, sk_icge, sk_icgt, sk_icle, sk_goto, sk_getf, sk_putf, sk_gets, sk_iald, sk_lald, sk_bald, sk_aald, sk_iast, sk_last, sk_bast, sk_aast, sk_alen, sk_newa, sk_newt, sk_new, sk_cs1, sk_cs2, sk_cs3, sk_cs4, sk_cs5, sk_cs6, sk_cv1, sk_cv2, sk_cv3, sk_cv4, sk_cv5, sk_cv6, sk_ci1, sk_ci2, sk_ci3, sk_ret0, sk_retI, sk_retL, sk_retR, sk_sw, sk_oin, sk_max, sk_min, sk_abs, lI_0, lI_s, lL_0, lL_s, lR_0, lR_s, vIo_e, vLo_e, vOo_e, stW_I, stW_L, stW_R, stW_0, stW_z, okSt_0, okSt_s, hV_eq, hK_eq, okF_0, okF_1, okF_3, is01_0, is01_1, is01_i, Int.toNat_natCast, Int.reduceEq, Int.reduceLE, Int.reduceLT, Int.reduceNeg, Nat.reduceLT, not_true_eq_false, not_false_eq_true, reduceIte, Option.toList, List.cons_append, List.nil_append, List.set_cons_zero, List.set_cons_succ, List.not_mem_nil, List.mem_cons, if_false, if_true, ite_true, ite_false, and_self, and_true, true_and, Nat.reduceAdd, Nat.reduceLeDiff, Nat.reduceEqDiff, Nat.zero_add, Nat.le_refl, Nat.zero_le, or_false, false_or, Int.reduceToNat, or_true, true_or, eq_self, and_false, false_and, inR_d, nc_4, nc_5, nc_6, nc_7, nc_8, nc_16, nc_18, nc_20, nc_24, nc_32, nc_40, nc_64, nc_104, nc_120, nc_160, nc_256, nc_300, nc_330, nc_390, nc_1200, nc_1260, nc_3012, nc_9834, okSt_1i, okSt_1r, okSt_1n, List.length_cons, List.length_nil, xpk_succ cd_68_0, xpk_succ cd_68_1, xpk_succ cd_68_4, xpk_succ cd_68_5, xpk_succ cd_68_6, xpk_succ cd_68_7, xpk_succ cd_68_10, xpk_succ cd_68_13, xpk_succ cd_68_14, xpk_succ cd_68_17, xpk_succ cd_68_19, xpk_succ cd_68_22, xpk_succ cd_68_23, xpk_succ cd_68_26, xpk_succ cd_68_28, xpk_succ cd_68_31, xpk_succ cd_68_32, xpk_succ cd_68_35, xpk_succ cd_68_37, xpk_succ cd_68_40, xpk_succ cd_68_42, xpk_succ cd_68_45, xpk_succ cd_68_47, xpk_succ cd_68_48, xpk_succ cd_68_49, xpk_succ cd_68_52, xpk_succ cd_68_53, xpk_succ cd_68_56, xpk_succ cd_68_57, xpk_succ cd_68_60, xpk_succ cd_68_61, xpk_succ cd_68_62, xpk_succ cd_68_65, xpk_succ cd_68_68, xpk_succ cd_68_71, hR_2, hR_3, hR_4, hR_5, hR_6, hR_7, hR_s2, hR_s3, hR_s4, hR_s5, hR_s6, hR_s7, (hR_T hb.1), (hR_sT hb.1), (R_0 hb), (R_1 hb), (R_T0 hb), (R_N hb), hK_R, hb.2.1.1, hk.2.1.1, hb.2.2.1.1, hb.2.2.1.2.2, hb.2.2.2.1, (E_kindAt (TOK_R hb.1 hk)), (E_placeAt (TOK_R hb.1 hk)), (E_valueAt (TOK_R hb.1 hk)), e1]
      exact y
  obtain ⟨r, g, hp, e⟩ := XC_dt q0
  have hr1 := hp.1
  subst hr1
  exact ⟨g, e, hp⟩

