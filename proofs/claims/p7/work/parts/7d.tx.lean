set_option maxRecDepth 20000 in
theorem ac_59 : allC[59]? = some cl59 := rfl
theorem cd_59_0 : cd 59 0 = some (4, 1, 0, 0, 0, []) := cd_row ac_59 rfl
theorem cd_59_1 : cd 59 1 = some (4, 2, 3, 0, 0, []) := cd_row ac_59 rfl
theorem cd_59_2 : cd 59 2 = some (24, 5, 4, 1, 3, []) := cd_row ac_59 rfl
theorem cd_59_5 : cd 59 5 = some (4, 6, 0, 0, 0, []) := cd_row ac_59 rfl
theorem cd_59_6 : cd 59 6 = some (23, 9, 4, 1, 0, []) := cd_row ac_59 rfl
theorem cd_59_9 : cd 59 9 = some (46, 12, 87, 1, 6, []) := cd_row ac_59 rfl
theorem cd_59_12 : cd 59 12 = some (4, 13, 0, 0, 0, []) := cd_row ac_59 rfl
theorem cd_59_13 : cd 59 13 = some (23, 16, 4, 0, 0, []) := cd_row ac_59 rfl
theorem cd_59_16 : cd 59 16 = some (4, 17, 1, 0, 0, []) := cd_row ac_59 rfl
theorem cd_59_17 : cd 59 17 = some (2, 18, 2, 0, 0, []) := cd_row ac_59 rfl
theorem cd_59_18 : cd 59 18 = some (46, 21, 102, 3, 7, []) := cd_row ac_59 rfl
theorem cd_59_21 : cd 59 21 = some (4, 22, 0, 0, 0, []) := cd_row ac_59 rfl
theorem cd_59_22 : cd 59 22 = some (0, 23, 0, 0, 0, []) := cd_row ac_59 rfl
theorem cd_59_23 : cd 59 23 = some (24, 26, 4, 4, 0, []) := cd_row ac_59 rfl
theorem cd_59_26 : cd 59 26 = some (4, 27, 0, 0, 0, []) := cd_row ac_59 rfl
theorem cd_59_27 : cd 59 27 = some (0, 28, 0, 0, 0, []) := cd_row ac_59 rfl
theorem cd_59_28 : cd 59 28 = some (24, 31, 4, 6, 0, []) := cd_row ac_59 rfl
theorem cd_59_31 : cd 59 31 = some (4, 32, 0, 0, 0, []) := cd_row ac_59 rfl
theorem cd_59_32 : cd 59 32 = some (0, 33, 0, 0, -1, []) := cd_row ac_59 rfl
theorem cd_59_33 : cd 59 33 = some (24, 36, 4, 7, 0, []) := cd_row ac_59 rfl
theorem cd_59_36 : cd 59 36 = some (4, 37, 0, 0, 0, []) := cd_row ac_59 rfl
theorem cd_59_37 : cd 59 37 = some (0, 38, 0, 0, 0, []) := cd_row ac_59 rfl
theorem cd_59_38 : cd 59 38 = some (24, 41, 4, 2, 0, []) := cd_row ac_59 rfl
theorem cd_59_41 : cd 59 41 = some (4, 42, 0, 0, 0, []) := cd_row ac_59 rfl
theorem cd_59_42 : cd 59 42 = some (4, 43, 0, 0, 0, []) := cd_row ac_59 rfl
theorem cd_59_43 : cd 59 43 = some (23, 46, 4, 0, 0, []) := cd_row ac_59 rfl
theorem cd_59_46 : cd 59 46 = some (0, 47, 0, 0, 0, []) := cd_row ac_59 rfl
theorem cd_59_47 : cd 59 47 = some (46, 50, 99, 2, 7, []) := cd_row ac_59 rfl
theorem cd_59_50 : cd 59 50 = some (24, 53, 4, 3, 0, []) := cd_row ac_59 rfl
theorem cd_59_53 : cd 59 53 = some (0, 54, 0, 0, 0, []) := cd_row ac_59 rfl
theorem cd_59_54 : cd 59 54 = some (5, 56, 4, 0, 0, []) := cd_row ac_59 rfl
theorem cd_59_56 : cd 59 56 = some (2, 58, 4, 0, 0, []) := cd_row ac_59 rfl
theorem cd_59_58 : cd 59 58 = some (0, 60, 0, 0, 24, []) := cd_row ac_59 rfl
theorem cd_59_60 : cd 59 60 = some (21, 63, 91, 4, 0, []) := cd_row ac_59 rfl
theorem cd_59_63 : cd 59 63 = some (4, 64, 0, 0, 0, []) := cd_row ac_59 rfl
theorem cd_59_64 : cd 59 64 = some (23, 67, 4, 3, 0, []) := cd_row ac_59 rfl
theorem cd_59_67 : cd 59 67 = some (0, 69, 0, 0, 62, []) := cd_row ac_59 rfl
theorem cd_59_69 : cd 59 69 = some (21, 72, 91, 0, 0, []) := cd_row ac_59 rfl
theorem cd_59_72 : cd 59 72 = some (4, 73, 0, 0, 0, []) := cd_row ac_59 rfl
theorem cd_59_73 : cd 59 73 = some (23, 76, 4, 3, 0, []) := cd_row ac_59 rfl
theorem cd_59_76 : cd 59 76 = some (0, 78, 0, 0, 63, []) := cd_row ac_59 rfl
theorem cd_59_78 : cd 59 78 = some (21, 81, 91, 0, 0, []) := cd_row ac_59 rfl
theorem cd_59_81 : cd 59 81 = some (4, 82, 0, 0, 0, []) := cd_row ac_59 rfl
theorem cd_59_82 : cd 59 82 = some (46, 85, 64, 1, 4, []) := cd_row ac_59 rfl
theorem cd_59_85 : cd 59 85 = some (8, 88, 4, 0, 1, []) := cd_row ac_59 rfl
theorem cd_59_88 : cd 59 88 = some (22, 91, 56, 0, 0, []) := cd_row ac_59 rfl
theorem cd_59_91 : cd 59 91 = some (4, 92, 0, 0, 0, []) := cd_row ac_59 rfl
theorem cd_59_92 : cd 59 92 = some (23, 95, 4, 6, 0, []) := cd_row ac_59 rfl
theorem cd_59_95 : cd 59 95 = some (20, 98, 102, 1, 0, []) := cd_row ac_59 rfl
theorem cd_59_98 : cd 59 98 = some (0, 99, 0, 0, 1, []) := cd_row ac_59 rfl
theorem cd_59_99 : cd 59 99 = some (22, 102, 103, 0, 0, []) := cd_row ac_59 rfl
theorem cd_59_102 : cd 59 102 = some (0, 103, 0, 0, 0, []) := cd_row ac_59 rfl
theorem cd_59_103 : cd 59 103 = some (40, 104, 1, 0, 0, []) := cd_row ac_59 rfl
set_option maxRecDepth 20000 in
theorem ac_64 : allC[64]? = some cl64 := rfl
theorem cd_64_0 : cd 64 0 = some (4, 1, 0, 0, 0, []) := cd_row ac_64 rfl
theorem cd_64_1 : cd 64 1 = some (23, 4, 4, 3, 0, []) := cd_row ac_64 rfl
theorem cd_64_4 : cd 64 4 = some (5, 5, 1, 0, 0, []) := cd_row ac_64 rfl
theorem cd_64_5 : cd 64 5 = some (2, 6, 1, 0, 0, []) := cd_row ac_64 rfl
theorem cd_64_6 : cd 64 6 = some (0, 8, 0, 0, 10, []) := cd_row ac_64 rfl
theorem cd_64_8 : cd 64 8 = some (21, 11, 25, 5, 0, []) := cd_row ac_64 rfl
theorem cd_64_11 : cd 64 11 = some (2, 12, 1, 0, 0, []) := cd_row ac_64 rfl
theorem cd_64_12 : cd 64 12 = some (0, 14, 0, 0, 16, []) := cd_row ac_64 rfl
theorem cd_64_14 : cd 64 14 = some (21, 17, 25, 0, 0, []) := cd_row ac_64 rfl
theorem cd_64_17 : cd 64 17 = some (4, 18, 0, 0, 0, []) := cd_row ac_64 rfl
theorem cd_64_18 : cd 64 18 = some (0, 19, 0, 0, 1, []) := cd_row ac_64 rfl
theorem cd_64_19 : cd 64 19 = some (46, 22, 60, 2, 4, []) := cd_row ac_64 rfl
theorem cd_64_22 : cd 64 22 = some (22, 25, 122, 0, 0, []) := cd_row ac_64 rfl
theorem cd_64_25 : cd 64 25 = some (4, 26, 0, 0, 0, []) := cd_row ac_64 rfl
theorem cd_64_26 : cd 64 26 = some (23, 29, 4, 1, 0, []) := cd_row ac_64 rfl
theorem cd_64_29 : cd 64 29 = some (2, 30, 1, 0, 0, []) := cd_row ac_64 rfl
theorem cd_64_30 : cd 64 30 = some (46, 33, 88, 2, 6, []) := cd_row ac_64 rfl
theorem cd_64_33 : cd 64 33 = some (20, 36, 44, 0, 0, []) := cd_row ac_64 rfl
theorem cd_64_36 : cd 64 36 = some (4, 37, 0, 0, 0, []) := cd_row ac_64 rfl
theorem cd_64_37 : cd 64 37 = some (0, 38, 0, 0, 4, []) := cd_row ac_64 rfl
theorem cd_64_38 : cd 64 38 = some (46, 41, 60, 2, 4, []) := cd_row ac_64 rfl
theorem cd_64_41 : cd 64 41 = some (22, 44, 122, 0, 0, []) := cd_row ac_64 rfl
theorem cd_64_44 : cd 64 44 = some (4, 45, 0, 0, 0, []) := cd_row ac_64 rfl
theorem cd_64_45 : cd 64 45 = some (23, 48, 4, 1, 0, []) := cd_row ac_64 rfl
theorem cd_64_48 : cd 64 48 = some (23, 51, 6, 6, 0, []) := cd_row ac_64 rfl
theorem cd_64_51 : cd 64 51 = some (0, 53, 0, 0, 24, []) := cd_row ac_64 rfl
theorem cd_64_53 : cd 64 53 = some (21, 56, 65, 2, 0, []) := cd_row ac_64 rfl
theorem cd_64_56 : cd 64 56 = some (4, 57, 0, 0, 0, []) := cd_row ac_64 rfl
theorem cd_64_57 : cd 64 57 = some (0, 59, 0, 0, 6, []) := cd_row ac_64 rfl
theorem cd_64_59 : cd 64 59 = some (46, 62, 60, 2, 4, []) := cd_row ac_64 rfl
theorem cd_64_62 : cd 64 62 = some (22, 65, 122, 0, 0, []) := cd_row ac_64 rfl
theorem cd_64_65 : cd 64 65 = some (4, 66, 0, 0, 0, []) := cd_row ac_64 rfl
theorem cd_64_66 : cd 64 66 = some (46, 69, 61, 1, 4, []) := cd_row ac_64 rfl
theorem cd_64_69 : cd 64 69 = some (2, 70, 1, 0, 0, []) := cd_row ac_64 rfl
theorem cd_64_70 : cd 64 70 = some (0, 71, 0, 0, 5, []) := cd_row ac_64 rfl
theorem cd_64_71 : cd 64 71 = some (21, 74, 103, 3, 0, []) := cd_row ac_64 rfl
theorem cd_64_74 : cd 64 74 = some (4, 75, 0, 0, 0, []) := cd_row ac_64 rfl
theorem cd_64_75 : cd 64 75 = some (2, 76, 1, 0, 0, []) := cd_row ac_64 rfl
theorem cd_64_76 : cd 64 76 = some (24, 79, 4, 5, 0, []) := cd_row ac_64 rfl
theorem cd_64_79 : cd 64 79 = some (4, 80, 0, 0, 0, []) := cd_row ac_64 rfl
theorem cd_64_80 : cd 64 80 = some (23, 83, 4, 1, 0, []) := cd_row ac_64 rfl
theorem cd_64_83 : cd 64 83 = some (23, 86, 6, 5, 0, []) := cd_row ac_64 rfl
theorem cd_64_86 : cd 64 86 = some (5, 87, 2, 0, 0, []) := cd_row ac_64 rfl
theorem cd_64_87 : cd 64 87 = some (4, 88, 0, 0, 0, []) := cd_row ac_64 rfl
theorem cd_64_88 : cd 64 88 = some (46, 91, 68, 1, 4, []) := cd_row ac_64 rfl
theorem cd_64_91 : cd 64 91 = some (4, 92, 0, 0, 0, []) := cd_row ac_64 rfl
theorem cd_64_92 : cd 64 92 = some (23, 95, 4, 1, 0, []) := cd_row ac_64 rfl
theorem cd_64_95 : cd 64 95 = some (2, 96, 1, 0, 0, []) := cd_row ac_64 rfl
theorem cd_64_96 : cd 64 96 = some (2, 97, 2, 0, 0, []) := cd_row ac_64 rfl
theorem cd_64_97 : cd 64 97 = some (46, 100, 93, 3, 6, []) := cd_row ac_64 rfl
theorem cd_64_100 : cd 64 100 = some (22, 103, 108, 0, 0, []) := cd_row ac_64 rfl
theorem cd_64_103 : cd 64 103 = some (4, 104, 0, 0, 0, []) := cd_row ac_64 rfl
theorem cd_64_104 : cd 64 104 = some (2, 105, 1, 0, 0, []) := cd_row ac_64 rfl
theorem cd_64_105 : cd 64 105 = some (46, 108, 65, 2, 4, []) := cd_row ac_64 rfl
theorem cd_64_108 : cd 64 108 = some (4, 109, 0, 0, 0, []) := cd_row ac_64 rfl
theorem cd_64_109 : cd 64 109 = some (0, 111, 0, 0, 52, []) := cd_row ac_64 rfl
theorem cd_64_111 : cd 64 111 = some (46, 114, 62, 2, 4, []) := cd_row ac_64 rfl
theorem cd_64_114 : cd 64 114 = some (4, 115, 0, 0, 0, []) := cd_row ac_64 rfl
theorem cd_64_115 : cd 64 115 = some (23, 118, 4, 1, 0, []) := cd_row ac_64 rfl
theorem cd_64_118 : cd 64 118 = some (2, 119, 1, 0, 0, []) := cd_row ac_64 rfl
theorem cd_64_119 : cd 64 119 = some (46, 122, 95, 2, 6, []) := cd_row ac_64 rfl
theorem cd_64_122 : cd 64 122 = some (39, 123, 0, 0, 0, []) := cd_row ac_64 rfl
set_option maxRecDepth 20000 in
theorem ac_65 : allC[65]? = some cl65 := rfl
theorem cd_65_0 : cd 65 0 = some (2, 1, 1, 0, 0, []) := cd_row ac_65 rfl
theorem cd_65_1 : cd 65 1 = some (43, 64, 151, 0, 0, [(5, 64), (6, 71), (7, 78), (8, 114), (9, 133), (10, 151), (11, 151), (12, 151), (13, 151), (14, 151), (15, 151), (16, 96)]) := cd_row ac_65 rfl
theorem cd_65_64 : cd 65 64 = some (4, 65, 0, 0, 0, []) := cd_row ac_65 rfl
theorem cd_65_65 : cd 65 65 = some (46, 68, 66, 1, 4, []) := cd_row ac_65 rfl
theorem cd_65_68 : cd 65 68 = some (22, 71, 151, 0, 0, []) := cd_row ac_65 rfl
theorem cd_65_71 : cd 65 71 = some (4, 72, 0, 0, 0, []) := cd_row ac_65 rfl
theorem cd_65_72 : cd 65 72 = some (46, 75, 67, 1, 4, []) := cd_row ac_65 rfl
theorem cd_65_75 : cd 65 75 = some (22, 78, 151, 0, 0, []) := cd_row ac_65 rfl
theorem cd_65_78 : cd 65 78 = some (4, 79, 0, 0, 0, []) := cd_row ac_65 rfl
theorem cd_65_79 : cd 65 79 = some (23, 82, 4, 1, 0, []) := cd_row ac_65 rfl
theorem cd_65_82 : cd 65 82 = some (0, 83, 0, 0, 0, []) := cd_row ac_65 rfl
theorem cd_65_83 : cd 65 83 = some (4, 84, 0, 0, 0, []) := cd_row ac_65 rfl
theorem cd_65_84 : cd 65 84 = some (0, 85, 0, 0, 1, []) := cd_row ac_65 rfl
theorem cd_65_85 : cd 65 85 = some (0, 87, 0, 0, 60, []) := cd_row ac_65 rfl
theorem cd_65_87 : cd 65 87 = some (46, 90, 63, 3, 4, []) := cd_row ac_65 rfl
theorem cd_65_90 : cd 65 90 = some (46, 93, 94, 3, 6, []) := cd_row ac_65 rfl
theorem cd_65_93 : cd 65 93 = some (22, 96, 151, 0, 0, []) := cd_row ac_65 rfl
theorem cd_65_96 : cd 65 96 = some (4, 97, 0, 0, 0, []) := cd_row ac_65 rfl
theorem cd_65_97 : cd 65 97 = some (23, 100, 4, 1, 0, []) := cd_row ac_65 rfl
theorem cd_65_100 : cd 65 100 = some (0, 101, 0, 0, 0, []) := cd_row ac_65 rfl
theorem cd_65_101 : cd 65 101 = some (4, 102, 0, 0, 0, []) := cd_row ac_65 rfl
theorem cd_65_102 : cd 65 102 = some (0, 103, 0, 0, 1, []) := cd_row ac_65 rfl
theorem cd_65_103 : cd 65 103 = some (0, 105, 0, 0, 24, []) := cd_row ac_65 rfl
theorem cd_65_105 : cd 65 105 = some (46, 108, 63, 3, 4, []) := cd_row ac_65 rfl
theorem cd_65_108 : cd 65 108 = some (46, 111, 94, 3, 6, []) := cd_row ac_65 rfl
theorem cd_65_111 : cd 65 111 = some (22, 114, 151, 0, 0, []) := cd_row ac_65 rfl
theorem cd_65_114 : cd 65 114 = some (4, 115, 0, 0, 0, []) := cd_row ac_65 rfl
theorem cd_65_115 : cd 65 115 = some (23, 118, 4, 1, 0, []) := cd_row ac_65 rfl
theorem cd_65_118 : cd 65 118 = some (0, 119, 0, 0, 0, []) := cd_row ac_65 rfl
theorem cd_65_119 : cd 65 119 = some (4, 120, 0, 0, 0, []) := cd_row ac_65 rfl
theorem cd_65_120 : cd 65 120 = some (0, 121, 0, 0, 0, []) := cd_row ac_65 rfl
theorem cd_65_121 : cd 65 121 = some (0, 124, 0, 0, 600, []) := cd_row ac_65 rfl
theorem cd_65_124 : cd 65 124 = some (46, 127, 63, 3, 4, []) := cd_row ac_65 rfl
theorem cd_65_127 : cd 65 127 = some (46, 130, 94, 3, 6, []) := cd_row ac_65 rfl
theorem cd_65_130 : cd 65 130 = some (22, 133, 151, 0, 0, []) := cd_row ac_65 rfl
theorem cd_65_133 : cd 65 133 = some (4, 134, 0, 0, 0, []) := cd_row ac_65 rfl
theorem cd_65_134 : cd 65 134 = some (23, 137, 4, 1, 0, []) := cd_row ac_65 rfl
theorem cd_65_137 : cd 65 137 = some (0, 138, 0, 0, 0, []) := cd_row ac_65 rfl
theorem cd_65_138 : cd 65 138 = some (4, 139, 0, 0, 0, []) := cd_row ac_65 rfl
theorem cd_65_139 : cd 65 139 = some (0, 140, 0, 0, 0, []) := cd_row ac_65 rfl
theorem cd_65_140 : cd 65 140 = some (0, 142, 0, 0, 7, []) := cd_row ac_65 rfl
theorem cd_65_142 : cd 65 142 = some (46, 145, 63, 3, 4, []) := cd_row ac_65 rfl
theorem cd_65_145 : cd 65 145 = some (46, 148, 94, 3, 6, []) := cd_row ac_65 rfl
theorem cd_65_148 : cd 65 148 = some (22, 151, 151, 0, 0, []) := cd_row ac_65 rfl
theorem cd_65_151 : cd 65 151 = some (39, 152, 0, 0, 0, []) := cd_row ac_65 rfl
set_option maxRecDepth 20000 in
theorem ac_66 : allC[66]? = some cl66 := rfl
theorem cd_66_0 : cd 66 0 = some (4, 1, 0, 0, 0, []) := cd_row ac_66 rfl
theorem cd_66_1 : cd 66 1 = some (23, 4, 4, 1, 0, []) := cd_row ac_66 rfl
theorem cd_66_4 : cd 66 4 = some (0, 5, 0, 0, 0, []) := cd_row ac_66 rfl
theorem cd_66_5 : cd 66 5 = some (4, 6, 0, 0, 0, []) := cd_row ac_66 rfl
theorem cd_66_6 : cd 66 6 = some (0, 7, 0, 0, 1, []) := cd_row ac_66 rfl
theorem cd_66_7 : cd 66 7 = some (0, 9, 0, 0, 99, []) := cd_row ac_66 rfl
theorem cd_66_9 : cd 66 9 = some (46, 12, 63, 3, 4, []) := cd_row ac_66 rfl
theorem cd_66_12 : cd 66 12 = some (46, 15, 94, 3, 6, []) := cd_row ac_66 rfl
theorem cd_66_15 : cd 66 15 = some (4, 16, 0, 0, 0, []) := cd_row ac_66 rfl
theorem cd_66_16 : cd 66 16 = some (0, 18, 0, 0, 19, []) := cd_row ac_66 rfl
theorem cd_66_18 : cd 66 18 = some (46, 21, 62, 2, 4, []) := cd_row ac_66 rfl
theorem cd_66_21 : cd 66 21 = some (4, 22, 0, 0, 0, []) := cd_row ac_66 rfl
theorem cd_66_22 : cd 66 22 = some (23, 25, 4, 1, 0, []) := cd_row ac_66 rfl
theorem cd_66_25 : cd 66 25 = some (0, 26, 0, 0, 1, []) := cd_row ac_66 rfl
theorem cd_66_26 : cd 66 26 = some (4, 27, 0, 0, 0, []) := cd_row ac_66 rfl
theorem cd_66_27 : cd 66 27 = some (0, 28, 0, 0, 0, []) := cd_row ac_66 rfl
theorem cd_66_28 : cd 66 28 = some (0, 30, 0, 0, 60, []) := cd_row ac_66 rfl
theorem cd_66_30 : cd 66 30 = some (46, 33, 63, 3, 4, []) := cd_row ac_66 rfl
theorem cd_66_33 : cd 66 33 = some (46, 36, 94, 3, 6, []) := cd_row ac_66 rfl
theorem cd_66_36 : cd 66 36 = some (4, 37, 0, 0, 0, []) := cd_row ac_66 rfl
theorem cd_66_37 : cd 66 37 = some (0, 39, 0, 0, 20, []) := cd_row ac_66 rfl
theorem cd_66_39 : cd 66 39 = some (46, 42, 62, 2, 4, []) := cd_row ac_66 rfl
theorem cd_66_42 : cd 66 42 = some (4, 43, 0, 0, 0, []) := cd_row ac_66 rfl
theorem cd_66_43 : cd 66 43 = some (23, 46, 4, 1, 0, []) := cd_row ac_66 rfl
theorem cd_66_46 : cd 66 46 = some (0, 47, 0, 0, 2, []) := cd_row ac_66 rfl
theorem cd_66_47 : cd 66 47 = some (4, 48, 0, 0, 0, []) := cd_row ac_66 rfl
theorem cd_66_48 : cd 66 48 = some (0, 49, 0, 0, 0, []) := cd_row ac_66 rfl
theorem cd_66_49 : cd 66 49 = some (0, 52, 0, 0, 999, []) := cd_row ac_66 rfl
theorem cd_66_52 : cd 66 52 = some (46, 55, 63, 3, 4, []) := cd_row ac_66 rfl
theorem cd_66_55 : cd 66 55 = some (46, 58, 94, 3, 6, []) := cd_row ac_66 rfl
theorem cd_66_58 : cd 66 58 = some (4, 59, 0, 0, 0, []) := cd_row ac_66 rfl
theorem cd_66_59 : cd 66 59 = some (0, 61, 0, 0, 21, []) := cd_row ac_66 rfl
theorem cd_66_61 : cd 66 61 = some (46, 64, 62, 2, 4, []) := cd_row ac_66 rfl
theorem cd_66_64 : cd 66 64 = some (4, 65, 0, 0, 0, []) := cd_row ac_66 rfl
theorem cd_66_65 : cd 66 65 = some (23, 68, 4, 1, 0, []) := cd_row ac_66 rfl
theorem cd_66_68 : cd 66 68 = some (0, 69, 0, 0, 3, []) := cd_row ac_66 rfl
theorem cd_66_69 : cd 66 69 = some (4, 70, 0, 0, 0, []) := cd_row ac_66 rfl
theorem cd_66_70 : cd 66 70 = some (0, 71, 0, 0, 0, []) := cd_row ac_66 rfl
theorem cd_66_71 : cd 66 71 = some (0, 73, 0, 0, 9, []) := cd_row ac_66 rfl
theorem cd_66_73 : cd 66 73 = some (46, 76, 63, 3, 4, []) := cd_row ac_66 rfl
theorem cd_66_76 : cd 66 76 = some (46, 79, 94, 3, 6, []) := cd_row ac_66 rfl
theorem cd_66_79 : cd 66 79 = some (4, 80, 0, 0, 0, []) := cd_row ac_66 rfl
theorem cd_66_80 : cd 66 80 = some (0, 82, 0, 0, 23, []) := cd_row ac_66 rfl
theorem cd_66_82 : cd 66 82 = some (46, 85, 62, 2, 4, []) := cd_row ac_66 rfl
theorem cd_66_85 : cd 66 85 = some (4, 86, 0, 0, 0, []) := cd_row ac_66 rfl
theorem cd_66_86 : cd 66 86 = some (23, 89, 4, 1, 0, []) := cd_row ac_66 rfl
theorem cd_66_89 : cd 66 89 = some (0, 90, 0, 0, 4, []) := cd_row ac_66 rfl
theorem cd_66_90 : cd 66 90 = some (4, 91, 0, 0, 0, []) := cd_row ac_66 rfl
theorem cd_66_91 : cd 66 91 = some (0, 92, 0, 0, 0, []) := cd_row ac_66 rfl
theorem cd_66_92 : cd 66 92 = some (0, 93, 0, 0, 1, []) := cd_row ac_66 rfl
theorem cd_66_93 : cd 66 93 = some (46, 96, 63, 3, 4, []) := cd_row ac_66 rfl
theorem cd_66_96 : cd 66 96 = some (46, 99, 94, 3, 6, []) := cd_row ac_66 rfl
theorem cd_66_99 : cd 66 99 = some (39, 100, 0, 0, 0, []) := cd_row ac_66 rfl
set_option maxRecDepth 20000 in
theorem ac_67 : allC[67]? = some cl67 := rfl
theorem cd_67_0 : cd 67 0 = some (4, 1, 0, 0, 0, []) := cd_row ac_67 rfl
theorem cd_67_1 : cd 67 1 = some (23, 4, 4, 3, 0, []) := cd_row ac_67 rfl
theorem cd_67_4 : cd 67 4 = some (0, 6, 0, 0, 22, []) := cd_row ac_67 rfl
theorem cd_67_6 : cd 67 6 = some (21, 9, 18, 2, 0, []) := cd_row ac_67 rfl
theorem cd_67_9 : cd 67 9 = some (4, 10, 0, 0, 0, []) := cd_row ac_67 rfl
theorem cd_67_10 : cd 67 10 = some (23, 13, 4, 3, 0, []) := cd_row ac_67 rfl
theorem cd_67_13 : cd 67 13 = some (0, 15, 0, 0, 24, []) := cd_row ac_67 rfl
theorem cd_67_15 : cd 67 15 = some (21, 18, 24, 5, 0, []) := cd_row ac_67 rfl
theorem cd_67_18 : cd 67 18 = some (4, 19, 0, 0, 0, []) := cd_row ac_67 rfl
theorem cd_67_19 : cd 67 19 = some (0, 20, 0, 0, 1, []) := cd_row ac_67 rfl
theorem cd_67_20 : cd 67 20 = some (46, 23, 60, 2, 4, []) := cd_row ac_67 rfl
theorem cd_67_23 : cd 67 23 = some (39, 24, 0, 0, 0, []) := cd_row ac_67 rfl
theorem cd_67_24 : cd 67 24 = some (4, 25, 0, 0, 0, []) := cd_row ac_67 rfl
theorem cd_67_25 : cd 67 25 = some (23, 28, 4, 1, 0, []) := cd_row ac_67 rfl
theorem cd_67_28 : cd 67 28 = some (0, 29, 0, 0, 0, []) := cd_row ac_67 rfl
theorem cd_67_29 : cd 67 29 = some (4, 30, 0, 0, 0, []) := cd_row ac_67 rfl
theorem cd_67_30 : cd 67 30 = some (23, 33, 4, 3, 0, []) := cd_row ac_67 rfl
theorem cd_67_33 : cd 67 33 = some (0, 35, 0, 0, 23, []) := cd_row ac_67 rfl
theorem cd_67_35 : cd 67 35 = some (9, 36, 0, 1, 0, []) := cd_row ac_67 rfl
theorem cd_67_36 : cd 67 36 = some (46, 39, 94, 3, 6, []) := cd_row ac_67 rfl
theorem cd_67_39 : cd 67 39 = some (4, 40, 0, 0, 0, []) := cd_row ac_67 rfl
theorem cd_67_40 : cd 67 40 = some (46, 43, 61, 1, 4, []) := cd_row ac_67 rfl
theorem cd_67_43 : cd 67 43 = some (39, 44, 0, 0, 0, []) := cd_row ac_67 rfl
set_option maxRecDepth 20000 in
theorem ac_87 : allC[87]? = some cl87 := rfl
theorem cd_87_0 : cd 87 0 = some (4, 1, 0, 0, 0, []) := cd_row ac_87 rfl
theorem cd_87_1 : cd 87 1 = some (0, 2, 0, 0, 0, []) := cd_row ac_87 rfl
theorem cd_87_2 : cd 87 2 = some (24, 5, 6, 5, 0, []) := cd_row ac_87 rfl
theorem cd_87_5 : cd 87 5 = some (4, 6, 0, 0, 0, []) := cd_row ac_87 rfl
theorem cd_87_6 : cd 87 6 = some (0, 7, 0, 0, 0, []) := cd_row ac_87 rfl
theorem cd_87_7 : cd 87 7 = some (24, 10, 6, 6, 0, []) := cd_row ac_87 rfl
theorem cd_87_10 : cd 87 10 = some (0, 11, 0, 0, 0, []) := cd_row ac_87 rfl
theorem cd_87_11 : cd 87 11 = some (5, 12, 1, 0, 0, []) := cd_row ac_87 rfl
theorem cd_87_12 : cd 87 12 = some (2, 13, 1, 0, 0, []) := cd_row ac_87 rfl
theorem cd_87_13 : cd 87 13 = some (0, 14, 0, 0, 5, []) := cd_row ac_87 rfl
theorem cd_87_14 : cd 87 14 = some (21, 17, 37, 3, 0, []) := cd_row ac_87 rfl
theorem cd_87_17 : cd 87 17 = some (4, 18, 0, 0, 0, []) := cd_row ac_87 rfl
theorem cd_87_18 : cd 87 18 = some (23, 21, 6, 1, 0, []) := cd_row ac_87 rfl
theorem cd_87_21 : cd 87 21 = some (2, 22, 1, 0, 0, []) := cd_row ac_87 rfl
theorem cd_87_22 : cd 87 22 = some (0, 23, 0, 0, -1, []) := cd_row ac_87 rfl
theorem cd_87_23 : cd 87 23 = some (30, 24, 0, 0, 0, []) := cd_row ac_87 rfl
theorem cd_87_24 : cd 87 24 = some (4, 25, 0, 0, 0, []) := cd_row ac_87 rfl
theorem cd_87_25 : cd 87 25 = some (23, 28, 6, 2, 0, []) := cd_row ac_87 rfl
theorem cd_87_28 : cd 87 28 = some (2, 29, 1, 0, 0, []) := cd_row ac_87 rfl
theorem cd_87_29 : cd 87 29 = some (0, 30, 0, 0, -1, []) := cd_row ac_87 rfl
theorem cd_87_30 : cd 87 30 = some (30, 31, 0, 0, 0, []) := cd_row ac_87 rfl
theorem cd_87_31 : cd 87 31 = some (8, 34, 1, 0, 1, []) := cd_row ac_87 rfl
theorem cd_87_34 : cd 87 34 = some (22, 37, 12, 0, 0, []) := cd_row ac_87 rfl
theorem cd_87_37 : cd 87 37 = some (39, 38, 0, 0, 0, []) := cd_row ac_87 rfl
set_option maxRecDepth 20000 in
theorem ac_88 : allC[88]? = some cl88 := rfl
theorem cd_88_0 : cd 88 0 = some (4, 1, 0, 0, 0, []) := cd_row ac_88 rfl
theorem cd_88_1 : cd 88 1 = some (2, 2, 1, 0, 0, []) := cd_row ac_88 rfl
theorem cd_88_2 : cd 88 2 = some (46, 5, 89, 2, 6, []) := cd_row ac_88 rfl
theorem cd_88_5 : cd 88 5 = some (0, 6, 0, 0, -1, []) := cd_row ac_88 rfl
theorem cd_88_6 : cd 88 6 = some (21, 9, 13, 0, 0, []) := cd_row ac_88 rfl
theorem cd_88_9 : cd 88 9 = some (0, 10, 0, 0, 1, []) := cd_row ac_88 rfl
theorem cd_88_10 : cd 88 10 = some (22, 13, 14, 0, 0, []) := cd_row ac_88 rfl
theorem cd_88_13 : cd 88 13 = some (0, 14, 0, 0, 0, []) := cd_row ac_88 rfl
theorem cd_88_14 : cd 88 14 = some (40, 15, 1, 0, 0, []) := cd_row ac_88 rfl
set_option maxRecDepth 20000 in
theorem ac_89 : allC[89]? = some cl89 := rfl
theorem cd_89_0 : cd 89 0 = some (2, 1, 1, 0, 0, []) := cd_row ac_89 rfl
theorem cd_89_1 : cd 89 1 = some (0, 2, 0, 0, 0, []) := cd_row ac_89 rfl
theorem cd_89_2 : cd 89 2 = some (0, 3, 0, 0, 4, []) := cd_row ac_89 rfl
theorem cd_89_3 : cd 89 3 = some (38, 6, 177, 3, 0, []) := cd_row ac_89 rfl
theorem cd_89_6 : cd 89 6 = some (20, 9, 18, 0, 0, []) := cd_row ac_89 rfl
theorem cd_89_9 : cd 89 9 = some (4, 10, 0, 0, 0, []) := cd_row ac_89 rfl
theorem cd_89_10 : cd 89 10 = some (23, 13, 6, 1, 0, []) := cd_row ac_89 rfl
theorem cd_89_13 : cd 89 13 = some (2, 14, 1, 0, 0, []) := cd_row ac_89 rfl
theorem cd_89_14 : cd 89 14 = some (26, 15, 0, 0, 0, []) := cd_row ac_89 rfl
theorem cd_89_15 : cd 89 15 = some (22, 18, 19, 0, 0, []) := cd_row ac_89 rfl
theorem cd_89_18 : cd 89 18 = some (0, 19, 0, 0, -1, []) := cd_row ac_89 rfl
theorem cd_89_19 : cd 89 19 = some (40, 20, 0, 0, 0, []) := cd_row ac_89 rfl
set_option maxRecDepth 20000 in
theorem ac_90 : allC[90]? = some cl90 := rfl
theorem cd_90_0 : cd 90 0 = some (2, 1, 1, 0, 0, []) := cd_row ac_90 rfl
theorem cd_90_1 : cd 90 1 = some (0, 2, 0, 0, 0, []) := cd_row ac_90 rfl
theorem cd_90_2 : cd 90 2 = some (0, 3, 0, 0, 4, []) := cd_row ac_90 rfl
theorem cd_90_3 : cd 90 3 = some (38, 6, 177, 3, 0, []) := cd_row ac_90 rfl
theorem cd_90_6 : cd 90 6 = some (20, 9, 18, 0, 0, []) := cd_row ac_90 rfl
theorem cd_90_9 : cd 90 9 = some (4, 10, 0, 0, 0, []) := cd_row ac_90 rfl
theorem cd_90_10 : cd 90 10 = some (23, 13, 6, 2, 0, []) := cd_row ac_90 rfl
theorem cd_90_13 : cd 90 13 = some (2, 14, 1, 0, 0, []) := cd_row ac_90 rfl
theorem cd_90_14 : cd 90 14 = some (26, 15, 0, 0, 0, []) := cd_row ac_90 rfl
theorem cd_90_15 : cd 90 15 = some (22, 18, 19, 0, 0, []) := cd_row ac_90 rfl
theorem cd_90_18 : cd 90 18 = some (0, 19, 0, 0, -1, []) := cd_row ac_90 rfl
theorem cd_90_19 : cd 90 19 = some (40, 20, 0, 0, 0, []) := cd_row ac_90 rfl
set_option maxRecDepth 20000 in
theorem ac_91 : allC[91]? = some cl91 := rfl
theorem cd_91_0 : cd 91 0 = some (2, 1, 1, 0, 0, []) := cd_row ac_91 rfl
theorem cd_91_1 : cd 91 1 = some (0, 2, 0, 0, 0, []) := cd_row ac_91 rfl
theorem cd_91_2 : cd 91 2 = some (4, 3, 0, 0, 0, []) := cd_row ac_91 rfl
theorem cd_91_3 : cd 91 3 = some (23, 6, 6, 6, 0, []) := cd_row ac_91 rfl
theorem cd_91_6 : cd 91 6 = some (0, 7, 0, 0, 1, []) := cd_row ac_91 rfl
theorem cd_91_7 : cd 91 7 = some (9, 8, 0, 1, 0, []) := cd_row ac_91 rfl
theorem cd_91_8 : cd 91 8 = some (38, 11, 177, 3, 0, []) := cd_row ac_91 rfl
theorem cd_91_11 : cd 91 11 = some (20, 14, 23, 0, 0, []) := cd_row ac_91 rfl
theorem cd_91_14 : cd 91 14 = some (4, 15, 0, 0, 0, []) := cd_row ac_91 rfl
theorem cd_91_15 : cd 91 15 = some (23, 18, 6, 3, 0, []) := cd_row ac_91 rfl
theorem cd_91_18 : cd 91 18 = some (2, 19, 1, 0, 0, []) := cd_row ac_91 rfl
theorem cd_91_19 : cd 91 19 = some (26, 20, 0, 0, 0, []) := cd_row ac_91 rfl
theorem cd_91_20 : cd 91 20 = some (22, 23, 24, 0, 0, []) := cd_row ac_91 rfl
theorem cd_91_23 : cd 91 23 = some (0, 24, 0, 0, -1, []) := cd_row ac_91 rfl
theorem cd_91_24 : cd 91 24 = some (40, 25, 0, 0, 0, []) := cd_row ac_91 rfl
set_option maxRecDepth 20000 in
theorem ac_92 : allC[92]? = some cl92 := rfl
theorem cd_92_0 : cd 92 0 = some (2, 1, 1, 0, 0, []) := cd_row ac_92 rfl
theorem cd_92_1 : cd 92 1 = some (0, 2, 0, 0, 0, []) := cd_row ac_92 rfl
theorem cd_92_2 : cd 92 2 = some (4, 3, 0, 0, 0, []) := cd_row ac_92 rfl
theorem cd_92_3 : cd 92 3 = some (23, 6, 6, 6, 0, []) := cd_row ac_92 rfl
theorem cd_92_6 : cd 92 6 = some (0, 7, 0, 0, 1, []) := cd_row ac_92 rfl
theorem cd_92_7 : cd 92 7 = some (9, 8, 0, 1, 0, []) := cd_row ac_92 rfl
theorem cd_92_8 : cd 92 8 = some (38, 11, 177, 3, 0, []) := cd_row ac_92 rfl
theorem cd_92_11 : cd 92 11 = some (20, 14, 36, 0, 0, []) := cd_row ac_92 rfl
theorem cd_92_14 : cd 92 14 = some (2, 15, 2, 0, 0, []) := cd_row ac_92 rfl
theorem cd_92_15 : cd 92 15 = some (0, 16, 0, 0, 0, []) := cd_row ac_92 rfl
theorem cd_92_16 : cd 92 16 = some (0, 17, 0, 0, 4, []) := cd_row ac_92 rfl
theorem cd_92_17 : cd 92 17 = some (38, 20, 177, 3, 0, []) := cd_row ac_92 rfl
theorem cd_92_20 : cd 92 20 = some (20, 23, 36, 0, 0, []) := cd_row ac_92 rfl
theorem cd_92_23 : cd 92 23 = some (4, 24, 0, 0, 0, []) := cd_row ac_92 rfl
theorem cd_92_24 : cd 92 24 = some (23, 27, 6, 4, 0, []) := cd_row ac_92 rfl
theorem cd_92_27 : cd 92 27 = some (2, 28, 1, 0, 0, []) := cd_row ac_92 rfl
theorem cd_92_28 : cd 92 28 = some (0, 29, 0, 0, 5, []) := cd_row ac_92 rfl
theorem cd_92_29 : cd 92 29 = some (9, 30, 0, 2, 0, []) := cd_row ac_92 rfl
theorem cd_92_30 : cd 92 30 = some (2, 31, 2, 0, 0, []) := cd_row ac_92 rfl
theorem cd_92_31 : cd 92 31 = some (9, 32, 0, 0, 0, []) := cd_row ac_92 rfl
theorem cd_92_32 : cd 92 32 = some (26, 33, 0, 0, 0, []) := cd_row ac_92 rfl
theorem cd_92_33 : cd 92 33 = some (22, 36, 37, 0, 0, []) := cd_row ac_92 rfl
theorem cd_92_36 : cd 92 36 = some (0, 37, 0, 0, 0, []) := cd_row ac_92 rfl
theorem cd_92_37 : cd 92 37 = some (40, 38, 0, 0, 0, []) := cd_row ac_92 rfl
set_option maxRecDepth 20000 in
theorem ac_93 : allC[93]? = some cl93 := rfl
theorem cd_93_0 : cd 93 0 = some (2, 1, 1, 0, 0, []) := cd_row ac_93 rfl
theorem cd_93_1 : cd 93 1 = some (0, 2, 0, 0, 0, []) := cd_row ac_93 rfl
theorem cd_93_2 : cd 93 2 = some (0, 3, 0, 0, 4, []) := cd_row ac_93 rfl
theorem cd_93_3 : cd 93 3 = some (38, 6, 177, 3, 0, []) := cd_row ac_93 rfl
theorem cd_93_6 : cd 93 6 = some (20, 9, 26, 0, 0, []) := cd_row ac_93 rfl
theorem cd_93_9 : cd 93 9 = some (4, 10, 0, 0, 0, []) := cd_row ac_93 rfl
theorem cd_93_10 : cd 93 10 = some (23, 13, 6, 1, 0, []) := cd_row ac_93 rfl
theorem cd_93_13 : cd 93 13 = some (2, 14, 1, 0, 0, []) := cd_row ac_93 rfl
theorem cd_93_14 : cd 93 14 = some (2, 15, 2, 0, 0, []) := cd_row ac_93 rfl
theorem cd_93_15 : cd 93 15 = some (30, 16, 0, 0, 0, []) := cd_row ac_93 rfl
theorem cd_93_16 : cd 93 16 = some (4, 17, 0, 0, 0, []) := cd_row ac_93 rfl
theorem cd_93_17 : cd 93 17 = some (23, 20, 6, 2, 0, []) := cd_row ac_93 rfl
theorem cd_93_20 : cd 93 20 = some (2, 21, 1, 0, 0, []) := cd_row ac_93 rfl
theorem cd_93_21 : cd 93 21 = some (4, 22, 0, 0, 0, []) := cd_row ac_93 rfl
theorem cd_93_22 : cd 93 22 = some (23, 25, 6, 5, 0, []) := cd_row ac_93 rfl
theorem cd_93_25 : cd 93 25 = some (30, 26, 0, 0, 0, []) := cd_row ac_93 rfl
theorem cd_93_26 : cd 93 26 = some (39, 27, 0, 0, 0, []) := cd_row ac_93 rfl
set_option maxRecDepth 20000 in
theorem ac_94 : allC[94]? = some cl94 := rfl
theorem cd_94_0 : cd 94 0 = some (4, 1, 0, 0, 0, []) := cd_row ac_94 rfl
theorem cd_94_1 : cd 94 1 = some (23, 4, 6, 6, 0, []) := cd_row ac_94 rfl
theorem cd_94_4 : cd 94 4 = some (0, 6, 0, 0, 24, []) := cd_row ac_94 rfl
theorem cd_94_6 : cd 94 6 = some (21, 9, 32, 3, 0, []) := cd_row ac_94 rfl
theorem cd_94_9 : cd 94 9 = some (2, 10, 1, 0, 0, []) := cd_row ac_94 rfl
theorem cd_94_10 : cd 94 10 = some (0, 11, 0, 0, 0, []) := cd_row ac_94 rfl
theorem cd_94_11 : cd 94 11 = some (0, 12, 0, 0, 4, []) := cd_row ac_94 rfl
theorem cd_94_12 : cd 94 12 = some (38, 15, 177, 3, 0, []) := cd_row ac_94 rfl
theorem cd_94_15 : cd 94 15 = some (20, 18, 32, 0, 0, []) := cd_row ac_94 rfl
theorem cd_94_18 : cd 94 18 = some (4, 19, 0, 0, 0, []) := cd_row ac_94 rfl
theorem cd_94_19 : cd 94 19 = some (23, 22, 6, 4, 0, []) := cd_row ac_94 rfl
theorem cd_94_22 : cd 94 22 = some (4, 23, 0, 0, 0, []) := cd_row ac_94 rfl
theorem cd_94_23 : cd 94 23 = some (23, 26, 6, 6, 0, []) := cd_row ac_94 rfl
theorem cd_94_26 : cd 94 26 = some (0, 27, 0, 0, 5, []) := cd_row ac_94 rfl
theorem cd_94_27 : cd 94 27 = some (9, 28, 0, 2, 0, []) := cd_row ac_94 rfl
theorem cd_94_28 : cd 94 28 = some (2, 29, 1, 0, 0, []) := cd_row ac_94 rfl
theorem cd_94_29 : cd 94 29 = some (9, 30, 0, 0, 0, []) := cd_row ac_94 rfl
theorem cd_94_30 : cd 94 30 = some (2, 31, 2, 0, 0, []) := cd_row ac_94 rfl
theorem cd_94_31 : cd 94 31 = some (30, 32, 0, 0, 0, []) := cd_row ac_94 rfl
theorem cd_94_32 : cd 94 32 = some (39, 33, 0, 0, 0, []) := cd_row ac_94 rfl
set_option maxRecDepth 20000 in
theorem ac_95 : allC[95]? = some cl95 := rfl
theorem cd_95_0 : cd 95 0 = some (4, 1, 0, 0, 0, []) := cd_row ac_95 rfl
theorem cd_95_1 : cd 95 1 = some (23, 4, 6, 6, 0, []) := cd_row ac_95 rfl
theorem cd_95_4 : cd 95 4 = some (0, 6, 0, 0, 24, []) := cd_row ac_95 rfl
theorem cd_95_6 : cd 95 6 = some (21, 9, 29, 3, 0, []) := cd_row ac_95 rfl
theorem cd_95_9 : cd 95 9 = some (4, 10, 0, 0, 0, []) := cd_row ac_95 rfl
theorem cd_95_10 : cd 95 10 = some (23, 13, 6, 3, 0, []) := cd_row ac_95 rfl
theorem cd_95_13 : cd 95 13 = some (4, 14, 0, 0, 0, []) := cd_row ac_95 rfl
theorem cd_95_14 : cd 95 14 = some (23, 17, 6, 6, 0, []) := cd_row ac_95 rfl
theorem cd_95_17 : cd 95 17 = some (2, 18, 1, 0, 0, []) := cd_row ac_95 rfl
theorem cd_95_18 : cd 95 18 = some (30, 19, 0, 0, 0, []) := cd_row ac_95 rfl
theorem cd_95_19 : cd 95 19 = some (4, 20, 0, 0, 0, []) := cd_row ac_95 rfl
theorem cd_95_20 : cd 95 20 = some (17, 21, 0, 0, 0, []) := cd_row ac_95 rfl
theorem cd_95_21 : cd 95 21 = some (23, 24, 6, 6, 0, []) := cd_row ac_95 rfl
theorem cd_95_24 : cd 95 24 = some (0, 25, 0, 0, 1, []) := cd_row ac_95 rfl
theorem cd_95_25 : cd 95 25 = some (9, 26, 0, 0, 0, []) := cd_row ac_95 rfl
theorem cd_95_26 : cd 95 26 = some (24, 29, 6, 6, 0, []) := cd_row ac_95 rfl
theorem cd_95_29 : cd 95 29 = some (39, 30, 0, 0, 0, []) := cd_row ac_95 rfl
/-! a text of the class: a heap in normal form -/
def hX (h : AH) (T : Nat) (bg en kd ag : Nat → Int) (nC : Nat) : AH := (h.1, h.2.1, h.2.2.1, fun k j => if k = T ∧ j = 6 then vI (nC : Int) else if k = T + 2 ∧ j < 5 then vI (bg j) else if k = T + 3 ∧ j < 5 then vI (en j) else if k = T + 4 ∧ j < 24 then vI (kd j) else if k = T + 5 ∧ j < 120 then vI (ag j) else h.2.2.2 k j)
theorem hK_X {h : AH} {T : Nat} {bg en kd ag : Nat → Int} {nC : Nat} (k : Nat) : hK (hX h T bg en kd ag nC) k = hK h k := rfl
theorem hX_6 {h : AH} {T : Nat} {bg en kd ag : Nat → Int} {nC : Nat} : hV (hX h T bg en kd ag nC) T 6 = vI (nC : Int) := if_pos ⟨rfl, rfl⟩
theorem hX_n {h : AH} {T : Nat} {bg en kd ag : Nat → Int} {nC : Nat} {k j : Nat} (h1 : k ≠ T ∨ j ≠ 6) (h2 : k ≠ T + 2 ∧ k ≠ T + 3 ∧ k ≠ T + 4 ∧ k ≠ T + 5) : hV (hX h T bg en kd ag nC) k j = hV h k j := by
  show (if k = T ∧ j = 6 then vI (nC : Int) else _) = _
  rw [if_neg (by omega), if_neg (by omega), if_neg (by omega), if_neg (by omega), if_neg (by omega)]
  rfl
theorem hX_s6 {h : AH} {T : Nat} {bg en kd ag : Nat → Int} {nC : Nat} {x : Nat} : hSet (hX h T bg en kd ag nC) T 6 (vI (x : Int)) = hX h T bg en kd ag x := by
  unfold hSet hX upV
  refine congrArg (fun V => (h.1, h.2.1, h.2.2.1, V)) ?_
  funext k j
  dsimp only
  by_cases z : k = T ∧ j = 6
  · rw [if_pos z, if_pos z]
  · simp only [if_neg z]
theorem hX_bg {h : AH} {T : Nat} {bg en kd ag : Nat → Int} {nC : Nat} {i : Nat} (hi : i < 5) : hV (hX h T bg en kd ag nC) (T + 2) i = vI (bg i) := by
  show (if T + 2 = T ∧ i = 6 then vI (nC : Int) else _) = _
  rw [if_neg (by omega), if_pos ⟨rfl, hi⟩]
theorem hX_sbg {h : AH} {T : Nat} {bg en kd ag : Nat → Int} {nC : Nat} {i : Nat} {v : Int} (hi : i < 5) : hSet (hX h T bg en kd ag nC) (T + 2) i (vI v) = hX h T (upF bg i v) en kd ag nC := by
  unfold hSet hX upV
  refine congrArg (fun V => (h.1, h.2.1, h.2.2.1, V)) ?_
  funext k j
  dsimp only
  by_cases z : k = T + 2 ∧ j = i
  · obtain ⟨rfl, rfl⟩ := z
    rw [if_pos ⟨rfl, rfl⟩, if_neg (by omega), if_pos ⟨rfl, hi⟩, upF_at]
  · rw [if_neg z]
    by_cases w : k = T + 2 ∧ j < 5
    · obtain ⟨rfl, w⟩ := w
      rw [if_neg (by omega), if_pos ⟨rfl, w⟩, if_neg (by omega), if_pos ⟨rfl, w⟩, upF_ne (by omega)]
    · simp only [if_neg w]
theorem hX_en {h : AH} {T : Nat} {bg en kd ag : Nat → Int} {nC : Nat} {i : Nat} (hi : i < 5) : hV (hX h T bg en kd ag nC) (T + 3) i = vI (en i) := by
  show (if T + 3 = T ∧ i = 6 then vI (nC : Int) else _) = _
  rw [if_neg (by omega), if_neg (by omega), if_pos ⟨rfl, hi⟩]
theorem hX_sen {h : AH} {T : Nat} {bg en kd ag : Nat → Int} {nC : Nat} {i : Nat} {v : Int} (hi : i < 5) : hSet (hX h T bg en kd ag nC) (T + 3) i (vI v) = hX h T bg (upF en i v) kd ag nC := by
  unfold hSet hX upV
  refine congrArg (fun V => (h.1, h.2.1, h.2.2.1, V)) ?_
  funext k j
  dsimp only
  by_cases z : k = T + 3 ∧ j = i
  · obtain ⟨rfl, rfl⟩ := z
    rw [if_pos ⟨rfl, rfl⟩, if_neg (by omega), if_neg (by omega), if_pos ⟨rfl, hi⟩, upF_at]
  · rw [if_neg z]
    by_cases w : k = T + 3 ∧ j < 5
    · obtain ⟨rfl, w⟩ := w
      rw [if_neg (by omega), if_neg (by omega), if_pos ⟨rfl, w⟩, if_neg (by omega), if_neg (by omega), if_pos ⟨rfl, w⟩, upF_ne (by omega)]
    · simp only [if_neg w]
theorem hX_kd {h : AH} {T : Nat} {bg en kd ag : Nat → Int} {nC : Nat} {i : Nat} (hi : i < 24) : hV (hX h T bg en kd ag nC) (T + 4) i = vI (kd i) := by
  show (if T + 4 = T ∧ i = 6 then vI (nC : Int) else _) = _
  rw [if_neg (by omega), if_neg (by omega), if_neg (by omega), if_pos ⟨rfl, hi⟩]
theorem hX_skd {h : AH} {T : Nat} {bg en kd ag : Nat → Int} {nC : Nat} {i : Nat} {v : Int} (hi : i < 24) : hSet (hX h T bg en kd ag nC) (T + 4) i (vI v) = hX h T bg en (upF kd i v) ag nC := by
  unfold hSet hX upV
  refine congrArg (fun V => (h.1, h.2.1, h.2.2.1, V)) ?_
  funext k j
  dsimp only
  by_cases z : k = T + 4 ∧ j = i
  · obtain ⟨rfl, rfl⟩ := z
    rw [if_pos ⟨rfl, rfl⟩, if_neg (by omega), if_neg (by omega), if_neg (by omega), if_pos ⟨rfl, hi⟩, upF_at]
  · rw [if_neg z]
    by_cases w : k = T + 4 ∧ j < 24
    · obtain ⟨rfl, w⟩ := w
      rw [if_neg (by omega), if_neg (by omega), if_neg (by omega), if_pos ⟨rfl, w⟩, if_neg (by omega), if_neg (by omega), if_neg (by omega), if_pos ⟨rfl, w⟩, upF_ne (by omega)]
    · simp only [if_neg w]
theorem hX_ag {h : AH} {T : Nat} {bg en kd ag : Nat → Int} {nC : Nat} {i : Nat} (hi : i < 120) : hV (hX h T bg en kd ag nC) (T + 5) i = vI (ag i) := by
  show (if T + 5 = T ∧ i = 6 then vI (nC : Int) else _) = _
  rw [if_neg (by omega), if_neg (by omega), if_neg (by omega), if_neg (by omega), if_pos ⟨rfl, hi⟩]
theorem hX_sag {h : AH} {T : Nat} {bg en kd ag : Nat → Int} {nC : Nat} {i : Nat} {v : Int} (hi : i < 120) : hSet (hX h T bg en kd ag nC) (T + 5) i (vI v) = hX h T bg en kd (upF ag i v) nC := by
  unfold hSet hX upV
  refine congrArg (fun V => (h.1, h.2.1, h.2.2.1, V)) ?_
  funext k j
  dsimp only
  by_cases z : k = T + 5 ∧ j = i
  · obtain ⟨rfl, rfl⟩ := z
    rw [if_pos ⟨rfl, rfl⟩, if_neg (by omega), if_neg (by omega), if_neg (by omega), if_neg (by omega), if_pos ⟨rfl, hi⟩, upF_at]
  · rw [if_neg z]
    by_cases w : k = T + 5 ∧ j < 120
    · obtain ⟨rfl, w⟩ := w
      rw [if_neg (by omega), if_neg (by omega), if_neg (by omega), if_neg (by omega), if_pos ⟨rfl, w⟩, if_neg (by omega), if_neg (by omega), if_neg (by omega), if_neg (by omega), if_pos ⟨rfl, w⟩, upF_ne (by omega)]
    · simp only [if_neg w]
/-- a store that isn't the reader's own -/
theorem hR_so {h : AH} {T D : Nat} {a b c l f p : Int} {L : Nat} {dd : Nat → Int} {k0 i : Nat} {v : AV} (h1 : k0 ≠ 70) (h2 : k0 ≠ T ∨ i ≠ 5) (h3 : k0 ≠ D) : hSet (hR h T D a b c l f p L dd) k0 i v = hR (hSet h k0 i v) T D a b c l f p L dd := by
  unfold hSet hR upV
  refine congrArg (fun V => (h.1, h.2.1, h.2.2.1, V)) ?_
  funext k j
  dsimp only
  by_cases z : k = k0 ∧ j = i
  · obtain ⟨rfl, rfl⟩ := z
    rw [if_pos ⟨rfl, rfl⟩, if_neg (by omega), if_neg (by omega), if_neg (by omega), if_neg (by omega), if_neg (by omega), if_neg (by omega), if_neg (by omega), if_neg (by omega), if_pos ⟨rfl, rfl⟩]
  · simp only [if_neg z]
/-- where a text's parts lie -/
def TXH (h : AH) (T : Nat) : Prop := (hV h T 1 = vR (T + 2) ∧ hV h T 2 = vR (T + 3) ∧ hV h T 3 = vR (T + 4) ∧ hV h T 4 = vR (T + 5)) ∧ (hK h (T + 2) = (11, 5) ∧ hK h (T + 3) = (11, 5) ∧ hK h (T + 4) = (11, 24) ∧ hK h (T + 5) = (11, 120))
theorem RDB_X {h : AH} {T : Nat} {bg en kd ag : Nat → Int} {nC : Nat} {D : Nat} (hb : RDB h T D) : RDB (hX h T bg en kd ag nC) T D := by
  have y := TD_n hb.1
  have y2 := hb.1
  unfold TD at y2
  obtain ⟨b1, ⟨b2, b3, b4⟩, ⟨b5, b6, b7⟩, b8, b9, b10, b11, b12, b13⟩ := hb
  refine ⟨b1, ⟨b2, ?_, ?_⟩, ⟨b5, ?_, b7⟩, b8, ?_, ?_, ?_, ?_, ?_⟩
  · rw [hX_n (by omega) (by omega)]; exact b3
  · rw [hX_n (by omega) (by omega)]; exact b4
  · rw [hX_n (by omega) (by omega)]; exact b6
  · rw [hX_n (by omega) (by omega)]; exact b9
  · rw [hX_n (by omega) (by omega)]; exact b10
  · rw [hX_n (by omega) (by omega)]; exact b11
  · rw [hX_n (by omega) (by omega)]; exact b12
  · rw [hX_n (by omega) (by omega)]; exact b13
theorem TOK_X {h : AH} {T : Nat} {bg en kd ag : Nat → Int} {nC : Nat} {D cnt : Nat} {n : Int} {kn vn pn : Nat → Int} (ht : TD T D) (hk : TOK h cnt n kn vn pn) : TOK (hX h T bg en kd ag nC) cnt n kn vn pn := by
  have y2 := ht
  unfold TD at y2
  obtain ⟨k1, ⟨k2, k3, k4, k5, k6, k7⟩, k8, k9⟩ := hk
  refine ⟨k1, ⟨k2, ?_, ?_, ?_, ?_, ?_⟩, k8, fun i hi => ⟨?_, ?_, ?_⟩⟩
  · rw [hX_n (by omega) (by omega)]; exact k3
  · rw [hX_n (by omega) (by omega)]; exact k4
  · rw [hX_n (by omega) (by omega)]; exact k5
  · rw [hX_n (by omega) (by omega)]; exact k6
  · rw [hX_n (by omega) (by omega)]; exact k7
  · rw [hX_n (by omega) (by omega)]; exact (k9 i hi).1
  · rw [hX_n (by omega) (by omega)]; exact (k9 i hi).2.1
  · rw [hX_n (by omega) (by omega)]; exact (k9 i hi).2.2
theorem GX_1 {h : AH} {T D : Nat} {bg en kd ag : Nat → Int} {nC : Nat} {a b c l f p : Int} {L : Nat} {dd : Nat → Int} (hb : RDB h T D) (hx : TXH h T) : hV (hR (hX h T bg en kd ag nC) T D a b c l f p L dd) T 1 = vR (T + 2) := by
  have y := TD_n hb.1
  have y2 := hb.1
  unfold TD at y2
  rw [hR_n (by omega) (by omega) (by omega), hX_n (by omega) (by omega)]; exact hx.1.1
theorem GX_2 {h : AH} {T D : Nat} {bg en kd ag : Nat → Int} {nC : Nat} {a b c l f p : Int} {L : Nat} {dd : Nat → Int} (hb : RDB h T D) (hx : TXH h T) : hV (hR (hX h T bg en kd ag nC) T D a b c l f p L dd) T 2 = vR (T + 3) := by
  have y := TD_n hb.1
  have y2 := hb.1
  unfold TD at y2
  rw [hR_n (by omega) (by omega) (by omega), hX_n (by omega) (by omega)]; exact hx.1.2.1
theorem GX_3 {h : AH} {T D : Nat} {bg en kd ag : Nat → Int} {nC : Nat} {a b c l f p : Int} {L : Nat} {dd : Nat → Int} (hb : RDB h T D) (hx : TXH h T) : hV (hR (hX h T bg en kd ag nC) T D a b c l f p L dd) T 3 = vR (T + 4) := by
  have y := TD_n hb.1
  have y2 := hb.1
  unfold TD at y2
  rw [hR_n (by omega) (by omega) (by omega), hX_n (by omega) (by omega)]; exact hx.1.2.2.1
theorem GX_4 {h : AH} {T D : Nat} {bg en kd ag : Nat → Int} {nC : Nat} {a b c l f p : Int} {L : Nat} {dd : Nat → Int} (hb : RDB h T D) (hx : TXH h T) : hV (hR (hX h T bg en kd ag nC) T D a b c l f p L dd) T 4 = vR (T + 5) := by
  have y := TD_n hb.1
  have y2 := hb.1
  unfold TD at y2
  rw [hR_n (by omega) (by omega) (by omega), hX_n (by omega) (by omega)]; exact hx.1.2.2.2
theorem GX_6 {h : AH} {T D : Nat} {bg en kd ag : Nat → Int} {nC : Nat} {a b c l f p : Int} {L : Nat} {dd : Nat → Int} (hb : RDB h T D) (hx : TXH h T) : hV (hR (hX h T bg en kd ag nC) T D a b c l f p L dd) T 6 = vI (nC : Int) := by
  have y := TD_n hb.1
  rw [hR_n (by omega) (by omega) (by omega)]; exact hX_6
theorem GX_s6 {h : AH} {T D : Nat} {bg en kd ag : Nat → Int} {nC : Nat} {a b c l f p : Int} {L : Nat} {dd : Nat → Int} (hb : RDB h T D) (hx : TXH h T) {x : Nat} : hSet (hR (hX h T bg en kd ag nC) T D a b c l f p L dd) T 6 (vI (x : Int)) = hR (hX h T bg en kd ag x) T D a b c l f p L dd := by
  have y := TD_n hb.1
  rw [hR_so (by omega) (by omega) (by omega), hX_s6]
theorem GX_bg {h : AH} {T D : Nat} {bg en kd ag : Nat → Int} {nC : Nat} {a b c l f p : Int} {L : Nat} {dd : Nat → Int} (hb : RDB h T D) (hx : TXH h T) {i : Nat} (hi : i < 5) : hV (hR (hX h T bg en kd ag nC) T D a b c l f p L dd) (T + 2) i = vI (bg i) := by
  have y := TD_n hb.1
  have y2 := hb.1
  unfold TD at y2
  rw [hR_n (by omega) (by omega) (by omega)]; exact hX_bg hi
theorem GX_sbg {h : AH} {T D : Nat} {bg en kd ag : Nat → Int} {nC : Nat} {a b c l f p : Int} {L : Nat} {dd : Nat → Int} (hb : RDB h T D) (hx : TXH h T) {i : Nat} {v : Int} (hi : i < 5) : hSet (hR (hX h T bg en kd ag nC) T D a b c l f p L dd) (T + 2) i (vI v) = hR (hX h T (upF bg i v) en kd ag nC) T D a b c l f p L dd := by
  have y := TD_n hb.1
  have y2 := hb.1
  unfold TD at y2
  rw [hR_so (by omega) (by omega) (by omega), hX_sbg hi]
theorem GX_en {h : AH} {T D : Nat} {bg en kd ag : Nat → Int} {nC : Nat} {a b c l f p : Int} {L : Nat} {dd : Nat → Int} (hb : RDB h T D) (hx : TXH h T) {i : Nat} (hi : i < 5) : hV (hR (hX h T bg en kd ag nC) T D a b c l f p L dd) (T + 3) i = vI (en i) := by
  have y := TD_n hb.1
  have y2 := hb.1
  unfold TD at y2
  rw [hR_n (by omega) (by omega) (by omega)]; exact hX_en hi
theorem GX_sen {h : AH} {T D : Nat} {bg en kd ag : Nat → Int} {nC : Nat} {a b c l f p : Int} {L : Nat} {dd : Nat → Int} (hb : RDB h T D) (hx : TXH h T) {i : Nat} {v : Int} (hi : i < 5) : hSet (hR (hX h T bg en kd ag nC) T D a b c l f p L dd) (T + 3) i (vI v) = hR (hX h T bg (upF en i v) kd ag nC) T D a b c l f p L dd := by
  have y := TD_n hb.1
  have y2 := hb.1
  unfold TD at y2
  rw [hR_so (by omega) (by omega) (by omega), hX_sen hi]
theorem GX_kd {h : AH} {T D : Nat} {bg en kd ag : Nat → Int} {nC : Nat} {a b c l f p : Int} {L : Nat} {dd : Nat → Int} (hb : RDB h T D) (hx : TXH h T) {i : Nat} (hi : i < 24) : hV (hR (hX h T bg en kd ag nC) T D a b c l f p L dd) (T + 4) i = vI (kd i) := by
  have y := TD_n hb.1
  have y2 := hb.1
  unfold TD at y2
  rw [hR_n (by omega) (by omega) (by omega)]; exact hX_kd hi
theorem GX_skd {h : AH} {T D : Nat} {bg en kd ag : Nat → Int} {nC : Nat} {a b c l f p : Int} {L : Nat} {dd : Nat → Int} (hb : RDB h T D) (hx : TXH h T) {i : Nat} {v : Int} (hi : i < 24) : hSet (hR (hX h T bg en kd ag nC) T D a b c l f p L dd) (T + 4) i (vI v) = hR (hX h T bg en (upF kd i v) ag nC) T D a b c l f p L dd := by
  have y := TD_n hb.1
  have y2 := hb.1
  unfold TD at y2
  rw [hR_so (by omega) (by omega) (by omega), hX_skd hi]
theorem GX_ag {h : AH} {T D : Nat} {bg en kd ag : Nat → Int} {nC : Nat} {a b c l f p : Int} {L : Nat} {dd : Nat → Int} (hb : RDB h T D) (hx : TXH h T) {i : Nat} (hi : i < 120) : hV (hR (hX h T bg en kd ag nC) T D a b c l f p L dd) (T + 5) i = vI (ag i) := by
  have y := TD_n hb.1
  have y2 := hb.1
  unfold TD at y2
  rw [hR_n (by omega) (by omega) (by omega)]; exact hX_ag hi
theorem GX_sag {h : AH} {T D : Nat} {bg en kd ag : Nat → Int} {nC : Nat} {a b c l f p : Int} {L : Nat} {dd : Nat → Int} (hb : RDB h T D) (hx : TXH h T) {i : Nat} {v : Int} (hi : i < 120) : hSet (hR (hX h T bg en kd ag nC) T D a b c l f p L dd) (T + 5) i (vI v) = hR (hX h T bg en kd (upF ag i v) nC) T D a b c l f p L dd := by
  have y := TD_n hb.1
  have y2 := hb.1
  unfold TD at y2
  rw [hR_so (by omega) (by omega) (by omega), hX_sag hi]
set_option maxHeartbeats 4000000 in
theorem X_bgi {d : Nat} {h : AH} {T D : Nat} {bg en kd ag : Nat → Int} {nC : Nat} {a b c l f p : Int} {L : Nat} {dd : Nat → Int} (hb : RDB h T D) (hx : TXH h T) {w : Int} (h0 : 0 ≤ w) (h4 : w ≤ 4) (Q : Option AV → AH → Prop) : XC (d + 2) 89 [vR T, vI w] (hR (hX h T bg en kd ag nC) T D a b c l f p L dd) Q = Q (some (vI (bg w.toNat))) (hR (hX h T bg en kd ag nC) T D a b c l f p L dd) := by
  have z1 : 0 ≤ w ∧ w ≤ 4 := ⟨h0, h4⟩
  have z2 : 0 ≤ w ∧ w < 5 := by omega
  have hi : w.toNat < 5 := by omega
  refine XC_eq (Nat.le_of_ble_eq_true rfl) ?_ Q
  show XP (d + 1) 89 0 [some (vR T), some (vI w)] [] (hR (hX h T bg en kd ag nC) T D a b c l f p L dd) _
  refine xpk_sound (stops := []) (n := 30) ?_
  simp only [sk_0, sk_1, sk_2, sk_3, sk_4, sk_5, sk_6, sk_7, sk_8, sk_iadd, sk_isub, sk_imul, sk_iand, sk_ior, sk_ixor, sk_ishl, sk_ishr, sk_iushr, sk_idiv, sk_irem, sk_ineg, sk_ladd, sk_lsub, sk_lmul, sk_land, sk_lor, sk_ldiv, sk_lrem, sk_lneg, sk_lshl, sk_lshr, sk_i2l, sk_l2i, sk_lcmp, sk_dupI, sk_dupR, sk_dup2L, sk_dup2I, sk_popI, sk_ifeq, sk_ifne, sk_iflt, sk_ifge, sk_ifgt, sk_ifle, sk_iceq, sk_icne, sk_iclt, sk_icge, sk_icgt, sk_icle, sk_goto, sk_getf, sk_putf, sk_gets, sk_iald, sk_lald, sk_bald, sk_aald, sk_iast, sk_last, sk_bast, sk_aast, sk_alen, sk_newa, sk_newt, sk_new, sk_cs1, sk_cs2, sk_cs3, sk_cs4, sk_cs5, sk_cs6, sk_cv1, sk_cv2, sk_cv3, sk_cv4, sk_cv5, sk_cv6, sk_ci1, sk_ci2, sk_ci3, sk_ret0, sk_retI, sk_retL, sk_retR, sk_sw, sk_oin, sk_max, sk_min, sk_abs, lI_0, lI_s, lL_0, lL_s, lR_0, lR_s, vIo_e, vLo_e, vOo_e, stW_I, stW_L, stW_R, stW_0, stW_z, okSt_0, okSt_s, hV_eq, hK_eq, okF_0, okF_1, okF_3, is01_0, is01_1, is01_i, Int.toNat_natCast, Int.reduceEq, Int.reduceLE, Int.reduceLT, Int.reduceNeg, Nat.reduceLT, not_true_eq_false, not_false_eq_true, reduceIte, Option.toList, List.cons_append, List.nil_append, List.set_cons_zero, List.set_cons_succ, List.not_mem_nil, List.mem_cons, if_false, if_true, ite_true, ite_false, and_self, and_true, true_and, Nat.reduceAdd, Nat.reduceLeDiff, Nat.reduceEqDiff, Nat.zero_add, Nat.le_refl, Nat.zero_le, or_false, false_or, Int.reduceToNat, or_true, true_or, eq_self, and_false, false_and, inR_d, nc_4, nc_5, nc_6, nc_7, nc_8, nc_16, nc_18, nc_20, nc_24, nc_32, nc_40, nc_64, nc_104, nc_120, nc_160, nc_256, nc_300, nc_330, nc_390, nc_1200, nc_1260, nc_3012, nc_9834, okSt_1i, okSt_1r, okSt_1n, List.length_cons, List.length_nil, xpk_succ cd_89_0, xpk_succ cd_89_1, xpk_succ cd_89_2, xpk_succ cd_89_3, xpk_succ cd_89_6, xpk_succ cd_89_9, xpk_succ cd_89_10, xpk_succ cd_89_13, xpk_succ cd_89_14, xpk_succ cd_89_15, xpk_succ cd_89_18, xpk_succ cd_89_19, (GX_1 hb hx), (GX_2 hb hx), (GX_3 hb hx), (GX_4 hb hx), (GX_6 hb hx), (GX_s6 hb hx), (hR_T hb.1), (hR_sT hb.1), hK_R, hK_X, hb.2.2.1.1, hx.2.1, hx.2.2.1, hx.2.2.2.1, hx.2.2.2.2, X_wn, z1, z2, (GX_bg hb hx hi)]
set_option maxHeartbeats 4000000 in
theorem X_bgn {d : Nat} {h : AH} {T D : Nat} {bg en kd ag : Nat → Int} {nC : Nat} {a b c l f p : Int} {L : Nat} {dd : Nat → Int} (hb : RDB h T D) (hx : TXH h T) {w : Int} (h4 : w < 0 ∨ 4 < w) (Q : Option AV → AH → Prop) : XC (d + 2) 89 [vR T, vI w] (hR (hX h T bg en kd ag nC) T D a b c l f p L dd) Q = Q (some (vI (-1))) (hR (hX h T bg en kd ag nC) T D a b c l f p L dd) := by
  have z1 : ¬ (0 ≤ w ∧ w ≤ 4) := by omega
  refine XC_eq (Nat.le_of_ble_eq_true rfl) ?_ Q
  show XP (d + 1) 89 0 [some (vR T), some (vI w)] [] (hR (hX h T bg en kd ag nC) T D a b c l f p L dd) _
  refine xpk_sound (stops := []) (n := 30) ?_
  simp only [sk_0, sk_1, sk_2, sk_3, sk_4, sk_5, sk_6, sk_7, sk_8, sk_iadd, sk_isub, sk_imul, sk_iand, sk_ior, sk_ixor, sk_ishl, sk_ishr, sk_iushr, sk_idiv, sk_irem, sk_ineg, sk_ladd, sk_lsub, sk_lmul, sk_land, sk_lor, sk_ldiv, sk_lrem, sk_lneg, sk_lshl, sk_lshr, sk_i2l, sk_l2i, sk_lcmp, sk_dupI, sk_dupR, sk_dup2L, sk_dup2I, sk_popI, sk_ifeq, sk_ifne, sk_iflt, sk_ifge, sk_ifgt, sk_ifle, sk_iceq, sk_icne, sk_iclt, sk_icge, sk_icgt, sk_icle, sk_goto, sk_getf, sk_putf, sk_gets, sk_iald, sk_lald, sk_bald, sk_aald, sk_iast, sk_last, sk_bast, sk_aast, sk_alen, sk_newa, sk_newt, sk_new, sk_cs1, sk_cs2, sk_cs3, sk_cs4, sk_cs5, sk_cs6, sk_cv1, sk_cv2, sk_cv3, sk_cv4, sk_cv5, sk_cv6, sk_ci1, sk_ci2, sk_ci3, sk_ret0, sk_retI, sk_retL, sk_retR, sk_sw, sk_oin, sk_max, sk_min, sk_abs, lI_0, lI_s, lL_0, lL_s, lR_0, lR_s, vIo_e, vLo_e, vOo_e, stW_I, stW_L, stW_R, stW_0, stW_z, okSt_0, okSt_s, hV_eq, hK_eq, okF_0, okF_1, okF_3, is01_0, is01_1, is01_i, Int.toNat_natCast, Int.reduceEq, Int.reduceLE, Int.reduceLT, Int.reduceNeg, Nat.reduceLT, not_true_eq_false, not_false_eq_true, reduceIte, Option.toList, List.cons_append, List.nil_append, List.set_cons_zero, List.set_cons_succ, List.not_mem_nil, List.mem_cons, if_false, if_true, ite_true, ite_false, and_self, and_true, true_and, Nat.reduceAdd, Nat.reduceLeDiff, Nat.reduceEqDiff, Nat.zero_add, Nat.le_refl, Nat.zero_le, or_false, false_or, Int.reduceToNat, or_true, true_or, eq_self, and_false, false_and, inR_d, nc_4, nc_5, nc_6, nc_7, nc_8, nc_16, nc_18, nc_20, nc_24, nc_32, nc_40, nc_64, nc_104, nc_120, nc_160, nc_256, nc_300, nc_330, nc_390, nc_1200, nc_1260, nc_3012, nc_9834, okSt_1i, okSt_1r, okSt_1n, List.length_cons, List.length_nil, xpk_succ cd_89_0, xpk_succ cd_89_1, xpk_succ cd_89_2, xpk_succ cd_89_3, xpk_succ cd_89_6, xpk_succ cd_89_9, xpk_succ cd_89_10, xpk_succ cd_89_13, xpk_succ cd_89_14, xpk_succ cd_89_15, xpk_succ cd_89_18, xpk_succ cd_89_19, (GX_1 hb hx), (GX_2 hb hx), (GX_3 hb hx), (GX_4 hb hx), (GX_6 hb hx), (GX_s6 hb hx), (hR_T hb.1), (hR_sT hb.1), hK_R, hK_X, hb.2.2.1.1, hx.2.1, hx.2.2.1, hx.2.2.2.1, hx.2.2.2.2, X_wn, z1]
set_option maxHeartbeats 4000000 in
theorem X_hs8 {d : Nat} {h : AH} {T D : Nat} {bg en kd ag : Nat → Int} {nC : Nat} {a b c l f p : Int} {L : Nat} {dd : Nat → Int} (hb : RDB h T D) (hx : TXH h T) {w : Int} (Q : Option AV → AH → Prop) : XC (d + 3) 88 [vR T, vI w] (hR (hX h T bg en kd ag nC) T D a b c l f p L dd) Q = Q (some (vI (b01 (decide ((0 ≤ w ∧ w ≤ 4) ∧ bg w.toNat ≠ -1))))) (hR (hX h T bg en kd ag nC) T D a b c l f p L dd) := by
  refine XC_eq (Nat.le_of_ble_eq_true rfl) ?_ Q
  show XP (d + 2) 88 0 [some (vR T), some (vI w)] [] (hR (hX h T bg en kd ag nC) T D a b c l f p L dd) _
  by_cases z : 0 ≤ w ∧ w ≤ 4
  · have e := fun Q => X_bgi (d := d) (D := D) (bg := bg) (en := en) (kd := kd) (ag := ag) (nC := nC) (a := a) (b := b) (c := c) (l := l) (f := f) (p := p) (L := L) (dd := dd) hb hx z.1 z.2 Q
    by_cases y : bg w.toNat = -1
    · rw [decide_eq_false (fun q : (0 ≤ w ∧ w ≤ 4) ∧ bg w.toNat ≠ -1 => q.2 y), show b01 false = 0 from rfl]
      refine xpk_sound (stops := []) (n := 20) ?_
      simp only [sk_0, sk_1, sk_2, sk_3, sk_4, sk_5, sk_6, sk_7, sk_8, sk_iadd, sk_isub, sk_imul, sk_iand, sk_ior, sk_ixor, sk_ishl, sk_ishr, sk_iushr, sk_idiv, sk_irem, sk_ineg, sk_ladd, sk_lsub, sk_lmul, sk_land, sk_lor, sk_ldiv, sk_lrem, sk_lneg, sk_lshl, sk_lshr, sk_i2l, sk_l2i, sk_lcmp, sk_dupI, sk_dupR, sk_dup2L, sk_dup2I, sk_popI, sk_ifeq, sk_ifne, sk_iflt, sk_ifge, sk_ifgt, sk_ifle, sk_iceq, sk_icne, sk_iclt, sk_icge, sk_icgt, sk_icle, sk_goto, sk_getf, sk_putf, sk_gets, sk_iald, sk_lald, sk_bald, sk_aald, sk_iast, sk_last, sk_bast, sk_aast, sk_alen, sk_newa, sk_newt, sk_new, sk_cs1, sk_cs2, sk_cs3, sk_cs4, sk_cs5, sk_cs6, sk_cv1, sk_cv2, sk_cv3, sk_cv4, sk_cv5, sk_cv6, sk_ci1, sk_ci2, sk_ci3, sk_ret0, sk_retI, sk_retL, sk_retR, sk_sw, sk_oin, sk_max, sk_min, sk_abs, lI_0, lI_s, lL_0, lL_s, lR_0, lR_s, vIo_e, vLo_e, vOo_e, stW_I, stW_L, stW_R, stW_0, stW_z, okSt_0, okSt_s, hV_eq, hK_eq, okF_0, okF_1, okF_3, is01_0, is01_1, is01_i, Int.toNat_natCast, Int.reduceEq, Int.reduceLE, Int.reduceLT, Int.reduceNeg, Nat.reduceLT, not_true_eq_false, not_false_eq_true, reduceIte, Option.toList, List.cons_append, List.nil_append, List.set_cons_zero, List.set_cons_succ, List.not_mem_nil, List.mem_cons, if_false, if_true, ite_true, ite_false, and_self, and_true, true_and, Nat.reduceAdd, Nat.reduceLeDiff, Nat.reduceEqDiff, Nat.zero_add, Nat.le_refl, Nat.zero_le, or_false, false_or, Int.reduceToNat, or_true, true_or, eq_self, and_false, false_and, inR_d, nc_4, nc_5, nc_6, nc_7, nc_8, nc_16, nc_18, nc_20, nc_24, nc_32, nc_40, nc_64, nc_104, nc_120, nc_160, nc_256, nc_300, nc_330, nc_390, nc_1200, nc_1260, nc_3012, nc_9834, okSt_1i, okSt_1r, okSt_1n, List.length_cons, List.length_nil, xpk_succ cd_88_0, xpk_succ cd_88_1, xpk_succ cd_88_2, xpk_succ cd_88_5, xpk_succ cd_88_6, xpk_succ cd_88_9, xpk_succ cd_88_10, xpk_succ cd_88_13, xpk_succ cd_88_14, (GX_1 hb hx), (GX_2 hb hx), (GX_3 hb hx), (GX_4 hb hx), (GX_6 hb hx), (GX_s6 hb hx), (hR_T hb.1), (hR_sT hb.1), hK_R, hK_X, hb.2.2.1.1, hx.2.1, hx.2.2.1, hx.2.2.2.1, hx.2.2.2.2, e, y]
    · rw [decide_eq_true (show (0 ≤ w ∧ w ≤ 4) ∧ bg w.toNat ≠ -1 from ⟨z, y⟩), show b01 true = 1 from rfl]
      refine xpk_sound (stops := []) (n := 20) ?_
      simp only [sk_0, sk_1, sk_2, sk_3, sk_4, sk_5, sk_6, sk_7, sk_8, sk_iadd, sk_isub, sk_imul, sk_iand, sk_ior, sk_ixor, sk_ishl, sk_ishr, sk_iushr, sk_idiv, sk_irem, sk_ineg, sk_ladd, sk_lsub, sk_lmul, sk_land, sk_lor, sk_ldiv, sk_lrem, sk_lneg, sk_lshl, sk_lshr, sk_i2l, sk_l2i, sk_lcmp, sk_dupI, sk_dupR, sk_dup2L, sk_dup2I, sk_popI, sk_ifeq, sk_ifne, sk_iflt, sk_ifge, sk_ifgt, sk_ifle, sk_iceq, sk_icne, sk_iclt, sk_icge, sk_icgt, sk_icle, sk_goto, sk_getf, sk_putf, sk_gets, sk_iald, sk_lald, sk_bald, sk_aald, sk_iast, sk_last, sk_bast, sk_aast, sk_alen, sk_newa, sk_newt, sk_new, sk_cs1, sk_cs2, sk_cs3, sk_cs4, sk_cs5, sk_cs6, sk_cv1, sk_cv2, sk_cv3, sk_cv4, sk_cv5, sk_cv6, sk_ci1, sk_ci2, sk_ci3, sk_ret0, sk_retI, sk_retL, sk_retR, sk_sw, sk_oin, sk_max, sk_min, sk_abs, lI_0, lI_s, lL_0, lL_s, lR_0, lR_s, vIo_e, vLo_e, vOo_e, stW_I, stW_L, stW_R, stW_0, stW_z, okSt_0, okSt_s, hV_eq, hK_eq, okF_0, okF_1, okF_3, is01_0, is01_1, is01_i, Int.toNat_natCast, Int.reduceEq, Int.reduceLE, Int.reduceLT, Int.reduceNeg, Nat.reduceLT, not_true_eq_false, not_false_eq_true, reduceIte, Option.toList, List.cons_append, List.nil_append, List.set_cons_zero, List.set_cons_succ, List.not_mem_nil, List.mem_cons, if_false, if_true, ite_true, ite_false, and_self, and_true, true_and, Nat.reduceAdd, Nat.reduceLeDiff, Nat.reduceEqDiff, Nat.zero_add, Nat.le_refl, Nat.zero_le, or_false, false_or, Int.reduceToNat, or_true, true_or, eq_self, and_false, false_and, inR_d, nc_4, nc_5, nc_6, nc_7, nc_8, nc_16, nc_18, nc_20, nc_24, nc_32, nc_40, nc_64, nc_104, nc_120, nc_160, nc_256, nc_300, nc_330, nc_390, nc_1200, nc_1260, nc_3012, nc_9834, okSt_1i, okSt_1r, okSt_1n, List.length_cons, List.length_nil, xpk_succ cd_88_0, xpk_succ cd_88_1, xpk_succ cd_88_2, xpk_succ cd_88_5, xpk_succ cd_88_6, xpk_succ cd_88_9, xpk_succ cd_88_10, xpk_succ cd_88_13, xpk_succ cd_88_14, (GX_1 hb hx), (GX_2 hb hx), (GX_3 hb hx), (GX_4 hb hx), (GX_6 hb hx), (GX_s6 hb hx), (hR_T hb.1), (hR_sT hb.1), hK_R, hK_X, hb.2.2.1.1, hx.2.1, hx.2.2.1, hx.2.2.2.1, hx.2.2.2.2, e, y]
  · have e := fun Q => X_bgn (d := d) (D := D) (bg := bg) (en := en) (kd := kd) (ag := ag) (nC := nC) (a := a) (b := b) (c := c) (l := l) (f := f) (p := p) (L := L) (dd := dd) (w := w) hb hx (by omega) Q
    rw [decide_eq_false (fun q : (0 ≤ w ∧ w ≤ 4) ∧ bg w.toNat ≠ -1 => z q.1), show b01 false = 0 from rfl]
    refine xpk_sound (stops := []) (n := 20) ?_
    simp only [sk_0, sk_1, sk_2, sk_3, sk_4, sk_5, sk_6, sk_7, sk_8, sk_iadd, sk_isub, sk_imul, sk_iand, sk_ior, sk_ixor, sk_ishl, sk_ishr, sk_iushr, sk_idiv, sk_irem, sk_ineg, sk_ladd, sk_lsub, sk_lmul, sk_land, sk_lor, sk_ldiv, sk_lrem, sk_lneg, sk_lshl, sk_lshr, sk_i2l, sk_l2i, sk_lcmp, sk_dupI, sk_dupR, sk_dup2L, sk_dup2I, sk_popI, sk_ifeq, sk_ifne, sk_iflt, sk_ifge, sk_ifgt, sk_ifle, sk_iceq, sk_icne, sk_iclt, sk_icge, sk_icgt, sk_icle, sk_goto, sk_getf, sk_putf, sk_gets, sk_iald, sk_lald, sk_bald, sk_aald, sk_iast, sk_last, sk_bast, sk_aast, sk_alen, sk_newa, sk_newt, sk_new, sk_cs1, sk_cs2, sk_cs3, sk_cs4, sk_cs5, sk_cs6, sk_cv1, sk_cv2, sk_cv3, sk_cv4, sk_cv5, sk_cv6, sk_ci1, sk_ci2, sk_ci3, sk_ret0, sk_retI, sk_retL, sk_retR, sk_sw, sk_oin, sk_max, sk_min, sk_abs, lI_0, lI_s, lL_0, lL_s, lR_0, lR_s, vIo_e, vLo_e, vOo_e, stW_I, stW_L, stW_R, stW_0, stW_z, okSt_0, okSt_s, hV_eq, hK_eq, okF_0, okF_1, okF_3, is01_0, is01_1, is01_i, Int.toNat_natCast, Int.reduceEq, Int.reduceLE, Int.reduceLT, Int.reduceNeg, Nat.reduceLT, not_true_eq_false, not_false_eq_true, reduceIte, Option.toList, List.cons_append, List.nil_append, List.set_cons_zero, List.set_cons_succ, List.not_mem_nil, List.mem_cons, if_false, if_true, ite_true, ite_false, and_self, and_true, true_and, Nat.reduceAdd, Nat.reduceLeDiff, Nat.reduceEqDiff, Nat.zero_add, Nat.le_refl, Nat.zero_le, or_false, false_or, Int.reduceToNat, or_true, true_or, eq_self, and_false, false_and, inR_d, nc_4, nc_5, nc_6, nc_7, nc_8, nc_16, nc_18, nc_20, nc_24, nc_32, nc_40, nc_64, nc_104, nc_120, nc_160, nc_256, nc_300, nc_330, nc_390, nc_1200, nc_1260, nc_3012, nc_9834, okSt_1i, okSt_1r, okSt_1n, List.length_cons, List.length_nil, xpk_succ cd_88_0, xpk_succ cd_88_1, xpk_succ cd_88_2, xpk_succ cd_88_5, xpk_succ cd_88_6, xpk_succ cd_88_9, xpk_succ cd_88_10, xpk_succ cd_88_13, xpk_succ cd_88_14, (GX_1 hb hx), (GX_2 hb hx), (GX_3 hb hx), (GX_4 hb hx), (GX_6 hb hx), (GX_s6 hb hx), (hR_T hb.1), (hR_sT hb.1), hK_R, hK_X, hb.2.2.1.1, hx.2.1, hx.2.2.1, hx.2.2.2.1, hx.2.2.2.2, e]
set_option maxHeartbeats 4000000 in
theorem X_setL {d : Nat} {h : AH} {T D : Nat} {bg en kd ag : Nat → Int} {nC : Nat} {a b c l f p : Int} {L : Nat} {dd : Nat → Int} (hb : RDB h T D) (hx : TXH h T) {w v : Int} (h0 : 0 ≤ w) (h4 : w ≤ 4) (Q : Option AV → AH → Prop) : XC (d + 2) 93 [vR T, vI w, vI v] (hR (hX h T bg en kd ag nC) T D a b c l f p L dd) Q = Q none (hR (hX h T (upF bg w.toNat v) (upF en w.toNat (L : Int)) kd ag nC) T D a b c l f p L dd) := by
  have z1 : 0 ≤ w ∧ w ≤ 4 := ⟨h0, h4⟩
  have z2 : 0 ≤ w ∧ w < 5 := by omega
  have hi : w.toNat < 5 := by omega
  refine XC_eq (Nat.le_of_ble_eq_true rfl) ?_ Q
  show XP (d + 1) 93 0 [some (vR T), some (vI w), some (vI v)] [] (hR (hX h T bg en kd ag nC) T D a b c l f p L dd) _
  refine xpk_sound (stops := []) (n := 40) ?_
  simp only [sk_0, sk_1, sk_2, sk_3, sk_4, sk_5, sk_6, sk_7, sk_8, sk_iadd, sk_isub, sk_imul, sk_iand, sk_ior, sk_ixor, sk_ishl, sk_ishr, sk_iushr, sk_idiv, sk_irem, sk_ineg, sk_ladd, sk_lsub, sk_lmul, sk_land, sk_lor, sk_ldiv, sk_lrem, sk_lneg, sk_lshl, sk_lshr, sk_i2l, sk_l2i, sk_lcmp, sk_dupI, sk_dupR, sk_dup2L, sk_dup2I, sk_popI, sk_ifeq, sk_ifne, sk_iflt, sk_ifge, sk_ifgt, sk_ifle, sk_iceq, sk_icne, sk_iclt, sk_icge, sk_icgt, sk_icle, sk_goto, sk_getf, sk_putf, sk_gets, sk_iald, sk_lald, sk_bald, sk_aald, sk_iast, sk_last, sk_bast, sk_aast, sk_alen, sk_newa, sk_newt, sk_new, sk_cs1, sk_cs2, sk_cs3, sk_cs4, sk_cs5, sk_cs6, sk_cv1, sk_cv2, sk_cv3, sk_cv4, sk_cv5, sk_cv6, sk_ci1, sk_ci2, sk_ci3, sk_ret0, sk_retI, sk_retL, sk_retR, sk_sw, sk_oin, sk_max, sk_min, sk_abs, lI_0, lI_s, lL_0, lL_s, lR_0, lR_s, vIo_e, vLo_e, vOo_e, stW_I, stW_L, stW_R, stW_0, stW_z, okSt_0, okSt_s, hV_eq, hK_eq, okF_0, okF_1, okF_3, is01_0, is01_1, is01_i, Int.toNat_natCast, Int.reduceEq, Int.reduceLE, Int.reduceLT, Int.reduceNeg, Nat.reduceLT, not_true_eq_false, not_false_eq_true, reduceIte, Option.toList, List.cons_append, List.nil_append, List.set_cons_zero, List.set_cons_succ, List.not_mem_nil, List.mem_cons, if_false, if_true, ite_true, ite_false, and_self, and_true, true_and, Nat.reduceAdd, Nat.reduceLeDiff, Nat.reduceEqDiff, Nat.zero_add, Nat.le_refl, Nat.zero_le, or_false, false_or, Int.reduceToNat, or_true, true_or, eq_self, and_false, false_and, inR_d, nc_4, nc_5, nc_6, nc_7, nc_8, nc_16, nc_18, nc_20, nc_24, nc_32, nc_40, nc_64, nc_104, nc_120, nc_160, nc_256, nc_300, nc_330, nc_390, nc_1200, nc_1260, nc_3012, nc_9834, okSt_1i, okSt_1r, okSt_1n, List.length_cons, List.length_nil, xpk_succ cd_93_0, xpk_succ cd_93_1, xpk_succ cd_93_2, xpk_succ cd_93_3, xpk_succ cd_93_6, xpk_succ cd_93_9, xpk_succ cd_93_10, xpk_succ cd_93_13, xpk_succ cd_93_14, xpk_succ cd_93_15, xpk_succ cd_93_16, xpk_succ cd_93_17, xpk_succ cd_93_20, xpk_succ cd_93_21, xpk_succ cd_93_22, xpk_succ cd_93_25, xpk_succ cd_93_26, (GX_1 hb hx), (GX_2 hb hx), (GX_3 hb hx), (GX_4 hb hx), (GX_6 hb hx), (GX_s6 hb hx), (hR_T hb.1), (hR_sT hb.1), hK_R, hK_X, hb.2.2.1.1, hx.2.1, hx.2.2.1, hx.2.2.2.1, hx.2.2.2.2, X_wn, z1, z2, (GX_sbg hb hx hi), (GX_sen hb hx hi)]
set_option maxHeartbeats 4000000 in
theorem X_sarg {d : Nat} {h : AH} {T D : Nat} {bg en kd ag : Nat → Int} {nC : Nat} {a b c l f p : Int} {L : Nat} {dd : Nat → Int} (hb : RDB h T D) (hx : TXH h T) {i : Nat} {v : Int} (hi : i ≤ 4) (hC : nC < 24) (Q : Option AV → AH → Prop) : XC (d + 2) 94 [vR T, vI (i : Int), vI v] (hR (hX h T bg en kd ag nC) T D a b c l f p L dd) Q = Q none (hR (hX h T bg en kd (upF ag (nC * 5 + i) v) nC) T D a b c l f p L dd) := by
  have z0 : ¬ ((24 : Int) ≤ (nC : Int)) := by omega
  have z1 : (0 : Int) ≤ (i : Int) ∧ (i : Int) ≤ 4 := by omega
  have h2 : nC * 5 + i < 120 := by omega
  have w1 : WE ((nC : Int) * 5) (((nC * 5 : Nat) : Int)) := by unfold WE w32; omega
  have w2 : WE (((nC * 5 : Nat) : Int) + (i : Int)) (((nC * 5 + i : Nat) : Int)) := by unfold WE w32; omega
  have z2 : (0 : Int) ≤ ((nC * 5 + i : Nat) : Int) ∧ ((nC * 5 + i : Nat) : Int) < 120 := by omega
  refine XC_eq (Nat.le_of_ble_eq_true rfl) ?_ Q
  show XP (d + 1) 94 0 [some (vR T), some (vI (i : Int)), some (vI v)] [] (hR (hX h T bg en kd ag nC) T D a b c l f p L dd) _
  refine xpk_sound (stops := []) (n := 40) ?_
  simp only [sk_0, sk_1, sk_2, sk_3, sk_4, sk_5, sk_6, sk_7, sk_8, sk_iadd, sk_isub, sk_imul, sk_iand, sk_ior, sk_ixor, sk_ishl, sk_ishr, sk_iushr, sk_idiv, sk_irem, sk_ineg, sk_ladd, sk_lsub, sk_lmul, sk_land, sk_lor, sk_ldiv, sk_lrem, sk_lneg, sk_lshl, sk_lshr, sk_i2l, sk_l2i, sk_lcmp, sk_dupI, sk_dupR, sk_dup2L, sk_dup2I, sk_popI, sk_ifeq, sk_ifne, sk_iflt, sk_ifge, sk_ifgt, sk_ifle, sk_iceq, sk_icne, sk_iclt, sk_icge, sk_icgt, sk_icle, sk_goto, sk_getf, sk_putf, sk_gets, sk_iald, sk_lald, sk_bald, sk_aald, sk_iast, sk_last, sk_bast, sk_aast, sk_alen, sk_newa, sk_newt, sk_new, sk_cs1, sk_cs2, sk_cs3, sk_cs4, sk_cs5, sk_cs6, sk_cv1, sk_cv2, sk_cv3, sk_cv4, sk_cv5, sk_cv6, sk_ci1, sk_ci2, sk_ci3, sk_ret0, sk_retI, sk_retL, sk_retR, sk_sw, sk_oin, sk_max, sk_min, sk_abs, lI_0, lI_s, lL_0, lL_s, lR_0, lR_s, vIo_e, vLo_e, vOo_e, stW_I, stW_L, stW_R, stW_0, stW_z, okSt_0, okSt_s, hV_eq, hK_eq, okF_0, okF_1, okF_3, is01_0, is01_1, is01_i, Int.toNat_natCast, Int.reduceEq, Int.reduceLE, Int.reduceLT, Int.reduceNeg, Nat.reduceLT, not_true_eq_false, not_false_eq_true, reduceIte, Option.toList, List.cons_append, List.nil_append, List.set_cons_zero, List.set_cons_succ, List.not_mem_nil, List.mem_cons, if_false, if_true, ite_true, ite_false, and_self, and_true, true_and, Nat.reduceAdd, Nat.reduceLeDiff, Nat.reduceEqDiff, Nat.zero_add, Nat.le_refl, Nat.zero_le, or_false, false_or, Int.reduceToNat, or_true, true_or, eq_self, and_false, false_and, inR_d, nc_4, nc_5, nc_6, nc_7, nc_8, nc_16, nc_18, nc_20, nc_24, nc_32, nc_40, nc_64, nc_104, nc_120, nc_160, nc_256, nc_300, nc_330, nc_390, nc_1200, nc_1260, nc_3012, nc_9834, okSt_1i, okSt_1r, okSt_1n, List.length_cons, List.length_nil, xpk_succ cd_94_0, xpk_succ cd_94_1, xpk_succ cd_94_4, xpk_succ cd_94_6, xpk_succ cd_94_9, xpk_succ cd_94_10, xpk_succ cd_94_11, xpk_succ cd_94_12, xpk_succ cd_94_15, xpk_succ cd_94_18, xpk_succ cd_94_19, xpk_succ cd_94_22, xpk_succ cd_94_23, xpk_succ cd_94_26, xpk_succ cd_94_27, xpk_succ cd_94_28, xpk_succ cd_94_29, xpk_succ cd_94_30, xpk_succ cd_94_31, xpk_succ cd_94_32, (GX_1 hb hx), (GX_2 hb hx), (GX_3 hb hx), (GX_4 hb hx), (GX_6 hb hx), (GX_s6 hb hx), (hR_T hb.1), (hR_sT hb.1), hK_R, hK_X, hb.2.2.1.1, hx.2.1, hx.2.2.1, hx.2.2.2.1, hx.2.2.2.2, X_wn, z0, z1, (WE_e w1), (WE_e w2), z2, (GX_sag hb hx h2)]
set_option maxHeartbeats 4000000 in
theorem X_cls {d : Nat} {h : AH} {T D : Nat} {bg en kd ag : Nat → Int} {nC : Nat} {a b c l f p : Int} {L : Nat} {dd : Nat → Int} (hb : RDB h T D) (hx : TXH h T) {v : Int} (hC : nC < 24) (Q : Option AV → AH → Prop) : XC (d + 1) 95 [vR T, vI v] (hR (hX h T bg en kd ag nC) T D a b c l f p L dd) Q = Q none (hR (hX h T bg en (upF kd nC v) ag (nC + 1)) T D a b c l f p L dd) := by
  have z0 : ¬ ((24 : Int) ≤ (nC : Int)) := by omega
  have w1 : WE ((nC : Int) + 1) (((nC + 1 : Nat) : Int)) := by unfold WE w32; omega
  have z2 : (0 : Int) ≤ (nC : Int) ∧ (nC : Int) < 24 := by omega
  refine XC_eq (Nat.le_of_ble_eq_true rfl) ?_ Q
  show XP (d + 0) 95 0 [some (vR T), some (vI v)] [] (hR (hX h T bg en kd ag nC) T D a b c l f p L dd) _
  refine xpk_sound (stops := []) (n := 40) ?_
  simp only [sk_0, sk_1, sk_2, sk_3, sk_4, sk_5, sk_6, sk_7, sk_8, sk_iadd, sk_isub, sk_imul, sk_iand, sk_ior, sk_ixor, sk_ishl, sk_ishr, sk_iushr, sk_idiv, sk_irem, sk_ineg, sk_ladd, sk_lsub, sk_lmul, sk_land, sk_lor, sk_ldiv, sk_lrem, sk_lneg, sk_lshl, sk_lshr, sk_i2l, sk_l2i, sk_lcmp, sk_dupI, sk_dupR, sk_dup2L, sk_dup2I, sk_popI, sk_ifeq, sk_ifne, sk_iflt, sk_ifge, sk_ifgt, sk_ifle, sk_iceq, sk_icne, sk_iclt, sk_icge, sk_icgt, sk_icle, sk_goto, sk_getf, sk_putf, sk_gets, sk_iald, sk_lald, sk_bald, sk_aald, sk_iast, sk_last, sk_bast, sk_aast, sk_alen, sk_newa, sk_newt, sk_new, sk_cs1, sk_cs2, sk_cs3, sk_cs4, sk_cs5, sk_cs6, sk_cv1, sk_cv2, sk_cv3, sk_cv4, sk_cv5, sk_cv6, sk_ci1, sk_ci2, sk_ci3, sk_ret0, sk_retI, sk_retL, sk_retR, sk_sw, sk_oin, sk_max, sk_min, sk_abs, lI_0, lI_s, lL_0, lL_s, lR_0, lR_s, vIo_e, vLo_e, vOo_e, stW_I, stW_L, stW_R, stW_0, stW_z, okSt_0, okSt_s, hV_eq, hK_eq, okF_0, okF_1, okF_3, is01_0, is01_1, is01_i, Int.toNat_natCast, Int.reduceEq, Int.reduceLE, Int.reduceLT, Int.reduceNeg, Nat.reduceLT, not_true_eq_false, not_false_eq_true, reduceIte, Option.toList, List.cons_append, List.nil_append, List.set_cons_zero, List.set_cons_succ, List.not_mem_nil, List.mem_cons, if_false, if_true, ite_true, ite_false, and_self, and_true, true_and, Nat.reduceAdd, Nat.reduceLeDiff, Nat.reduceEqDiff, Nat.zero_add, Nat.le_refl, Nat.zero_le, or_false, false_or, Int.reduceToNat, or_true, true_or, eq_self, and_false, false_and, inR_d, nc_4, nc_5, nc_6, nc_7, nc_8, nc_16, nc_18, nc_20, nc_24, nc_32, nc_40, nc_64, nc_104, nc_120, nc_160, nc_256, nc_300, nc_330, nc_390, nc_1200, nc_1260, nc_3012, nc_9834, okSt_1i, okSt_1r, okSt_1n, List.length_cons, List.length_nil, xpk_succ cd_95_0, xpk_succ cd_95_1, xpk_succ cd_95_4, xpk_succ cd_95_6, xpk_succ cd_95_9, xpk_succ cd_95_10, xpk_succ cd_95_13, xpk_succ cd_95_14, xpk_succ cd_95_17, xpk_succ cd_95_18, xpk_succ cd_95_19, xpk_succ cd_95_20, xpk_succ cd_95_21, xpk_succ cd_95_24, xpk_succ cd_95_25, xpk_succ cd_95_26, xpk_succ cd_95_29, (GX_1 hb hx), (GX_2 hb hx), (GX_3 hb hx), (GX_4 hb hx), (GX_6 hb hx), (GX_s6 hb hx), (hR_T hb.1), (hR_sT hb.1), hK_R, hK_X, hb.2.2.1.1, hx.2.1, hx.2.2.1, hx.2.2.2.1, hx.2.2.2.2, z0, (WE_e w1), z2, (GX_skd hb hx hC)]
/-! the parts of a clause that isn't a law, over tokens -/
def nmS (tk : Nat → Int × Int) (lo hi : Int) (j : Nat) : (Int × Nat) ⊕ (Nat × Int) := if (tk j).1 ≠ 60 then .inl (1, j) else if (tk j).2 < lo ∨ hi < (tk j).2 then .inl (2, j) else .inr (j + 1, (tk j).2)
def wdQ (tk : Nat → Int × Int) (w : Int) (j : Nat) : (Int × Nat) ⊕ Nat := if (tk j).1 = w then .inr (j + 1) else .inl (1, j)
def siS (tk : Nat → Int × Int) (j : Nat) : (Int × Nat) ⊕ (Nat × Int) := if 22 ≤ (tk j).1 ∧ (tk j).1 ≤ 24 then .inr (j + 1, (tk j).1 - 23) else .inl (1, j)
/-- a word, then a number -/
def wnS (tk : Nat → Int × Int) (w lo hi : Int) (j : Nat) : (Int × Nat) ⊕ (Nat × Int) := match wdQ tk w j with
  | .inl r => .inl r
  | .inr j' => nmS tk lo hi j'
def orS (tk : Nat → Int × Int) (j : Nat) : (Int × Nat) ⊕ (Nat × Int × Int × Int × Int × Int) := match nmS tk 1 99 j with
  | .inl r => .inl r
  | .inr (j0, x0) => match wnS tk 19 0 60 j0 with
    | .inl r => .inl r
    | .inr (j1, x1) => match wnS tk 20 0 999 j1 with
      | .inl r => .inl r
      | .inr (j2, x2) => match wnS tk 21 0 9 j2 with
        | .inl r => .inl r
        | .inr (j3, x3) => match wnS tk 23 0 1 j3 with
          | .inl r => .inl r
          | .inr (j4, x4) => .inr (j4, x0, x1, x2, x3, x4)
