/-! bar: how many there are behind it, in both -/
def barN (a b c e n : Int) : Int × Int := if a = -1 then (0, 0) else if (0 ≤ a ∧ a ≤ b ∧ b ≤ 600 ∧ 0 ≤ c ∧ c ≤ e ∧ e ≤ 9999) ∧ n < 4 then (n + 1, n + 1) else (-2, n)
def BRc (h : AH) (a b c e : Int) (r : Option AV) (h' : AH) : Prop := r = some (vI (barN a b c e (fI h 1 12)).1) ∧ hV h' 1 12 = vI (barN a b c e (fI h 1 12)).2 ∧ hV h' 11 12 = hV h 11 12 ∧ hV h' 77 18 = hV h 77 18 ∧ hV h' 78 18 = hV h 78 18
def BRm (h : AH) (a b c e : Int) (r : Option AV) (h' : AH) : Prop := r = some (vI (barN a b c e (fI h 77 18)).1) ∧ hV h' 77 18 = vI (barN a b c e (fI h 77 18)).2 ∧ hV h' 11 12 = hV h 11 12 ∧ hV h' 1 12 = hV h 1 12 ∧ hV h' 78 18 = hV h 78 18
set_option maxRecDepth 20000 in
theorem ac_157 : allC[157]? = some cl157 := rfl
theorem cd_157_0 : cd 157 0 = some (2, 1, 1, 0, 0, []) := cd_row ac_157 rfl
theorem cd_157_1 : cd 157 1 = some (0, 2, 0, 0, -1, []) := cd_row ac_157 rfl
theorem cd_157_2 : cd 157 2 = some (21, 5, 15, 1, 0, []) := cd_row ac_157 rfl
theorem cd_157_5 : cd 157 5 = some (4, 6, 0, 0, 0, []) := cd_row ac_157 rfl
theorem cd_157_6 : cd 157 6 = some (23, 9, 9, 0, 0, []) := cd_row ac_157 rfl
theorem cd_157_9 : cd 157 9 = some (0, 10, 0, 0, 0, []) := cd_row ac_157 rfl
theorem cd_157_10 : cd 157 10 = some (24, 13, 8, 12, 0, []) := cd_row ac_157 rfl
theorem cd_157_13 : cd 157 13 = some (0, 14, 0, 0, 0, []) := cd_row ac_157 rfl
theorem cd_157_14 : cd 157 14 = some (40, 15, 0, 0, 0, []) := cd_row ac_157 rfl
theorem cd_157_15 : cd 157 15 = some (2, 16, 2, 0, 0, []) := cd_row ac_157 rfl
theorem cd_157_16 : cd 157 16 = some (0, 17, 0, 0, 0, []) := cd_row ac_157 rfl
theorem cd_157_17 : cd 157 17 = some (0, 20, 0, 0, 600, []) := cd_row ac_157 rfl
theorem cd_157_20 : cd 157 20 = some (38, 23, 177, 3, 0, []) := cd_row ac_157 rfl
theorem cd_157_23 : cd 157 23 = some (20, 26, 61, 0, 0, []) := cd_row ac_157 rfl
theorem cd_157_26 : cd 157 26 = some (2, 27, 1, 0, 0, []) := cd_row ac_157 rfl
theorem cd_157_27 : cd 157 27 = some (0, 28, 0, 0, 0, []) := cd_row ac_157 rfl
theorem cd_157_28 : cd 157 28 = some (2, 29, 2, 0, 0, []) := cd_row ac_157 rfl
theorem cd_157_29 : cd 157 29 = some (38, 32, 177, 3, 0, []) := cd_row ac_157 rfl
theorem cd_157_32 : cd 157 32 = some (20, 35, 61, 0, 0, []) := cd_row ac_157 rfl
theorem cd_157_35 : cd 157 35 = some (2, 37, 4, 0, 0, []) := cd_row ac_157 rfl
theorem cd_157_37 : cd 157 37 = some (0, 38, 0, 0, 0, []) := cd_row ac_157 rfl
theorem cd_157_38 : cd 157 38 = some (0, 41, 0, 0, 9999, []) := cd_row ac_157 rfl
theorem cd_157_41 : cd 157 41 = some (38, 44, 177, 3, 0, []) := cd_row ac_157 rfl
theorem cd_157_44 : cd 157 44 = some (20, 47, 61, 0, 0, []) := cd_row ac_157 rfl
theorem cd_157_47 : cd 157 47 = some (2, 48, 3, 0, 0, []) := cd_row ac_157 rfl
theorem cd_157_48 : cd 157 48 = some (0, 49, 0, 0, 0, []) := cd_row ac_157 rfl
theorem cd_157_49 : cd 157 49 = some (2, 51, 4, 0, 0, []) := cd_row ac_157 rfl
theorem cd_157_51 : cd 157 51 = some (38, 54, 177, 3, 0, []) := cd_row ac_157 rfl
theorem cd_157_54 : cd 157 54 = some (20, 57, 61, 0, 0, []) := cd_row ac_157 rfl
theorem cd_157_57 : cd 157 57 = some (0, 58, 0, 0, 1, []) := cd_row ac_157 rfl
theorem cd_157_58 : cd 157 58 = some (22, 61, 62, 0, 0, []) := cd_row ac_157 rfl
theorem cd_157_61 : cd 157 61 = some (0, 62, 0, 0, 0, []) := cd_row ac_157 rfl
theorem cd_157_62 : cd 157 62 = some (5, 64, 5, 0, 0, []) := cd_row ac_157 rfl
theorem cd_157_64 : cd 157 64 = some (2, 66, 5, 0, 0, []) := cd_row ac_157 rfl
theorem cd_157_66 : cd 157 66 = some (20, 69, 80, 0, 0, []) := cd_row ac_157 rfl
theorem cd_157_69 : cd 157 69 = some (4, 70, 0, 0, 0, []) := cd_row ac_157 rfl
theorem cd_157_70 : cd 157 70 = some (23, 73, 9, 0, 0, []) := cd_row ac_157 rfl
theorem cd_157_73 : cd 157 73 = some (23, 76, 8, 12, 0, []) := cd_row ac_157 rfl
theorem cd_157_76 : cd 157 76 = some (0, 77, 0, 0, 4, []) := cd_row ac_157 rfl
theorem cd_157_77 : cd 157 77 = some (21, 80, 83, 2, 0, []) := cd_row ac_157 rfl
theorem cd_157_80 : cd 157 80 = some (0, 82, 0, 0, -2, []) := cd_row ac_157 rfl
theorem cd_157_82 : cd 157 82 = some (40, 83, 0, 0, 0, []) := cd_row ac_157 rfl
theorem cd_157_83 : cd 157 83 = some (4, 84, 0, 0, 0, []) := cd_row ac_157 rfl
theorem cd_157_84 : cd 157 84 = some (23, 87, 9, 0, 0, []) := cd_row ac_157 rfl
theorem cd_157_87 : cd 157 87 = some (23, 90, 8, 12, 0, []) := cd_row ac_157 rfl
theorem cd_157_90 : cd 157 90 = some (0, 91, 0, 0, 4, []) := cd_row ac_157 rfl
theorem cd_157_91 : cd 157 91 = some (9, 92, 0, 2, 0, []) := cd_row ac_157 rfl
theorem cd_157_92 : cd 157 92 = some (5, 94, 6, 0, 0, []) := cd_row ac_157 rfl
theorem cd_157_94 : cd 157 94 = some (4, 95, 0, 0, 0, []) := cd_row ac_157 rfl
theorem cd_157_95 : cd 157 95 = some (23, 98, 9, 0, 0, []) := cd_row ac_157 rfl
theorem cd_157_98 : cd 157 98 = some (23, 101, 8, 11, 0, []) := cd_row ac_157 rfl
theorem cd_157_101 : cd 157 101 = some (2, 103, 6, 0, 0, []) := cd_row ac_157 rfl
theorem cd_157_103 : cd 157 103 = some (2, 104, 1, 0, 0, []) := cd_row ac_157 rfl
theorem cd_157_104 : cd 157 104 = some (30, 105, 0, 0, 0, []) := cd_row ac_157 rfl
theorem cd_157_105 : cd 157 105 = some (4, 106, 0, 0, 0, []) := cd_row ac_157 rfl
theorem cd_157_106 : cd 157 106 = some (23, 109, 9, 0, 0, []) := cd_row ac_157 rfl
theorem cd_157_109 : cd 157 109 = some (23, 112, 8, 11, 0, []) := cd_row ac_157 rfl
theorem cd_157_112 : cd 157 112 = some (2, 114, 6, 0, 0, []) := cd_row ac_157 rfl
theorem cd_157_114 : cd 157 114 = some (0, 115, 0, 0, 1, []) := cd_row ac_157 rfl
theorem cd_157_115 : cd 157 115 = some (9, 116, 0, 0, 0, []) := cd_row ac_157 rfl
theorem cd_157_116 : cd 157 116 = some (2, 117, 2, 0, 0, []) := cd_row ac_157 rfl
theorem cd_157_117 : cd 157 117 = some (30, 118, 0, 0, 0, []) := cd_row ac_157 rfl
theorem cd_157_118 : cd 157 118 = some (4, 119, 0, 0, 0, []) := cd_row ac_157 rfl
theorem cd_157_119 : cd 157 119 = some (23, 122, 9, 0, 0, []) := cd_row ac_157 rfl
theorem cd_157_122 : cd 157 122 = some (23, 125, 8, 11, 0, []) := cd_row ac_157 rfl
theorem cd_157_125 : cd 157 125 = some (2, 127, 6, 0, 0, []) := cd_row ac_157 rfl
theorem cd_157_127 : cd 157 127 = some (0, 128, 0, 0, 2, []) := cd_row ac_157 rfl
theorem cd_157_128 : cd 157 128 = some (9, 129, 0, 0, 0, []) := cd_row ac_157 rfl
theorem cd_157_129 : cd 157 129 = some (2, 130, 3, 0, 0, []) := cd_row ac_157 rfl
theorem cd_157_130 : cd 157 130 = some (30, 131, 0, 0, 0, []) := cd_row ac_157 rfl
theorem cd_157_131 : cd 157 131 = some (4, 132, 0, 0, 0, []) := cd_row ac_157 rfl
theorem cd_157_132 : cd 157 132 = some (23, 135, 9, 0, 0, []) := cd_row ac_157 rfl
theorem cd_157_135 : cd 157 135 = some (23, 138, 8, 11, 0, []) := cd_row ac_157 rfl
theorem cd_157_138 : cd 157 138 = some (2, 140, 6, 0, 0, []) := cd_row ac_157 rfl
theorem cd_157_140 : cd 157 140 = some (0, 141, 0, 0, 3, []) := cd_row ac_157 rfl
theorem cd_157_141 : cd 157 141 = some (9, 142, 0, 0, 0, []) := cd_row ac_157 rfl
theorem cd_157_142 : cd 157 142 = some (2, 144, 4, 0, 0, []) := cd_row ac_157 rfl
theorem cd_157_144 : cd 157 144 = some (30, 145, 0, 0, 0, []) := cd_row ac_157 rfl
theorem cd_157_145 : cd 157 145 = some (4, 146, 0, 0, 0, []) := cd_row ac_157 rfl
theorem cd_157_146 : cd 157 146 = some (23, 149, 9, 0, 0, []) := cd_row ac_157 rfl
theorem cd_157_149 : cd 157 149 = some (17, 150, 0, 0, 0, []) := cd_row ac_157 rfl
theorem cd_157_150 : cd 157 150 = some (23, 153, 8, 12, 0, []) := cd_row ac_157 rfl
theorem cd_157_153 : cd 157 153 = some (0, 154, 0, 0, 1, []) := cd_row ac_157 rfl
theorem cd_157_154 : cd 157 154 = some (9, 155, 0, 0, 0, []) := cd_row ac_157 rfl
theorem cd_157_155 : cd 157 155 = some (24, 158, 8, 12, 0, []) := cd_row ac_157 rfl
theorem cd_157_158 : cd 157 158 = some (4, 159, 0, 0, 0, []) := cd_row ac_157 rfl
theorem cd_157_159 : cd 157 159 = some (23, 162, 9, 0, 0, []) := cd_row ac_157 rfl
theorem cd_157_162 : cd 157 162 = some (23, 165, 8, 12, 0, []) := cd_row ac_157 rfl
theorem cd_157_165 : cd 157 165 = some (40, 166, 0, 0, 0, []) := cd_row ac_157 rfl
set_option maxRecDepth 20000 in
theorem ac_296 : allC[296]? = some cl296 := rfl
theorem cd_296_0 : cd 296 0 = some (2, 1, 1, 0, 0, []) := cd_row ac_296 rfl
theorem cd_296_1 : cd 296 1 = some (0, 2, 0, 0, -1, []) := cd_row ac_296 rfl
theorem cd_296_2 : cd 296 2 = some (21, 5, 15, 1, 0, []) := cd_row ac_296 rfl
theorem cd_296_5 : cd 296 5 = some (4, 6, 0, 0, 0, []) := cd_row ac_296 rfl
theorem cd_296_6 : cd 296 6 = some (23, 9, 10, 0, 0, []) := cd_row ac_296 rfl
theorem cd_296_9 : cd 296 9 = some (0, 11, 0, 0, 18, []) := cd_row ac_296 rfl
theorem cd_296_11 : cd 296 11 = some (0, 12, 0, 0, 0, []) := cd_row ac_296 rfl
theorem cd_296_12 : cd 296 12 = some (30, 13, 0, 0, 0, []) := cd_row ac_296 rfl
theorem cd_296_13 : cd 296 13 = some (0, 14, 0, 0, 0, []) := cd_row ac_296 rfl
theorem cd_296_14 : cd 296 14 = some (40, 15, 0, 0, 0, []) := cd_row ac_296 rfl
theorem cd_296_15 : cd 296 15 = some (2, 16, 1, 0, 0, []) := cd_row ac_296 rfl
theorem cd_296_16 : cd 296 16 = some (0, 17, 0, 0, 0, []) := cd_row ac_296 rfl
theorem cd_296_17 : cd 296 17 = some (0, 20, 0, 0, 600, []) := cd_row ac_296 rfl
theorem cd_296_20 : cd 296 20 = some (38, 23, 182, 3, 0, []) := cd_row ac_296 rfl
theorem cd_296_23 : cd 296 23 = some (20, 26, 71, 0, 0, []) := cd_row ac_296 rfl
theorem cd_296_26 : cd 296 26 = some (2, 27, 2, 0, 0, []) := cd_row ac_296 rfl
theorem cd_296_27 : cd 296 27 = some (2, 28, 1, 0, 0, []) := cd_row ac_296 rfl
theorem cd_296_28 : cd 296 28 = some (0, 31, 0, 0, 600, []) := cd_row ac_296 rfl
theorem cd_296_31 : cd 296 31 = some (38, 34, 182, 3, 0, []) := cd_row ac_296 rfl
theorem cd_296_34 : cd 296 34 = some (20, 37, 71, 0, 0, []) := cd_row ac_296 rfl
theorem cd_296_37 : cd 296 37 = some (2, 38, 3, 0, 0, []) := cd_row ac_296 rfl
theorem cd_296_38 : cd 296 38 = some (0, 39, 0, 0, 0, []) := cd_row ac_296 rfl
theorem cd_296_39 : cd 296 39 = some (0, 42, 0, 0, 9999, []) := cd_row ac_296 rfl
theorem cd_296_42 : cd 296 42 = some (38, 45, 182, 3, 0, []) := cd_row ac_296 rfl
theorem cd_296_45 : cd 296 45 = some (20, 48, 71, 0, 0, []) := cd_row ac_296 rfl
theorem cd_296_48 : cd 296 48 = some (2, 50, 4, 0, 0, []) := cd_row ac_296 rfl
theorem cd_296_50 : cd 296 50 = some (2, 51, 3, 0, 0, []) := cd_row ac_296 rfl
theorem cd_296_51 : cd 296 51 = some (0, 54, 0, 0, 9999, []) := cd_row ac_296 rfl
theorem cd_296_54 : cd 296 54 = some (38, 57, 182, 3, 0, []) := cd_row ac_296 rfl
theorem cd_296_57 : cd 296 57 = some (20, 60, 71, 0, 0, []) := cd_row ac_296 rfl
theorem cd_296_60 : cd 296 60 = some (4, 61, 0, 0, 0, []) := cd_row ac_296 rfl
theorem cd_296_61 : cd 296 61 = some (23, 64, 10, 0, 0, []) := cd_row ac_296 rfl
theorem cd_296_64 : cd 296 64 = some (0, 66, 0, 0, 18, []) := cd_row ac_296 rfl
theorem cd_296_66 : cd 296 66 = some (26, 67, 0, 0, 0, []) := cd_row ac_296 rfl
theorem cd_296_67 : cd 296 67 = some (0, 68, 0, 0, 4, []) := cd_row ac_296 rfl
theorem cd_296_68 : cd 296 68 = some (21, 71, 74, 1, 0, []) := cd_row ac_296 rfl
theorem cd_296_71 : cd 296 71 = some (0, 73, 0, 0, -2, []) := cd_row ac_296 rfl
theorem cd_296_73 : cd 296 73 = some (40, 74, 0, 0, 0, []) := cd_row ac_296 rfl
theorem cd_296_74 : cd 296 74 = some (0, 77, 0, 0, 9818, []) := cd_row ac_296 rfl
theorem cd_296_77 : cd 296 77 = some (0, 78, 0, 0, 4, []) := cd_row ac_296 rfl
theorem cd_296_78 : cd 296 78 = some (4, 79, 0, 0, 0, []) := cd_row ac_296 rfl
theorem cd_296_79 : cd 296 79 = some (23, 82, 10, 0, 0, []) := cd_row ac_296 rfl
theorem cd_296_82 : cd 296 82 = some (0, 84, 0, 0, 18, []) := cd_row ac_296 rfl
theorem cd_296_84 : cd 296 84 = some (26, 85, 0, 0, 0, []) := cd_row ac_296 rfl
theorem cd_296_85 : cd 296 85 = some (9, 86, 0, 2, 0, []) := cd_row ac_296 rfl
theorem cd_296_86 : cd 296 86 = some (9, 87, 0, 0, 0, []) := cd_row ac_296 rfl
theorem cd_296_87 : cd 296 87 = some (5, 89, 5, 0, 0, []) := cd_row ac_296 rfl
theorem cd_296_89 : cd 296 89 = some (4, 90, 0, 0, 0, []) := cd_row ac_296 rfl
theorem cd_296_90 : cd 296 90 = some (23, 93, 10, 0, 0, []) := cd_row ac_296 rfl
theorem cd_296_93 : cd 296 93 = some (2, 95, 5, 0, 0, []) := cd_row ac_296 rfl
theorem cd_296_95 : cd 296 95 = some (2, 96, 1, 0, 0, []) := cd_row ac_296 rfl
theorem cd_296_96 : cd 296 96 = some (30, 97, 0, 0, 0, []) := cd_row ac_296 rfl
theorem cd_296_97 : cd 296 97 = some (4, 98, 0, 0, 0, []) := cd_row ac_296 rfl
theorem cd_296_98 : cd 296 98 = some (23, 101, 10, 0, 0, []) := cd_row ac_296 rfl
theorem cd_296_101 : cd 296 101 = some (2, 103, 5, 0, 0, []) := cd_row ac_296 rfl
theorem cd_296_103 : cd 296 103 = some (0, 104, 0, 0, 1, []) := cd_row ac_296 rfl
theorem cd_296_104 : cd 296 104 = some (9, 105, 0, 0, 0, []) := cd_row ac_296 rfl
theorem cd_296_105 : cd 296 105 = some (2, 106, 2, 0, 0, []) := cd_row ac_296 rfl
theorem cd_296_106 : cd 296 106 = some (30, 107, 0, 0, 0, []) := cd_row ac_296 rfl
theorem cd_296_107 : cd 296 107 = some (4, 108, 0, 0, 0, []) := cd_row ac_296 rfl
theorem cd_296_108 : cd 296 108 = some (23, 111, 10, 0, 0, []) := cd_row ac_296 rfl
theorem cd_296_111 : cd 296 111 = some (2, 113, 5, 0, 0, []) := cd_row ac_296 rfl
theorem cd_296_113 : cd 296 113 = some (0, 114, 0, 0, 2, []) := cd_row ac_296 rfl
theorem cd_296_114 : cd 296 114 = some (9, 115, 0, 0, 0, []) := cd_row ac_296 rfl
theorem cd_296_115 : cd 296 115 = some (2, 116, 3, 0, 0, []) := cd_row ac_296 rfl
theorem cd_296_116 : cd 296 116 = some (30, 117, 0, 0, 0, []) := cd_row ac_296 rfl
theorem cd_296_117 : cd 296 117 = some (4, 118, 0, 0, 0, []) := cd_row ac_296 rfl
theorem cd_296_118 : cd 296 118 = some (23, 121, 10, 0, 0, []) := cd_row ac_296 rfl
theorem cd_296_121 : cd 296 121 = some (2, 123, 5, 0, 0, []) := cd_row ac_296 rfl
theorem cd_296_123 : cd 296 123 = some (0, 124, 0, 0, 3, []) := cd_row ac_296 rfl
theorem cd_296_124 : cd 296 124 = some (9, 125, 0, 0, 0, []) := cd_row ac_296 rfl
theorem cd_296_125 : cd 296 125 = some (2, 127, 4, 0, 0, []) := cd_row ac_296 rfl
theorem cd_296_127 : cd 296 127 = some (30, 128, 0, 0, 0, []) := cd_row ac_296 rfl
theorem cd_296_128 : cd 296 128 = some (4, 129, 0, 0, 0, []) := cd_row ac_296 rfl
theorem cd_296_129 : cd 296 129 = some (23, 132, 10, 0, 0, []) := cd_row ac_296 rfl
theorem cd_296_132 : cd 296 132 = some (0, 134, 0, 0, 18, []) := cd_row ac_296 rfl
theorem cd_296_134 : cd 296 134 = some (18, 135, 0, 0, 0, []) := cd_row ac_296 rfl
theorem cd_296_135 : cd 296 135 = some (26, 136, 0, 0, 0, []) := cd_row ac_296 rfl
theorem cd_296_136 : cd 296 136 = some (0, 137, 0, 0, 1, []) := cd_row ac_296 rfl
theorem cd_296_137 : cd 296 137 = some (9, 138, 0, 0, 0, []) := cd_row ac_296 rfl
theorem cd_296_138 : cd 296 138 = some (30, 139, 0, 0, 0, []) := cd_row ac_296 rfl
theorem cd_296_139 : cd 296 139 = some (4, 140, 0, 0, 0, []) := cd_row ac_296 rfl
theorem cd_296_140 : cd 296 140 = some (23, 143, 10, 0, 0, []) := cd_row ac_296 rfl
theorem cd_296_143 : cd 296 143 = some (0, 145, 0, 0, 18, []) := cd_row ac_296 rfl
theorem cd_296_145 : cd 296 145 = some (26, 146, 0, 0, 0, []) := cd_row ac_296 rfl
theorem cd_296_146 : cd 296 146 = some (40, 147, 0, 0, 0, []) := cd_row ac_296 rfl
set_option maxRecDepth 20000 in
theorem ac_318 : allC[318]? = some cl318 := rfl
theorem cd_318_0 : cd 318 0 = some (4, 1, 0, 0, 0, []) := cd_row ac_318 rfl
theorem cd_318_1 : cd 318 1 = some (23, 4, 10, 0, 0, []) := cd_row ac_318 rfl
theorem cd_318_4 : cd 318 4 = some (4, 5, 0, 0, 0, []) := cd_row ac_318 rfl
theorem cd_318_5 : cd 318 5 = some (23, 8, 10, 1, 0, []) := cd_row ac_318 rfl
theorem cd_318_8 : cd 318 8 = some (38, 11, 181, 2, 0, []) := cd_row ac_318 rfl
theorem cd_318_11 : cd 318 11 = some (4, 12, 0, 0, 0, []) := cd_row ac_318 rfl
theorem cd_318_12 : cd 318 12 = some (23, 15, 10, 0, 0, []) := cd_row ac_318 rfl
theorem cd_318_15 : cd 318 15 = some (0, 17, 0, 0, 16, []) := cd_row ac_318 rfl
theorem cd_318_17 : cd 318 17 = some (26, 18, 0, 0, 0, []) := cd_row ac_318 rfl
theorem cd_318_18 : cd 318 18 = some (40, 19, 0, 0, 0, []) := cd_row ac_318 rfl
set_option maxRecDepth 20000 in
theorem ac_319 : allC[319]? = some cl319 := rfl
theorem cd_319_0 : cd 319 0 = some (4, 1, 0, 0, 0, []) := cd_row ac_319 rfl
theorem cd_319_1 : cd 319 1 = some (23, 4, 10, 1, 0, []) := cd_row ac_319 rfl
theorem cd_319_4 : cd 319 4 = some (4, 5, 0, 0, 0, []) := cd_row ac_319 rfl
theorem cd_319_5 : cd 319 5 = some (23, 8, 10, 0, 0, []) := cd_row ac_319 rfl
theorem cd_319_8 : cd 319 8 = some (38, 11, 181, 2, 0, []) := cd_row ac_319 rfl
theorem cd_319_11 : cd 319 11 = some (4, 12, 0, 0, 0, []) := cd_row ac_319 rfl
theorem cd_319_12 : cd 319 12 = some (23, 15, 10, 0, 0, []) := cd_row ac_319 rfl
theorem cd_319_15 : cd 319 15 = some (0, 17, 0, 0, 16, []) := cd_row ac_319 rfl
theorem cd_319_17 : cd 319 17 = some (26, 18, 0, 0, 0, []) := cd_row ac_319 rfl
theorem cd_319_18 : cd 319 18 = some (40, 19, 0, 0, 0, []) := cd_row ac_319 rfl
set_option maxHeartbeats 4000000 in
theorem X_barc {d : Nat} {h : AH} {a b c e : Int} (hJ : k_H JB h) (xa : -2147483648 ≤ a ∧ a ≤ 2147483647) (xb : -2147483648 ≤ b ∧ b ≤ 2147483647) (xc : -2147483648 ≤ c ∧ c ≤ 2147483647) (xe : -2147483648 ≤ e ∧ e ≤ 2147483647) : XC (d + 3) 157 [vR 0, vI a, vI b, vI c, vI e] h (BRc h a b c e) := by
  refine XC_of (Nat.le_of_ble_eq_true rfl) ?_
  show XP (d + 2) 157 0 [some (vR 0), some (vI a), some (vI b), some (vI c), some (vI e), none, none] [] h _
  by_cases c1 : a = -1
  · have r2 : -1 ≤ a ∧ a ≤ -1 := by have z1 := xa; omega
    have ee : barN a b c e (fI h 1 12) = (0, 0) := by
      have z1 := (I_1_12 hJ).2
      unfold barN
      (repeat' split) <;> first | rfl | (exfalso; omega)
    have y : BRc h a b c e (some (vI 0)) (hSet h 1 12 (vI 0)) := ⟨by rw [ee], by rw [ee]; simp only [hV_eq, hK_eq, Nat.reduceEqDiff, and_false, false_and, and_self, true_and, and_true, if_false, if_true, reduceIte], by simp only [hV_eq, hK_eq, Nat.reduceEqDiff, and_false, false_and, and_self, true_and, and_true, if_false, if_true, reduceIte], by simp only [hV_eq, hK_eq, Nat.reduceEqDiff, and_false, false_and, and_self, true_and, and_true, if_false, if_true, reduceIte], by simp only [hV_eq, hK_eq, Nat.reduceEqDiff, and_false, false_and, and_self, true_and, and_true, if_false, if_true, reduceIte]⟩
    refine xpk_sound (stops := []) (n := 10) ?_
    simp only [sk_2, sk_0, sk_icne, sk_4, sk_getf, sk_putf, sk_retI, lI_0, lI_s, lL_0, lL_s, lR_0, lR_s, vIo_e, vLo_e, vOo_e, stW_I, stW_L, stW_R, stW_0, stW_z, okSt_0, okSt_s, hV_eq, hK_eq, okF_0, okF_1, okF_3, is01_0, is01_1, is01_i, Int.toNat_natCast, Int.reduceEq, Int.reduceLE, Int.reduceLT, Int.reduceNeg, Nat.reduceLT, not_true_eq_false, not_false_eq_true, reduceIte, Option.toList, List.cons_append, List.nil_append, List.set_cons_zero, List.set_cons_succ, List.not_mem_nil, List.mem_cons, if_false, if_true, ite_true, ite_false, and_self, and_true, true_and, Nat.reduceAdd, Nat.reduceLeDiff, Nat.reduceEqDiff, Nat.zero_add, Nat.le_refl, Nat.zero_le, or_false, false_or, Int.reduceToNat, or_true, true_or, eq_self, and_false, false_and, inR_d, nc_4, nc_5, nc_6, nc_7, nc_8, nc_16, nc_18, nc_20, nc_24, nc_32, nc_40, nc_64, nc_104, nc_120, nc_160, nc_256, nc_300, nc_330, nc_390, nc_1200, nc_1260, nc_3012, nc_9834, okSt_1i, okSt_1r, okSt_1n, List.length_cons, List.length_nil, xpk_succ cd_157_0, xpk_succ cd_157_1, xpk_succ cd_157_2, xpk_succ cd_157_5, xpk_succ cd_157_6, xpk_succ cd_157_9, xpk_succ cd_157_10, xpk_succ cd_157_13, xpk_succ cd_157_14, c1, (K_0 hJ), (F_0_0 hJ), (K_1 hJ)]
    first | exact y | (rw [c1] at y; exact y)
  · by_cases c3 : 0 ≤ b ∧ b ≤ 600
    · by_cases c4 : 0 ≤ a ∧ a ≤ b
      · by_cases c5 : 0 ≤ e ∧ e ≤ 9999
        · by_cases c6 : 0 ≤ c ∧ c ≤ e
          · by_cases c7 : fI h 1 12 < 4
            · have r8 : 0 ≤ fI h 1 12 ∧ fI h 1 12 ≤ 3 := by have z1 := (I_1_12 hJ).2; omega
              have f9 : w32 ((fI h 1 12) * 4) = (fI h 1 12) * 4 ∧ (0 ≤ (fI h 1 12) * 4 ∧ (fI h 1 12) * 4 ≤ 12) := by have z1 := r8; have z2 := (li_n 4); unfold w32; omega
              have f10 := f9.1
              have f11 : 0 ≤ (fI h 1 12) * 4 ∧ (fI h 1 12) * 4 ≤ 12 := f9.2
              have f12 : (0 : Int) ≤ (fI h 1 12) * 4 ∧ (fI h 1 12) * 4 < 16 := by have z1 := f11; omega
              have f13 : w32 (((fI h 1 12) * 4) + 1) = ((fI h 1 12) * 4) + 1 ∧ (1 ≤ ((fI h 1 12) * 4) + 1 ∧ ((fI h 1 12) * 4) + 1 ≤ 13) := wb_add f11 (li_n 1) (by decide) (by decide) (by decide) (by decide)
              have f14 := f13.1
              have f15 : 1 ≤ ((fI h 1 12) * 4) + 1 ∧ ((fI h 1 12) * 4) + 1 ≤ 13 := f13.2
              have f16 : (0 : Int) ≤ ((fI h 1 12) * 4) + 1 ∧ ((fI h 1 12) * 4) + 1 < 16 := by have z1 := f15; omega
              have f17 : w32 (((fI h 1 12) * 4) + 2) = ((fI h 1 12) * 4) + 2 ∧ (2 ≤ ((fI h 1 12) * 4) + 2 ∧ ((fI h 1 12) * 4) + 2 ≤ 14) := wb_add f11 (li_n 2) (by decide) (by decide) (by decide) (by decide)
              have f18 := f17.1
              have f19 : 2 ≤ ((fI h 1 12) * 4) + 2 ∧ ((fI h 1 12) * 4) + 2 ≤ 14 := f17.2
              have f20 : (0 : Int) ≤ ((fI h 1 12) * 4) + 2 ∧ ((fI h 1 12) * 4) + 2 < 16 := by have z1 := f19; omega
              have f21 : w32 (((fI h 1 12) * 4) + 3) = ((fI h 1 12) * 4) + 3 ∧ (3 ≤ ((fI h 1 12) * 4) + 3 ∧ ((fI h 1 12) * 4) + 3 ≤ 15) := wb_add f11 (li_n 3) (by decide) (by decide) (by decide) (by decide)
              have f22 := f21.1
              have f23 : 3 ≤ ((fI h 1 12) * 4) + 3 ∧ ((fI h 1 12) * 4) + 3 ≤ 15 := f21.2
              have f24 : (0 : Int) ≤ ((fI h 1 12) * 4) + 3 ∧ ((fI h 1 12) * 4) + 3 < 16 := by have z1 := f23; omega
              have f25 : w32 ((fI h 1 12) + 1) = (fI h 1 12) + 1 ∧ (1 ≤ (fI h 1 12) + 1 ∧ (fI h 1 12) + 1 ≤ 4) := wb_add r8 (li_n 1) (by decide) (by decide) (by decide) (by decide)
              have f26 := f25.1
              have f27 : 1 ≤ (fI h 1 12) + 1 ∧ (fI h 1 12) + 1 ≤ 4 := f25.2
              have ee : barN a b c e (fI h 1 12) = (fI h 1 12 + 1, fI h 1 12 + 1) := by
                have z1 := (I_1_12 hJ).2
                unfold barN
                (repeat' split) <;> first | rfl | (exfalso; omega)
              have y : BRc h a b c e (some (vI ((fI h 1 12) + 1))) (hSet (hSet (hSet (hSet (hSet h 8 (((fI h 1 12) * 4).toNat) (vI a)) 8 ((((fI h 1 12) * 4) + 1).toNat) (vI b)) 8 ((((fI h 1 12) * 4) + 2).toNat) (vI c)) 8 ((((fI h 1 12) * 4) + 3).toNat) (vI e)) 1 12 (vI ((fI h 1 12) + 1))) := ⟨by rw [ee], by rw [ee]; simp only [hV_eq, hK_eq, Nat.reduceEqDiff, and_false, false_and, and_self, true_and, and_true, if_false, if_true, reduceIte], by simp only [hV_eq, hK_eq, Nat.reduceEqDiff, and_false, false_and, and_self, true_and, and_true, if_false, if_true, reduceIte], by simp only [hV_eq, hK_eq, Nat.reduceEqDiff, and_false, false_and, and_self, true_and, and_true, if_false, if_true, reduceIte], by simp only [hV_eq, hK_eq, Nat.reduceEqDiff, and_false, false_and, and_self, true_and, and_true, if_false, if_true, reduceIte]⟩
              refine xpk_sound (stops := []) (n := 81) ?_
              simp only [sk_2, sk_0, sk_icne, sk_cs3, sk_ifeq, sk_goto, sk_5, sk_4, sk_getf, sk_iclt, sk_imul, sk_iast, sk_iadd, sk_dupI, sk_dupR, sk_putf, sk_retI, lI_0, lI_s, lL_0, lL_s, lR_0, lR_s, vIo_e, vLo_e, vOo_e, stW_I, stW_L, stW_R, stW_0, stW_z, okSt_0, okSt_s, hV_eq, hK_eq, okF_0, okF_1, okF_3, is01_0, is01_1, is01_i, Int.toNat_natCast, Int.reduceEq, Int.reduceLE, Int.reduceLT, Int.reduceNeg, Nat.reduceLT, not_true_eq_false, not_false_eq_true, reduceIte, Option.toList, List.cons_append, List.nil_append, List.set_cons_zero, List.set_cons_succ, List.not_mem_nil, List.mem_cons, if_false, if_true, ite_true, ite_false, and_self, and_true, true_and, Nat.reduceAdd, Nat.reduceLeDiff, Nat.reduceEqDiff, Nat.zero_add, Nat.le_refl, Nat.zero_le, or_false, false_or, Int.reduceToNat, or_true, true_or, eq_self, and_false, false_and, inR_d, nc_4, nc_5, nc_6, nc_7, nc_8, nc_16, nc_18, nc_20, nc_24, nc_32, nc_40, nc_64, nc_104, nc_120, nc_160, nc_256, nc_300, nc_330, nc_390, nc_1200, nc_1260, nc_3012, nc_9834, okSt_1i, okSt_1r, okSt_1n, List.length_cons, List.length_nil, xpk_succ cd_157_0, xpk_succ cd_157_1, xpk_succ cd_157_2, xpk_succ cd_157_15, xpk_succ cd_157_16, xpk_succ cd_157_17, xpk_succ cd_157_20, xpk_succ cd_157_23, xpk_succ cd_157_26, xpk_succ cd_157_27, xpk_succ cd_157_28, xpk_succ cd_157_29, xpk_succ cd_157_32, xpk_succ cd_157_35, xpk_succ cd_157_37, xpk_succ cd_157_38, xpk_succ cd_157_41, xpk_succ cd_157_44, xpk_succ cd_157_47, xpk_succ cd_157_48, xpk_succ cd_157_49, xpk_succ cd_157_51, xpk_succ cd_157_54, xpk_succ cd_157_57, xpk_succ cd_157_58, xpk_succ cd_157_62, xpk_succ cd_157_64, xpk_succ cd_157_66, xpk_succ cd_157_69, xpk_succ cd_157_70, xpk_succ cd_157_73, xpk_succ cd_157_76, xpk_succ cd_157_77, xpk_succ cd_157_83, xpk_succ cd_157_84, xpk_succ cd_157_87, xpk_succ cd_157_90, xpk_succ cd_157_91, xpk_succ cd_157_92, xpk_succ cd_157_94, xpk_succ cd_157_95, xpk_succ cd_157_98, xpk_succ cd_157_101, xpk_succ cd_157_103, xpk_succ cd_157_104, xpk_succ cd_157_105, xpk_succ cd_157_106, xpk_succ cd_157_109, xpk_succ cd_157_112, xpk_succ cd_157_114, xpk_succ cd_157_115, xpk_succ cd_157_116, xpk_succ cd_157_117, xpk_succ cd_157_118, xpk_succ cd_157_119, xpk_succ cd_157_122, xpk_succ cd_157_125, xpk_succ cd_157_127, xpk_succ cd_157_128, xpk_succ cd_157_129, xpk_succ cd_157_130, xpk_succ cd_157_131, xpk_succ cd_157_132, xpk_succ cd_157_135, xpk_succ cd_157_138, xpk_succ cd_157_140, xpk_succ cd_157_141, xpk_succ cd_157_142, xpk_succ cd_157_144, xpk_succ cd_157_145, xpk_succ cd_157_146, xpk_succ cd_157_149, xpk_succ cd_157_150, xpk_succ cd_157_153, xpk_succ cd_157_154, xpk_succ cd_157_155, xpk_succ cd_157_158, xpk_succ cd_157_159, xpk_succ cd_157_162, xpk_succ cd_157_165, c1, X_wn, c3, c4, c5, c6, (K_0 hJ), (F_0_0 hJ), (K_1 hJ), (I_1_12 hJ).1, c7, f10, (F_1_11 hJ), (K_8 hJ), f12, f14, f16, f18, f20, f22, f24, f26]
              first | exact y | (rw [c1] at y; exact y)
            · have r28 : 4 ≤ fI h 1 12 ∧ fI h 1 12 ≤ 4 := by have z1 := (I_1_12 hJ).2; omega
              have ee : barN a b c e (fI h 1 12) = (-2, fI h 1 12) := by
                have z1 := (I_1_12 hJ).2
                unfold barN
                (repeat' split) <;> first | rfl | (exfalso; omega)
              have y : BRc h a b c e (some (vI (-2))) h := ⟨by rw [ee], by rw [ee]; exact (I_1_12 hJ).1, rfl, rfl, rfl⟩
              refine xpk_sound (stops := []) (n := 36) ?_
              simp only [sk_2, sk_0, sk_icne, sk_cs3, sk_ifeq, sk_goto, sk_5, sk_4, sk_getf, sk_iclt, sk_retI, lI_0, lI_s, lL_0, lL_s, lR_0, lR_s, vIo_e, vLo_e, vOo_e, stW_I, stW_L, stW_R, stW_0, stW_z, okSt_0, okSt_s, hV_eq, hK_eq, okF_0, okF_1, okF_3, is01_0, is01_1, is01_i, Int.toNat_natCast, Int.reduceEq, Int.reduceLE, Int.reduceLT, Int.reduceNeg, Nat.reduceLT, not_true_eq_false, not_false_eq_true, reduceIte, Option.toList, List.cons_append, List.nil_append, List.set_cons_zero, List.set_cons_succ, List.not_mem_nil, List.mem_cons, if_false, if_true, ite_true, ite_false, and_self, and_true, true_and, Nat.reduceAdd, Nat.reduceLeDiff, Nat.reduceEqDiff, Nat.zero_add, Nat.le_refl, Nat.zero_le, or_false, false_or, Int.reduceToNat, or_true, true_or, eq_self, and_false, false_and, inR_d, nc_4, nc_5, nc_6, nc_7, nc_8, nc_16, nc_18, nc_20, nc_24, nc_32, nc_40, nc_64, nc_104, nc_120, nc_160, nc_256, nc_300, nc_330, nc_390, nc_1200, nc_1260, nc_3012, nc_9834, okSt_1i, okSt_1r, okSt_1n, List.length_cons, List.length_nil, xpk_succ cd_157_0, xpk_succ cd_157_1, xpk_succ cd_157_2, xpk_succ cd_157_15, xpk_succ cd_157_16, xpk_succ cd_157_17, xpk_succ cd_157_20, xpk_succ cd_157_23, xpk_succ cd_157_26, xpk_succ cd_157_27, xpk_succ cd_157_28, xpk_succ cd_157_29, xpk_succ cd_157_32, xpk_succ cd_157_35, xpk_succ cd_157_37, xpk_succ cd_157_38, xpk_succ cd_157_41, xpk_succ cd_157_44, xpk_succ cd_157_47, xpk_succ cd_157_48, xpk_succ cd_157_49, xpk_succ cd_157_51, xpk_succ cd_157_54, xpk_succ cd_157_57, xpk_succ cd_157_58, xpk_succ cd_157_62, xpk_succ cd_157_64, xpk_succ cd_157_66, xpk_succ cd_157_69, xpk_succ cd_157_70, xpk_succ cd_157_73, xpk_succ cd_157_76, xpk_succ cd_157_77, xpk_succ cd_157_80, xpk_succ cd_157_82, c1, X_wn, c3, c4, c5, c6, (K_0 hJ), (F_0_0 hJ), (K_1 hJ), (I_1_12 hJ).1, c7]
              first | exact y | (rw [c1] at y; exact y)
          · have ee : barN a b c e (fI h 1 12) = (-2, fI h 1 12) := by
              have z1 := (I_1_12 hJ).2
              unfold barN
              (repeat' split) <;> first | rfl | (exfalso; omega)
            have y : BRc h a b c e (some (vI (-2))) h := ⟨by rw [ee], by rw [ee]; exact (I_1_12 hJ).1, rfl, rfl, rfl⟩
            refine xpk_sound (stops := []) (n := 30) ?_
            simp only [sk_2, sk_0, sk_icne, sk_cs3, sk_ifeq, sk_5, sk_retI, lI_0, lI_s, lL_0, lL_s, lR_0, lR_s, vIo_e, vLo_e, vOo_e, stW_I, stW_L, stW_R, stW_0, stW_z, okSt_0, okSt_s, hV_eq, hK_eq, okF_0, okF_1, okF_3, is01_0, is01_1, is01_i, Int.toNat_natCast, Int.reduceEq, Int.reduceLE, Int.reduceLT, Int.reduceNeg, Nat.reduceLT, not_true_eq_false, not_false_eq_true, reduceIte, Option.toList, List.cons_append, List.nil_append, List.set_cons_zero, List.set_cons_succ, List.not_mem_nil, List.mem_cons, if_false, if_true, ite_true, ite_false, and_self, and_true, true_and, Nat.reduceAdd, Nat.reduceLeDiff, Nat.reduceEqDiff, Nat.zero_add, Nat.le_refl, Nat.zero_le, or_false, false_or, Int.reduceToNat, or_true, true_or, eq_self, and_false, false_and, inR_d, nc_4, nc_5, nc_6, nc_7, nc_8, nc_16, nc_18, nc_20, nc_24, nc_32, nc_40, nc_64, nc_104, nc_120, nc_160, nc_256, nc_300, nc_330, nc_390, nc_1200, nc_1260, nc_3012, nc_9834, okSt_1i, okSt_1r, okSt_1n, List.length_cons, List.length_nil, xpk_succ cd_157_0, xpk_succ cd_157_1, xpk_succ cd_157_2, xpk_succ cd_157_15, xpk_succ cd_157_16, xpk_succ cd_157_17, xpk_succ cd_157_20, xpk_succ cd_157_23, xpk_succ cd_157_26, xpk_succ cd_157_27, xpk_succ cd_157_28, xpk_succ cd_157_29, xpk_succ cd_157_32, xpk_succ cd_157_35, xpk_succ cd_157_37, xpk_succ cd_157_38, xpk_succ cd_157_41, xpk_succ cd_157_44, xpk_succ cd_157_47, xpk_succ cd_157_48, xpk_succ cd_157_49, xpk_succ cd_157_51, xpk_succ cd_157_54, xpk_succ cd_157_61, xpk_succ cd_157_62, xpk_succ cd_157_64, xpk_succ cd_157_66, xpk_succ cd_157_80, xpk_succ cd_157_82, c1, X_wn, c3, c4, c5, c6]
            first | exact y | (rw [c1] at y; exact y)
        · have ee : barN a b c e (fI h 1 12) = (-2, fI h 1 12) := by
            have z1 := (I_1_12 hJ).2
            unfold barN
            (repeat' split) <;> first | rfl | (exfalso; omega)
          have y : BRc h a b c e (some (vI (-2))) h := ⟨by rw [ee], by rw [ee]; exact (I_1_12 hJ).1, rfl, rfl, rfl⟩
          refine xpk_sound (stops := []) (n := 25) ?_
          simp only [sk_2, sk_0, sk_icne, sk_cs3, sk_ifeq, sk_5, sk_retI, lI_0, lI_s, lL_0, lL_s, lR_0, lR_s, vIo_e, vLo_e, vOo_e, stW_I, stW_L, stW_R, stW_0, stW_z, okSt_0, okSt_s, hV_eq, hK_eq, okF_0, okF_1, okF_3, is01_0, is01_1, is01_i, Int.toNat_natCast, Int.reduceEq, Int.reduceLE, Int.reduceLT, Int.reduceNeg, Nat.reduceLT, not_true_eq_false, not_false_eq_true, reduceIte, Option.toList, List.cons_append, List.nil_append, List.set_cons_zero, List.set_cons_succ, List.not_mem_nil, List.mem_cons, if_false, if_true, ite_true, ite_false, and_self, and_true, true_and, Nat.reduceAdd, Nat.reduceLeDiff, Nat.reduceEqDiff, Nat.zero_add, Nat.le_refl, Nat.zero_le, or_false, false_or, Int.reduceToNat, or_true, true_or, eq_self, and_false, false_and, inR_d, nc_4, nc_5, nc_6, nc_7, nc_8, nc_16, nc_18, nc_20, nc_24, nc_32, nc_40, nc_64, nc_104, nc_120, nc_160, nc_256, nc_300, nc_330, nc_390, nc_1200, nc_1260, nc_3012, nc_9834, okSt_1i, okSt_1r, okSt_1n, List.length_cons, List.length_nil, xpk_succ cd_157_0, xpk_succ cd_157_1, xpk_succ cd_157_2, xpk_succ cd_157_15, xpk_succ cd_157_16, xpk_succ cd_157_17, xpk_succ cd_157_20, xpk_succ cd_157_23, xpk_succ cd_157_26, xpk_succ cd_157_27, xpk_succ cd_157_28, xpk_succ cd_157_29, xpk_succ cd_157_32, xpk_succ cd_157_35, xpk_succ cd_157_37, xpk_succ cd_157_38, xpk_succ cd_157_41, xpk_succ cd_157_44, xpk_succ cd_157_61, xpk_succ cd_157_62, xpk_succ cd_157_64, xpk_succ cd_157_66, xpk_succ cd_157_80, xpk_succ cd_157_82, c1, X_wn, c3, c4, c5]
          first | exact y | (rw [c1] at y; exact y)
      · have ee : barN a b c e (fI h 1 12) = (-2, fI h 1 12) := by
          have z1 := (I_1_12 hJ).2
          unfold barN
          (repeat' split) <;> first | rfl | (exfalso; omega)
        have y : BRc h a b c e (some (vI (-2))) h := ⟨by rw [ee], by rw [ee]; exact (I_1_12 hJ).1, rfl, rfl, rfl⟩
        refine xpk_sound (stops := []) (n := 20) ?_
        simp only [sk_2, sk_0, sk_icne, sk_cs3, sk_ifeq, sk_5, sk_retI, lI_0, lI_s, lL_0, lL_s, lR_0, lR_s, vIo_e, vLo_e, vOo_e, stW_I, stW_L, stW_R, stW_0, stW_z, okSt_0, okSt_s, hV_eq, hK_eq, okF_0, okF_1, okF_3, is01_0, is01_1, is01_i, Int.toNat_natCast, Int.reduceEq, Int.reduceLE, Int.reduceLT, Int.reduceNeg, Nat.reduceLT, not_true_eq_false, not_false_eq_true, reduceIte, Option.toList, List.cons_append, List.nil_append, List.set_cons_zero, List.set_cons_succ, List.not_mem_nil, List.mem_cons, if_false, if_true, ite_true, ite_false, and_self, and_true, true_and, Nat.reduceAdd, Nat.reduceLeDiff, Nat.reduceEqDiff, Nat.zero_add, Nat.le_refl, Nat.zero_le, or_false, false_or, Int.reduceToNat, or_true, true_or, eq_self, and_false, false_and, inR_d, nc_4, nc_5, nc_6, nc_7, nc_8, nc_16, nc_18, nc_20, nc_24, nc_32, nc_40, nc_64, nc_104, nc_120, nc_160, nc_256, nc_300, nc_330, nc_390, nc_1200, nc_1260, nc_3012, nc_9834, okSt_1i, okSt_1r, okSt_1n, List.length_cons, List.length_nil, xpk_succ cd_157_0, xpk_succ cd_157_1, xpk_succ cd_157_2, xpk_succ cd_157_15, xpk_succ cd_157_16, xpk_succ cd_157_17, xpk_succ cd_157_20, xpk_succ cd_157_23, xpk_succ cd_157_26, xpk_succ cd_157_27, xpk_succ cd_157_28, xpk_succ cd_157_29, xpk_succ cd_157_32, xpk_succ cd_157_61, xpk_succ cd_157_62, xpk_succ cd_157_64, xpk_succ cd_157_66, xpk_succ cd_157_80, xpk_succ cd_157_82, c1, X_wn, c3, c4]
        first | exact y | (rw [c1] at y; exact y)
    · have ee : barN a b c e (fI h 1 12) = (-2, fI h 1 12) := by
        have z1 := (I_1_12 hJ).2
        unfold barN
        (repeat' split) <;> first | rfl | (exfalso; omega)
      have y : BRc h a b c e (some (vI (-2))) h := ⟨by rw [ee], by rw [ee]; exact (I_1_12 hJ).1, rfl, rfl, rfl⟩
      refine xpk_sound (stops := []) (n := 15) ?_
      simp only [sk_2, sk_0, sk_icne, sk_cs3, sk_ifeq, sk_5, sk_retI, lI_0, lI_s, lL_0, lL_s, lR_0, lR_s, vIo_e, vLo_e, vOo_e, stW_I, stW_L, stW_R, stW_0, stW_z, okSt_0, okSt_s, hV_eq, hK_eq, okF_0, okF_1, okF_3, is01_0, is01_1, is01_i, Int.toNat_natCast, Int.reduceEq, Int.reduceLE, Int.reduceLT, Int.reduceNeg, Nat.reduceLT, not_true_eq_false, not_false_eq_true, reduceIte, Option.toList, List.cons_append, List.nil_append, List.set_cons_zero, List.set_cons_succ, List.not_mem_nil, List.mem_cons, if_false, if_true, ite_true, ite_false, and_self, and_true, true_and, Nat.reduceAdd, Nat.reduceLeDiff, Nat.reduceEqDiff, Nat.zero_add, Nat.le_refl, Nat.zero_le, or_false, false_or, Int.reduceToNat, or_true, true_or, eq_self, and_false, false_and, inR_d, nc_4, nc_5, nc_6, nc_7, nc_8, nc_16, nc_18, nc_20, nc_24, nc_32, nc_40, nc_64, nc_104, nc_120, nc_160, nc_256, nc_300, nc_330, nc_390, nc_1200, nc_1260, nc_3012, nc_9834, okSt_1i, okSt_1r, okSt_1n, List.length_cons, List.length_nil, xpk_succ cd_157_0, xpk_succ cd_157_1, xpk_succ cd_157_2, xpk_succ cd_157_15, xpk_succ cd_157_16, xpk_succ cd_157_17, xpk_succ cd_157_20, xpk_succ cd_157_23, xpk_succ cd_157_61, xpk_succ cd_157_62, xpk_succ cd_157_64, xpk_succ cd_157_66, xpk_succ cd_157_80, xpk_succ cd_157_82, c1, X_wn, c3]
      first | exact y | (rw [c1] at y; exact y)
set_option maxHeartbeats 4000000 in
theorem X_barm {d : Nat} {h : AH} {a b c e : Int} (hJ : k_H JB h) (xa : -2147483648 ≤ a ∧ a ≤ 2147483647) (xb : -2147483648 ≤ b ∧ b ≤ 2147483647) (xc : -2147483648 ≤ c ∧ c ≤ 2147483647) (xe : -2147483648 ≤ e ∧ e ≤ 2147483647) : XC (d + 3) 296 [vR 76, vI a, vI b, vI c, vI e] h (BRm h a b c e) := by
  have xi : ∀ {D : Nat} {y u v : Int} {g : AH} {Q : Option AV → AH → Prop}, XC (D + 1) 182 [vI y, vI u, vI v] g Q = Q (some (vI (if u ≤ y ∧ y ≤ v then 1 else 0))) g := X_in
  refine XC_of (Nat.le_of_ble_eq_true rfl) ?_
  show XP (d + 2) 296 0 [some (vR 76), some (vI a), some (vI b), some (vI c), some (vI e), none] [] h _
  by_cases c1 : a = -1
  · have r2 : -1 ≤ a ∧ a ≤ -1 := by have z1 := xa; omega
    have ee : barN a b c e (fI h 77 18) = (0, 0) := by
      have z1 := (I_77_18 hJ).2
      unfold barN
      (repeat' split) <;> first | rfl | (exfalso; omega)
    have y : BRm h a b c e (some (vI 0)) (hSet h 77 18 (vI 0)) := ⟨by rw [ee], by rw [ee]; simp only [hV_eq, hK_eq, Nat.reduceEqDiff, and_false, false_and, and_self, true_and, and_true, if_false, if_true, reduceIte], by simp only [hV_eq, hK_eq, Nat.reduceEqDiff, and_false, false_and, and_self, true_and, and_true, if_false, if_true, reduceIte], by simp only [hV_eq, hK_eq, Nat.reduceEqDiff, and_false, false_and, and_self, true_and, and_true, if_false, if_true, reduceIte], by simp only [hV_eq, hK_eq, Nat.reduceEqDiff, and_false, false_and, and_self, true_and, and_true, if_false, if_true, reduceIte]⟩
    refine xpk_sound (stops := []) (n := 11) ?_
    simp only [sk_2, sk_0, sk_icne, sk_4, sk_getf, sk_iast, sk_retI, lI_0, lI_s, lL_0, lL_s, lR_0, lR_s, vIo_e, vLo_e, vOo_e, stW_I, stW_L, stW_R, stW_0, stW_z, okSt_0, okSt_s, hV_eq, hK_eq, okF_0, okF_1, okF_3, is01_0, is01_1, is01_i, Int.toNat_natCast, Int.reduceEq, Int.reduceLE, Int.reduceLT, Int.reduceNeg, Nat.reduceLT, not_true_eq_false, not_false_eq_true, reduceIte, Option.toList, List.cons_append, List.nil_append, List.set_cons_zero, List.set_cons_succ, List.not_mem_nil, List.mem_cons, if_false, if_true, ite_true, ite_false, and_self, and_true, true_and, Nat.reduceAdd, Nat.reduceLeDiff, Nat.reduceEqDiff, Nat.zero_add, Nat.le_refl, Nat.zero_le, or_false, false_or, Int.reduceToNat, or_true, true_or, eq_self, and_false, false_and, inR_d, nc_4, nc_5, nc_6, nc_7, nc_8, nc_16, nc_18, nc_20, nc_24, nc_32, nc_40, nc_64, nc_104, nc_120, nc_160, nc_256, nc_300, nc_330, nc_390, nc_1200, nc_1260, nc_3012, nc_9834, okSt_1i, okSt_1r, okSt_1n, List.length_cons, List.length_nil, xpk_succ cd_296_0, xpk_succ cd_296_1, xpk_succ cd_296_2, xpk_succ cd_296_5, xpk_succ cd_296_6, xpk_succ cd_296_9, xpk_succ cd_296_11, xpk_succ cd_296_12, xpk_succ cd_296_13, xpk_succ cd_296_14, c1, (K_76 hJ), (F_76_0 hJ), (K_77 hJ)]
    first | exact y | (rw [c1] at y; exact y)
  · by_cases c3 : 0 ≤ a ∧ a ≤ 600
    · by_cases c4 : a ≤ b ∧ b ≤ 600
      · by_cases c5 : 0 ≤ c ∧ c ≤ 9999
        · by_cases c6 : c ≤ e ∧ e ≤ 9999
          · by_cases c7 : fI h 77 18 = 4
            · have r8 : 4 ≤ fI h 77 18 ∧ fI h 77 18 ≤ 4 := by have z1 := (I_77_18 hJ).2; omega
              have ee : barN a b c e (fI h 77 18) = (-2, fI h 77 18) := by
                have z1 := (I_77_18 hJ).2
                unfold barN
                (repeat' split) <;> first | rfl | (exfalso; omega)
              have y : BRm h a b c e (some (vI (-2))) h := ⟨by rw [ee], by rw [ee]; exact (I_77_18 hJ).1, rfl, rfl, rfl⟩
              refine xpk_sound (stops := []) (n := 32) ?_
              simp only [sk_2, sk_0, sk_icne, sk_cs3, sk_ifeq, sk_4, sk_getf, sk_iald, sk_retI, lI_0, lI_s, lL_0, lL_s, lR_0, lR_s, vIo_e, vLo_e, vOo_e, stW_I, stW_L, stW_R, stW_0, stW_z, okSt_0, okSt_s, hV_eq, hK_eq, okF_0, okF_1, okF_3, is01_0, is01_1, is01_i, Int.toNat_natCast, Int.reduceEq, Int.reduceLE, Int.reduceLT, Int.reduceNeg, Nat.reduceLT, not_true_eq_false, not_false_eq_true, reduceIte, Option.toList, List.cons_append, List.nil_append, List.set_cons_zero, List.set_cons_succ, List.not_mem_nil, List.mem_cons, if_false, if_true, ite_true, ite_false, and_self, and_true, true_and, Nat.reduceAdd, Nat.reduceLeDiff, Nat.reduceEqDiff, Nat.zero_add, Nat.le_refl, Nat.zero_le, or_false, false_or, Int.reduceToNat, or_true, true_or, eq_self, and_false, false_and, inR_d, nc_4, nc_5, nc_6, nc_7, nc_8, nc_16, nc_18, nc_20, nc_24, nc_32, nc_40, nc_64, nc_104, nc_120, nc_160, nc_256, nc_300, nc_330, nc_390, nc_1200, nc_1260, nc_3012, nc_9834, okSt_1i, okSt_1r, okSt_1n, List.length_cons, List.length_nil, xpk_succ cd_296_0, xpk_succ cd_296_1, xpk_succ cd_296_2, xpk_succ cd_296_15, xpk_succ cd_296_16, xpk_succ cd_296_17, xpk_succ cd_296_20, xpk_succ cd_296_23, xpk_succ cd_296_26, xpk_succ cd_296_27, xpk_succ cd_296_28, xpk_succ cd_296_31, xpk_succ cd_296_34, xpk_succ cd_296_37, xpk_succ cd_296_38, xpk_succ cd_296_39, xpk_succ cd_296_42, xpk_succ cd_296_45, xpk_succ cd_296_48, xpk_succ cd_296_50, xpk_succ cd_296_51, xpk_succ cd_296_54, xpk_succ cd_296_57, xpk_succ cd_296_60, xpk_succ cd_296_61, xpk_succ cd_296_64, xpk_succ cd_296_66, xpk_succ cd_296_67, xpk_succ cd_296_68, xpk_succ cd_296_71, xpk_succ cd_296_73, c1, xi, c3, c4, c5, c6, (K_76 hJ), (F_76_0 hJ), (K_77 hJ), (I_77_18 hJ).1, c7]
              first | exact y | (rw [c1] at y; exact y)
            · have r9 : 0 ≤ fI h 77 18 ∧ fI h 77 18 ≤ 3 := by have z1 := (I_77_18 hJ).2; omega
              have f10 : w32 (4 * (fI h 77 18)) = 4 * (fI h 77 18) ∧ (0 ≤ 4 * (fI h 77 18) ∧ 4 * (fI h 77 18) ≤ 12) := by have z1 := (li_n 4); have z2 := r9; unfold w32; omega
              have f11 := f10.1
              have f12 : 0 ≤ 4 * (fI h 77 18) ∧ 4 * (fI h 77 18) ≤ 12 := f10.2
              have f13 : w32 (9818 + (4 * (fI h 77 18))) = 9818 + (4 * (fI h 77 18)) ∧ (9818 ≤ 9818 + (4 * (fI h 77 18)) ∧ 9818 + (4 * (fI h 77 18)) ≤ 9830) := wb_add (li_n 9818) f12 (by decide) (by decide) (by decide) (by decide)
              have f14 := f13.1
              have f15 : 9818 ≤ 9818 + (4 * (fI h 77 18)) ∧ 9818 + (4 * (fI h 77 18)) ≤ 9830 := f13.2
              have f16 : (0 : Int) ≤ 9818 + (4 * (fI h 77 18)) ∧ 9818 + (4 * (fI h 77 18)) < 9834 := by have z1 := f15; omega
              have f17 : w32 ((9818 + (4 * (fI h 77 18))) + 1) = (9818 + (4 * (fI h 77 18))) + 1 ∧ (9819 ≤ (9818 + (4 * (fI h 77 18))) + 1 ∧ (9818 + (4 * (fI h 77 18))) + 1 ≤ 9831) := wb_add f15 (li_n 1) (by decide) (by decide) (by decide) (by decide)
              have f18 := f17.1
              have f19 : 9819 ≤ (9818 + (4 * (fI h 77 18))) + 1 ∧ (9818 + (4 * (fI h 77 18))) + 1 ≤ 9831 := f17.2
              have f20 : (0 : Int) ≤ (9818 + (4 * (fI h 77 18))) + 1 ∧ (9818 + (4 * (fI h 77 18))) + 1 < 9834 := by have z1 := f19; omega
              have f21 : w32 ((9818 + (4 * (fI h 77 18))) + 2) = (9818 + (4 * (fI h 77 18))) + 2 ∧ (9820 ≤ (9818 + (4 * (fI h 77 18))) + 2 ∧ (9818 + (4 * (fI h 77 18))) + 2 ≤ 9832) := wb_add f15 (li_n 2) (by decide) (by decide) (by decide) (by decide)
              have f22 := f21.1
              have f23 : 9820 ≤ (9818 + (4 * (fI h 77 18))) + 2 ∧ (9818 + (4 * (fI h 77 18))) + 2 ≤ 9832 := f21.2
              have f24 : (0 : Int) ≤ (9818 + (4 * (fI h 77 18))) + 2 ∧ (9818 + (4 * (fI h 77 18))) + 2 < 9834 := by have z1 := f23; omega
              have f25 : w32 ((9818 + (4 * (fI h 77 18))) + 3) = (9818 + (4 * (fI h 77 18))) + 3 ∧ (9821 ≤ (9818 + (4 * (fI h 77 18))) + 3 ∧ (9818 + (4 * (fI h 77 18))) + 3 ≤ 9833) := wb_add f15 (li_n 3) (by decide) (by decide) (by decide) (by decide)
              have f26 := f25.1
              have f27 : 9821 ≤ (9818 + (4 * (fI h 77 18))) + 3 ∧ (9818 + (4 * (fI h 77 18))) + 3 ≤ 9833 := f25.2
              have f28 : (0 : Int) ≤ (9818 + (4 * (fI h 77 18))) + 3 ∧ (9818 + (4 * (fI h 77 18))) + 3 < 9834 := by have z1 := f27; omega
              have f29 : ¬ (18 = ((9818 + (4 * (fI h 77 18))) + 3).toNat) := by have z1 := (I_77_18 hJ).2; omega
              have f30 : ¬ (18 = ((9818 + (4 * (fI h 77 18))) + 2).toNat) := by have z1 := (I_77_18 hJ).2; omega
              have f31 : ¬ (18 = ((9818 + (4 * (fI h 77 18))) + 1).toNat) := by have z1 := (I_77_18 hJ).2; omega
              have f32 : ¬ (18 = (9818 + (4 * (fI h 77 18))).toNat) := by have z1 := (I_77_18 hJ).2; omega
              have f33 : w32 ((fI h 77 18) + 1) = (fI h 77 18) + 1 ∧ (1 ≤ (fI h 77 18) + 1 ∧ (fI h 77 18) + 1 ≤ 4) := wb_add r9 (li_n 1) (by decide) (by decide) (by decide) (by decide)
              have f34 := f33.1
              have f35 : 1 ≤ (fI h 77 18) + 1 ∧ (fI h 77 18) + 1 ≤ 4 := f33.2
              have ee : barN a b c e (fI h 77 18) = (fI h 77 18 + 1, fI h 77 18 + 1) := by
                have z1 := (I_77_18 hJ).2
                unfold barN
                (repeat' split) <;> first | rfl | (exfalso; omega)
              have g36 : ¬ (18 = (9818 + (4 * (fI h 77 18))).toNat) := by have z1 := (I_77_18 hJ).2; omega
              have g37 : ¬ (18 = ((9818 + (4 * (fI h 77 18))) + 1).toNat) := by have z1 := (I_77_18 hJ).2; omega
              have g38 : ¬ (18 = ((9818 + (4 * (fI h 77 18))) + 2).toNat) := by have z1 := (I_77_18 hJ).2; omega
              have g39 : ¬ (18 = ((9818 + (4 * (fI h 77 18))) + 3).toNat) := by have z1 := (I_77_18 hJ).2; omega
              have y : BRm h a b c e (some (vI ((fI h 77 18) + 1))) (hSet (hSet (hSet (hSet (hSet h 77 ((9818 + (4 * (fI h 77 18))).toNat) (vI a)) 77 (((9818 + (4 * (fI h 77 18))) + 1).toNat) (vI b)) 77 (((9818 + (4 * (fI h 77 18))) + 2).toNat) (vI c)) 77 (((9818 + (4 * (fI h 77 18))) + 3).toNat) (vI e)) 77 18 (vI ((fI h 77 18) + 1))) := ⟨by rw [ee], by rw [ee]; simp only [hV_eq, hK_eq, Nat.reduceEqDiff, and_false, false_and, and_self, true_and, and_true, if_false, if_true, reduceIte, g36, g37, g38, g39], by simp only [hV_eq, hK_eq, Nat.reduceEqDiff, and_false, false_and, and_self, true_and, and_true, if_false, if_true, reduceIte, g36, g37, g38, g39], by simp only [hV_eq, hK_eq, Nat.reduceEqDiff, and_false, false_and, and_self, true_and, and_true, if_false, if_true, reduceIte, g36, g37, g38, g39], by simp only [hV_eq, hK_eq, Nat.reduceEqDiff, and_false, false_and, and_self, true_and, and_true, if_false, if_true, reduceIte, g36, g37, g38, g39]⟩
              refine xpk_sound (stops := []) (n := 78) ?_
              simp only [sk_2, sk_0, sk_icne, sk_cs3, sk_ifeq, sk_4, sk_getf, sk_iald, sk_imul, sk_iadd, sk_5, sk_iast, sk_dup2L, sk_dup2I, sk_retI, lI_0, lI_s, lL_0, lL_s, lR_0, lR_s, vIo_e, vLo_e, vOo_e, stW_I, stW_L, stW_R, stW_0, stW_z, okSt_0, okSt_s, hV_eq, hK_eq, okF_0, okF_1, okF_3, is01_0, is01_1, is01_i, Int.toNat_natCast, Int.reduceEq, Int.reduceLE, Int.reduceLT, Int.reduceNeg, Nat.reduceLT, not_true_eq_false, not_false_eq_true, reduceIte, Option.toList, List.cons_append, List.nil_append, List.set_cons_zero, List.set_cons_succ, List.not_mem_nil, List.mem_cons, if_false, if_true, ite_true, ite_false, and_self, and_true, true_and, Nat.reduceAdd, Nat.reduceLeDiff, Nat.reduceEqDiff, Nat.zero_add, Nat.le_refl, Nat.zero_le, or_false, false_or, Int.reduceToNat, or_true, true_or, eq_self, and_false, false_and, inR_d, nc_4, nc_5, nc_6, nc_7, nc_8, nc_16, nc_18, nc_20, nc_24, nc_32, nc_40, nc_64, nc_104, nc_120, nc_160, nc_256, nc_300, nc_330, nc_390, nc_1200, nc_1260, nc_3012, nc_9834, okSt_1i, okSt_1r, okSt_1n, List.length_cons, List.length_nil, xpk_succ cd_296_0, xpk_succ cd_296_1, xpk_succ cd_296_2, xpk_succ cd_296_15, xpk_succ cd_296_16, xpk_succ cd_296_17, xpk_succ cd_296_20, xpk_succ cd_296_23, xpk_succ cd_296_26, xpk_succ cd_296_27, xpk_succ cd_296_28, xpk_succ cd_296_31, xpk_succ cd_296_34, xpk_succ cd_296_37, xpk_succ cd_296_38, xpk_succ cd_296_39, xpk_succ cd_296_42, xpk_succ cd_296_45, xpk_succ cd_296_48, xpk_succ cd_296_50, xpk_succ cd_296_51, xpk_succ cd_296_54, xpk_succ cd_296_57, xpk_succ cd_296_60, xpk_succ cd_296_61, xpk_succ cd_296_64, xpk_succ cd_296_66, xpk_succ cd_296_67, xpk_succ cd_296_68, xpk_succ cd_296_74, xpk_succ cd_296_77, xpk_succ cd_296_78, xpk_succ cd_296_79, xpk_succ cd_296_82, xpk_succ cd_296_84, xpk_succ cd_296_85, xpk_succ cd_296_86, xpk_succ cd_296_87, xpk_succ cd_296_89, xpk_succ cd_296_90, xpk_succ cd_296_93, xpk_succ cd_296_95, xpk_succ cd_296_96, xpk_succ cd_296_97, xpk_succ cd_296_98, xpk_succ cd_296_101, xpk_succ cd_296_103, xpk_succ cd_296_104, xpk_succ cd_296_105, xpk_succ cd_296_106, xpk_succ cd_296_107, xpk_succ cd_296_108, xpk_succ cd_296_111, xpk_succ cd_296_113, xpk_succ cd_296_114, xpk_succ cd_296_115, xpk_succ cd_296_116, xpk_succ cd_296_117, xpk_succ cd_296_118, xpk_succ cd_296_121, xpk_succ cd_296_123, xpk_succ cd_296_124, xpk_succ cd_296_125, xpk_succ cd_296_127, xpk_succ cd_296_128, xpk_succ cd_296_129, xpk_succ cd_296_132, xpk_succ cd_296_134, xpk_succ cd_296_135, xpk_succ cd_296_136, xpk_succ cd_296_137, xpk_succ cd_296_138, xpk_succ cd_296_139, xpk_succ cd_296_140, xpk_succ cd_296_143, xpk_succ cd_296_145, xpk_succ cd_296_146, c1, xi, c3, c4, c5, c6, (K_76 hJ), (F_76_0 hJ), (K_77 hJ), (I_77_18 hJ).1, c7, f11, f14, f16, f18, f20, f22, f24, f26, f28, f29, f30, f31, f32, f34]
              first | exact y | (rw [c1] at y; exact y)
          · have ee : barN a b c e (fI h 77 18) = (-2, fI h 77 18) := by
              have z1 := (I_77_18 hJ).2
              unfold barN
              (repeat' split) <;> first | rfl | (exfalso; omega)
            have y : BRm h a b c e (some (vI (-2))) h := ⟨by rw [ee], by rw [ee]; exact (I_77_18 hJ).1, rfl, rfl, rfl⟩
            refine xpk_sound (stops := []) (n := 26) ?_
            simp only [sk_2, sk_0, sk_icne, sk_cs3, sk_ifeq, sk_retI, lI_0, lI_s, lL_0, lL_s, lR_0, lR_s, vIo_e, vLo_e, vOo_e, stW_I, stW_L, stW_R, stW_0, stW_z, okSt_0, okSt_s, hV_eq, hK_eq, okF_0, okF_1, okF_3, is01_0, is01_1, is01_i, Int.toNat_natCast, Int.reduceEq, Int.reduceLE, Int.reduceLT, Int.reduceNeg, Nat.reduceLT, not_true_eq_false, not_false_eq_true, reduceIte, Option.toList, List.cons_append, List.nil_append, List.set_cons_zero, List.set_cons_succ, List.not_mem_nil, List.mem_cons, if_false, if_true, ite_true, ite_false, and_self, and_true, true_and, Nat.reduceAdd, Nat.reduceLeDiff, Nat.reduceEqDiff, Nat.zero_add, Nat.le_refl, Nat.zero_le, or_false, false_or, Int.reduceToNat, or_true, true_or, eq_self, and_false, false_and, inR_d, nc_4, nc_5, nc_6, nc_7, nc_8, nc_16, nc_18, nc_20, nc_24, nc_32, nc_40, nc_64, nc_104, nc_120, nc_160, nc_256, nc_300, nc_330, nc_390, nc_1200, nc_1260, nc_3012, nc_9834, okSt_1i, okSt_1r, okSt_1n, List.length_cons, List.length_nil, xpk_succ cd_296_0, xpk_succ cd_296_1, xpk_succ cd_296_2, xpk_succ cd_296_15, xpk_succ cd_296_16, xpk_succ cd_296_17, xpk_succ cd_296_20, xpk_succ cd_296_23, xpk_succ cd_296_26, xpk_succ cd_296_27, xpk_succ cd_296_28, xpk_succ cd_296_31, xpk_succ cd_296_34, xpk_succ cd_296_37, xpk_succ cd_296_38, xpk_succ cd_296_39, xpk_succ cd_296_42, xpk_succ cd_296_45, xpk_succ cd_296_48, xpk_succ cd_296_50, xpk_succ cd_296_51, xpk_succ cd_296_54, xpk_succ cd_296_57, xpk_succ cd_296_71, xpk_succ cd_296_73, c1, xi, c3, c4, c5, c6]
            first | exact y | (rw [c1] at y; exact y)
        · have ee : barN a b c e (fI h 77 18) = (-2, fI h 77 18) := by
            have z1 := (I_77_18 hJ).2
            unfold barN
            (repeat' split) <;> first | rfl | (exfalso; omega)
          have y : BRm h a b c e (some (vI (-2))) h := ⟨by rw [ee], by rw [ee]; exact (I_77_18 hJ).1, rfl, rfl, rfl⟩
          refine xpk_sound (stops := []) (n := 21) ?_
          simp only [sk_2, sk_0, sk_icne, sk_cs3, sk_ifeq, sk_retI, lI_0, lI_s, lL_0, lL_s, lR_0, lR_s, vIo_e, vLo_e, vOo_e, stW_I, stW_L, stW_R, stW_0, stW_z, okSt_0, okSt_s, hV_eq, hK_eq, okF_0, okF_1, okF_3, is01_0, is01_1, is01_i, Int.toNat_natCast, Int.reduceEq, Int.reduceLE, Int.reduceLT, Int.reduceNeg, Nat.reduceLT, not_true_eq_false, not_false_eq_true, reduceIte, Option.toList, List.cons_append, List.nil_append, List.set_cons_zero, List.set_cons_succ, List.not_mem_nil, List.mem_cons, if_false, if_true, ite_true, ite_false, and_self, and_true, true_and, Nat.reduceAdd, Nat.reduceLeDiff, Nat.reduceEqDiff, Nat.zero_add, Nat.le_refl, Nat.zero_le, or_false, false_or, Int.reduceToNat, or_true, true_or, eq_self, and_false, false_and, inR_d, nc_4, nc_5, nc_6, nc_7, nc_8, nc_16, nc_18, nc_20, nc_24, nc_32, nc_40, nc_64, nc_104, nc_120, nc_160, nc_256, nc_300, nc_330, nc_390, nc_1200, nc_1260, nc_3012, nc_9834, okSt_1i, okSt_1r, okSt_1n, List.length_cons, List.length_nil, xpk_succ cd_296_0, xpk_succ cd_296_1, xpk_succ cd_296_2, xpk_succ cd_296_15, xpk_succ cd_296_16, xpk_succ cd_296_17, xpk_succ cd_296_20, xpk_succ cd_296_23, xpk_succ cd_296_26, xpk_succ cd_296_27, xpk_succ cd_296_28, xpk_succ cd_296_31, xpk_succ cd_296_34, xpk_succ cd_296_37, xpk_succ cd_296_38, xpk_succ cd_296_39, xpk_succ cd_296_42, xpk_succ cd_296_45, xpk_succ cd_296_71, xpk_succ cd_296_73, c1, xi, c3, c4, c5]
          first | exact y | (rw [c1] at y; exact y)
      · have ee : barN a b c e (fI h 77 18) = (-2, fI h 77 18) := by
          have z1 := (I_77_18 hJ).2
          unfold barN
          (repeat' split) <;> first | rfl | (exfalso; omega)
        have y : BRm h a b c e (some (vI (-2))) h := ⟨by rw [ee], by rw [ee]; exact (I_77_18 hJ).1, rfl, rfl, rfl⟩
        refine xpk_sound (stops := []) (n := 16) ?_
        simp only [sk_2, sk_0, sk_icne, sk_cs3, sk_ifeq, sk_retI, lI_0, lI_s, lL_0, lL_s, lR_0, lR_s, vIo_e, vLo_e, vOo_e, stW_I, stW_L, stW_R, stW_0, stW_z, okSt_0, okSt_s, hV_eq, hK_eq, okF_0, okF_1, okF_3, is01_0, is01_1, is01_i, Int.toNat_natCast, Int.reduceEq, Int.reduceLE, Int.reduceLT, Int.reduceNeg, Nat.reduceLT, not_true_eq_false, not_false_eq_true, reduceIte, Option.toList, List.cons_append, List.nil_append, List.set_cons_zero, List.set_cons_succ, List.not_mem_nil, List.mem_cons, if_false, if_true, ite_true, ite_false, and_self, and_true, true_and, Nat.reduceAdd, Nat.reduceLeDiff, Nat.reduceEqDiff, Nat.zero_add, Nat.le_refl, Nat.zero_le, or_false, false_or, Int.reduceToNat, or_true, true_or, eq_self, and_false, false_and, inR_d, nc_4, nc_5, nc_6, nc_7, nc_8, nc_16, nc_18, nc_20, nc_24, nc_32, nc_40, nc_64, nc_104, nc_120, nc_160, nc_256, nc_300, nc_330, nc_390, nc_1200, nc_1260, nc_3012, nc_9834, okSt_1i, okSt_1r, okSt_1n, List.length_cons, List.length_nil, xpk_succ cd_296_0, xpk_succ cd_296_1, xpk_succ cd_296_2, xpk_succ cd_296_15, xpk_succ cd_296_16, xpk_succ cd_296_17, xpk_succ cd_296_20, xpk_succ cd_296_23, xpk_succ cd_296_26, xpk_succ cd_296_27, xpk_succ cd_296_28, xpk_succ cd_296_31, xpk_succ cd_296_34, xpk_succ cd_296_71, xpk_succ cd_296_73, c1, xi, c3, c4]
        first | exact y | (rw [c1] at y; exact y)
    · have ee : barN a b c e (fI h 77 18) = (-2, fI h 77 18) := by
        have z1 := (I_77_18 hJ).2
        unfold barN
        (repeat' split) <;> first | rfl | (exfalso; omega)
      have y : BRm h a b c e (some (vI (-2))) h := ⟨by rw [ee], by rw [ee]; exact (I_77_18 hJ).1, rfl, rfl, rfl⟩
      refine xpk_sound (stops := []) (n := 11) ?_
      simp only [sk_2, sk_0, sk_icne, sk_cs3, sk_ifeq, sk_retI, lI_0, lI_s, lL_0, lL_s, lR_0, lR_s, vIo_e, vLo_e, vOo_e, stW_I, stW_L, stW_R, stW_0, stW_z, okSt_0, okSt_s, hV_eq, hK_eq, okF_0, okF_1, okF_3, is01_0, is01_1, is01_i, Int.toNat_natCast, Int.reduceEq, Int.reduceLE, Int.reduceLT, Int.reduceNeg, Nat.reduceLT, not_true_eq_false, not_false_eq_true, reduceIte, Option.toList, List.cons_append, List.nil_append, List.set_cons_zero, List.set_cons_succ, List.not_mem_nil, List.mem_cons, if_false, if_true, ite_true, ite_false, and_self, and_true, true_and, Nat.reduceAdd, Nat.reduceLeDiff, Nat.reduceEqDiff, Nat.zero_add, Nat.le_refl, Nat.zero_le, or_false, false_or, Int.reduceToNat, or_true, true_or, eq_self, and_false, false_and, inR_d, nc_4, nc_5, nc_6, nc_7, nc_8, nc_16, nc_18, nc_20, nc_24, nc_32, nc_40, nc_64, nc_104, nc_120, nc_160, nc_256, nc_300, nc_330, nc_390, nc_1200, nc_1260, nc_3012, nc_9834, okSt_1i, okSt_1r, okSt_1n, List.length_cons, List.length_nil, xpk_succ cd_296_0, xpk_succ cd_296_1, xpk_succ cd_296_2, xpk_succ cd_296_15, xpk_succ cd_296_16, xpk_succ cd_296_17, xpk_succ cd_296_20, xpk_succ cd_296_23, xpk_succ cd_296_71, xpk_succ cd_296_73, c1, xi, c3]
      first | exact y | (rw [c1] at y; exact y)
