set_option maxRecDepth 20000 in
theorem ac_311 : allC[311]? = some cl311 := rfl
theorem cd_311_0 : cd 311 0 = some (3, 1, 0, 0, 0, []) := cd_row ac_311 rfl
theorem cd_311_1 : cd 311 1 = some (6, 3, 4, 0, 0, []) := cd_row ac_311 rfl
theorem cd_311_3 : cd 311 3 = some (3, 4, 2, 0, 0, []) := cd_row ac_311 rfl
theorem cd_311_4 : cd 311 4 = some (6, 6, 6, 0, 0, []) := cd_row ac_311 rfl
theorem cd_311_6 : cd 311 6 = some (3, 8, 6, 0, 0, []) := cd_row ac_311 rfl
theorem cd_311_8 : cd 311 8 = some (1, 9, 0, 0, 0, []) := cd_row ac_311 rfl
theorem cd_311_9 : cd 311 9 = some (16, 10, 0, 0, 0, []) := cd_row ac_311 rfl
theorem cd_311_10 : cd 311 10 = some (20, 13, 31, 0, 0, []) := cd_row ac_311 rfl
theorem cd_311_13 : cd 311 13 = some (3, 15, 4, 0, 0, []) := cd_row ac_311 rfl
theorem cd_311_15 : cd 311 15 = some (3, 17, 6, 0, 0, []) := cd_row ac_311 rfl
theorem cd_311_17 : cd 311 17 = some (11, 18, 0, 4, 0, []) := cd_row ac_311 rfl
theorem cd_311_18 : cd 311 18 = some (6, 20, 8, 0, 0, []) := cd_row ac_311 rfl
theorem cd_311_20 : cd 311 20 = some (3, 22, 6, 0, 0, []) := cd_row ac_311 rfl
theorem cd_311_22 : cd 311 22 = some (6, 24, 4, 0, 0, []) := cd_row ac_311 rfl
theorem cd_311_24 : cd 311 24 = some (3, 26, 8, 0, 0, []) := cd_row ac_311 rfl
theorem cd_311_26 : cd 311 26 = some (6, 28, 6, 0, 0, []) := cd_row ac_311 rfl
theorem cd_311_28 : cd 311 28 = some (22, 31, 6, 0, 0, []) := cd_row ac_311 rfl
theorem cd_311_31 : cd 311 31 = some (3, 33, 4, 0, 0, []) := cd_row ac_311 rfl
theorem cd_311_33 : cd 311 33 = some (41, 34, 0, 0, 0, []) := cd_row ac_311 rfl
set_option maxRecDepth 20000 in
theorem ac_312 : allC[312]? = some cl312 := rfl
theorem cd_312_0 : cd 312 0 = some (1, 1, 0, 0, 1, []) := cd_row ac_312 rfl
theorem cd_312_1 : cd 312 1 = some (6, 2, 2, 0, 0, []) := cd_row ac_312 rfl
theorem cd_312_2 : cd 312 2 = some (1, 3, 0, 0, 1, []) := cd_row ac_312 rfl
theorem cd_312_3 : cd 312 3 = some (6, 5, 4, 0, 0, []) := cd_row ac_312 rfl
theorem cd_312_5 : cd 312 5 = some (0, 6, 0, 0, 0, []) := cd_row ac_312 rfl
theorem cd_312_6 : cd 312 6 = some (5, 8, 6, 0, 0, []) := cd_row ac_312 rfl
theorem cd_312_8 : cd 312 8 = some (2, 10, 6, 0, 0, []) := cd_row ac_312 rfl
theorem cd_312_10 : cd 312 10 = some (4, 11, 0, 0, 0, []) := cd_row ac_312 rfl
theorem cd_312_11 : cd 312 11 = some (23, 14, 10, 0, 0, []) := cd_row ac_312 rfl
theorem cd_312_14 : cd 312 14 = some (0, 16, 0, 0, 6, []) := cd_row ac_312 rfl
theorem cd_312_16 : cd 312 16 = some (26, 17, 0, 0, 0, []) := cd_row ac_312 rfl
theorem cd_312_17 : cd 312 17 = some (21, 20, 107, 3, 0, []) := cd_row ac_312 rfl
theorem cd_312_20 : cd 312 20 = some (4, 21, 0, 0, 0, []) := cd_row ac_312 rfl
theorem cd_312_21 : cd 312 21 = some (23, 24, 10, 0, 0, []) := cd_row ac_312 rfl
theorem cd_312_24 : cd 312 24 = some (0, 26, 0, 0, 68, []) := cd_row ac_312 rfl
theorem cd_312_26 : cd 312 26 = some (0, 27, 0, 0, 2, []) := cd_row ac_312 rfl
theorem cd_312_27 : cd 312 27 = some (2, 29, 6, 0, 0, []) := cd_row ac_312 rfl
theorem cd_312_29 : cd 312 29 = some (9, 30, 0, 2, 0, []) := cd_row ac_312 rfl
theorem cd_312_30 : cd 312 30 = some (9, 31, 0, 0, 0, []) := cd_row ac_312 rfl
theorem cd_312_31 : cd 312 31 = some (26, 32, 0, 0, 0, []) := cd_row ac_312 rfl
theorem cd_312_32 : cd 312 32 = some (5, 34, 7, 0, 0, []) := cd_row ac_312 rfl
theorem cd_312_34 : cd 312 34 = some (4, 35, 0, 0, 0, []) := cd_row ac_312 rfl
theorem cd_312_35 : cd 312 35 = some (23, 38, 10, 0, 0, []) := cd_row ac_312 rfl
theorem cd_312_38 : cd 312 38 = some (0, 40, 0, 0, 68, []) := cd_row ac_312 rfl
theorem cd_312_40 : cd 312 40 = some (0, 41, 0, 0, 2, []) := cd_row ac_312 rfl
theorem cd_312_41 : cd 312 41 = some (2, 43, 6, 0, 0, []) := cd_row ac_312 rfl
theorem cd_312_43 : cd 312 43 = some (9, 44, 0, 2, 0, []) := cd_row ac_312 rfl
theorem cd_312_44 : cd 312 44 = some (9, 45, 0, 0, 0, []) := cd_row ac_312 rfl
theorem cd_312_45 : cd 312 45 = some (0, 46, 0, 0, 1, []) := cd_row ac_312 rfl
theorem cd_312_46 : cd 312 46 = some (9, 47, 0, 0, 0, []) := cd_row ac_312 rfl
theorem cd_312_47 : cd 312 47 = some (26, 48, 0, 0, 0, []) := cd_row ac_312 rfl
theorem cd_312_48 : cd 312 48 = some (0, 49, 0, 0, 1, []) := cd_row ac_312 rfl
theorem cd_312_49 : cd 312 49 = some (21, 52, 56, 1, 0, []) := cd_row ac_312 rfl
theorem cd_312_52 : cd 312 52 = some (0, 53, 0, 0, 1, []) := cd_row ac_312 rfl
theorem cd_312_53 : cd 312 53 = some (22, 56, 57, 0, 0, []) := cd_row ac_312 rfl
theorem cd_312_56 : cd 312 56 = some (0, 57, 0, 0, 0, []) := cd_row ac_312 rfl
theorem cd_312_57 : cd 312 57 = some (5, 59, 8, 0, 0, []) := cd_row ac_312 rfl
theorem cd_312_59 : cd 312 59 = some (3, 60, 2, 0, 0, []) := cd_row ac_312 rfl
theorem cd_312_60 : cd 312 60 = some (2, 62, 8, 0, 0, []) := cd_row ac_312 rfl
theorem cd_312_62 : cd 312 62 = some (20, 65, 71, 0, 0, []) := cd_row ac_312 rfl
theorem cd_312_65 : cd 312 65 = some (2, 67, 7, 0, 0, []) := cd_row ac_312 rfl
theorem cd_312_67 : cd 312 67 = some (14, 68, 0, 0, 0, []) := cd_row ac_312 rfl
theorem cd_312_68 : cd 312 68 = some (22, 71, 77, 0, 0, []) := cd_row ac_312 rfl
theorem cd_312_71 : cd 312 71 = some (0, 73, 0, 0, 10, []) := cd_row ac_312 rfl
theorem cd_312_73 : cd 312 73 = some (2, 75, 7, 0, 0, []) := cd_row ac_312 rfl
theorem cd_312_75 : cd 312 75 = some (9, 76, 0, 1, 0, []) := cd_row ac_312 rfl
theorem cd_312_76 : cd 312 76 = some (14, 77, 0, 0, 0, []) := cd_row ac_312 rfl
theorem cd_312_77 : cd 312 77 = some (11, 78, 0, 2, 0, []) := cd_row ac_312 rfl
theorem cd_312_78 : cd 312 78 = some (6, 79, 2, 0, 0, []) := cd_row ac_312 rfl
theorem cd_312_79 : cd 312 79 = some (3, 81, 4, 0, 0, []) := cd_row ac_312 rfl
theorem cd_312_81 : cd 312 81 = some (2, 83, 8, 0, 0, []) := cd_row ac_312 rfl
theorem cd_312_83 : cd 312 83 = some (20, 86, 95, 0, 0, []) := cd_row ac_312 rfl
theorem cd_312_86 : cd 312 86 = some (0, 88, 0, 0, 10, []) := cd_row ac_312 rfl
theorem cd_312_88 : cd 312 88 = some (2, 90, 7, 0, 0, []) := cd_row ac_312 rfl
theorem cd_312_90 : cd 312 90 = some (9, 91, 0, 1, 0, []) := cd_row ac_312 rfl
theorem cd_312_91 : cd 312 91 = some (14, 92, 0, 0, 0, []) := cd_row ac_312 rfl
theorem cd_312_92 : cd 312 92 = some (22, 95, 98, 0, 0, []) := cd_row ac_312 rfl
theorem cd_312_95 : cd 312 95 = some (2, 97, 7, 0, 0, []) := cd_row ac_312 rfl
theorem cd_312_97 : cd 312 97 = some (14, 98, 0, 0, 0, []) := cd_row ac_312 rfl
theorem cd_312_98 : cd 312 98 = some (11, 99, 0, 2, 0, []) := cd_row ac_312 rfl
theorem cd_312_99 : cd 312 99 = some (6, 101, 4, 0, 0, []) := cd_row ac_312 rfl
theorem cd_312_101 : cd 312 101 = some (8, 104, 6, 0, 1, []) := cd_row ac_312 rfl
theorem cd_312_104 : cd 312 104 = some (22, 107, 8, 0, 0, []) := cd_row ac_312 rfl
theorem cd_312_107 : cd 312 107 = some (3, 108, 2, 0, 0, []) := cd_row ac_312 rfl
theorem cd_312_108 : cd 312 108 = some (3, 110, 4, 0, 0, []) := cd_row ac_312 rfl
theorem cd_312_110 : cd 312 110 = some (11, 111, 0, 0, 0, []) := cd_row ac_312 rfl
theorem cd_312_111 : cd 312 111 = some (1, 112, 0, 0, 0, []) := cd_row ac_312 rfl
theorem cd_312_112 : cd 312 112 = some (16, 113, 0, 0, 0, []) := cd_row ac_312 rfl
theorem cd_312_113 : cd 312 113 = some (20, 116, 126, 1, 0, []) := cd_row ac_312 rfl
theorem cd_312_116 : cd 312 116 = some (2, 117, 1, 0, 0, []) := cd_row ac_312 rfl
theorem cd_312_117 : cd 312 117 = some (20, 120, 124, 0, 0, []) := cd_row ac_312 rfl
theorem cd_312_120 : cd 312 120 = some (1, 121, 0, 0, 1, []) := cd_row ac_312 rfl
theorem cd_312_121 : cd 312 121 = some (22, 124, 125, 0, 0, []) := cd_row ac_312 rfl
theorem cd_312_124 : cd 312 124 = some (1, 125, 0, 0, 0, []) := cd_row ac_312 rfl
theorem cd_312_125 : cd 312 125 = some (41, 126, 0, 0, 0, []) := cd_row ac_312 rfl
theorem cd_312_126 : cd 312 126 = some (2, 127, 1, 0, 0, []) := cd_row ac_312 rfl
theorem cd_312_127 : cd 312 127 = some (20, 130, 137, 0, 0, []) := cd_row ac_312 rfl
theorem cd_312_130 : cd 312 130 = some (3, 131, 2, 0, 0, []) := cd_row ac_312 rfl
theorem cd_312_131 : cd 312 131 = some (3, 133, 4, 0, 0, []) := cd_row ac_312 rfl
theorem cd_312_133 : cd 312 133 = some (11, 134, 0, 0, 0, []) := cd_row ac_312 rfl
theorem cd_312_134 : cd 312 134 = some (22, 137, 138, 0, 0, []) := cd_row ac_312 rfl
theorem cd_312_137 : cd 312 137 = some (3, 138, 2, 0, 0, []) := cd_row ac_312 rfl
theorem cd_312_138 : cd 312 138 = some (3, 139, 2, 0, 0, []) := cd_row ac_312 rfl
theorem cd_312_139 : cd 312 139 = some (3, 140, 2, 0, 0, []) := cd_row ac_312 rfl
theorem cd_312_140 : cd 312 140 = some (3, 142, 4, 0, 0, []) := cd_row ac_312 rfl
theorem cd_312_142 : cd 312 142 = some (11, 143, 0, 0, 0, []) := cd_row ac_312 rfl
theorem cd_312_143 : cd 312 143 = some (38, 146, 311, 2, 0, []) := cd_row ac_312 rfl
theorem cd_312_146 : cd 312 146 = some (11, 147, 0, 3, 0, []) := cd_row ac_312 rfl
theorem cd_312_147 : cd 312 147 = some (41, 148, 0, 0, 0, []) := cd_row ac_312 rfl
set_option maxRecDepth 20000 in
theorem ac_313 : allC[313]? = some cl313 := rfl
theorem cd_313_0 : cd 313 0 = some (4, 1, 0, 0, 0, []) := cd_row ac_313 rfl
theorem cd_313_1 : cd 313 1 = some (23, 4, 10, 0, 0, []) := cd_row ac_313 rfl
theorem cd_313_4 : cd 313 4 = some (0, 6, 0, 0, 7, []) := cd_row ac_313 rfl
theorem cd_313_6 : cd 313 6 = some (26, 7, 0, 0, 0, []) := cd_row ac_313 rfl
theorem cd_313_7 : cd 313 7 = some (0, 9, 0, 0, 20, []) := cd_row ac_313 rfl
theorem cd_313_9 : cd 313 9 = some (21, 12, 22, 3, 0, []) := cd_row ac_313 rfl
theorem cd_313_12 : cd 313 12 = some (4, 13, 0, 0, 0, []) := cd_row ac_313 rfl
theorem cd_313_13 : cd 313 13 = some (23, 16, 10, 0, 0, []) := cd_row ac_313 rfl
theorem cd_313_16 : cd 313 16 = some (0, 18, 0, 0, 7, []) := cd_row ac_313 rfl
theorem cd_313_18 : cd 313 18 = some (26, 19, 0, 0, 0, []) := cd_row ac_313 rfl
theorem cd_313_19 : cd 313 19 = some (22, 22, 24, 0, 0, []) := cd_row ac_313 rfl
theorem cd_313_22 : cd 313 22 = some (0, 24, 0, 0, 20, []) := cd_row ac_313 rfl
theorem cd_313_24 : cd 313 24 = some (40, 25, 0, 0, 0, []) := cd_row ac_313 rfl
set_option maxRecDepth 20000 in
theorem ac_314 : allC[314]? = some cl314 := rfl
theorem cd_314_0 : cd 314 0 = some (4, 1, 0, 0, 0, []) := cd_row ac_314 rfl
theorem cd_314_1 : cd 314 1 = some (23, 4, 10, 0, 0, []) := cd_row ac_314 rfl
theorem cd_314_4 : cd 314 4 = some (0, 7, 0, 0, 474, []) := cd_row ac_314 rfl
theorem cd_314_7 : cd 314 7 = some (0, 8, 0, 0, 2, []) := cd_row ac_314 rfl
theorem cd_314_8 : cd 314 8 = some (4, 9, 0, 0, 0, []) := cd_row ac_314 rfl
theorem cd_314_9 : cd 314 9 = some (23, 12, 10, 0, 0, []) := cd_row ac_314 rfl
theorem cd_314_12 : cd 314 12 = some (0, 14, 0, 0, 7, []) := cd_row ac_314 rfl
theorem cd_314_14 : cd 314 14 = some (26, 15, 0, 0, 0, []) := cd_row ac_314 rfl
theorem cd_314_15 : cd 314 15 = some (4, 16, 0, 0, 0, []) := cd_row ac_314 rfl
theorem cd_314_16 : cd 314 16 = some (46, 19, 313, 1, 10, []) := cd_row ac_314 rfl
theorem cd_314_19 : cd 314 19 = some (9, 20, 0, 1, 0, []) := cd_row ac_314 rfl
theorem cd_314_20 : cd 314 20 = some (2, 21, 1, 0, 0, []) := cd_row ac_314 rfl
theorem cd_314_21 : cd 314 21 = some (9, 22, 0, 0, 0, []) := cd_row ac_314 rfl
theorem cd_314_22 : cd 314 22 = some (0, 24, 0, 0, 64, []) := cd_row ac_314 rfl
theorem cd_314_24 : cd 314 24 = some (9, 25, 0, 7, 0, []) := cd_row ac_314 rfl
theorem cd_314_25 : cd 314 25 = some (9, 26, 0, 2, 0, []) := cd_row ac_314 rfl
theorem cd_314_26 : cd 314 26 = some (9, 27, 0, 0, 0, []) := cd_row ac_314 rfl
theorem cd_314_27 : cd 314 27 = some (2, 28, 2, 0, 0, []) := cd_row ac_314 rfl
theorem cd_314_28 : cd 314 28 = some (9, 29, 0, 0, 0, []) := cd_row ac_314 rfl
theorem cd_314_29 : cd 314 29 = some (26, 30, 0, 0, 0, []) := cd_row ac_314 rfl
theorem cd_314_30 : cd 314 30 = some (40, 31, 0, 0, 0, []) := cd_row ac_314 rfl
set_option maxRecDepth 20000 in
theorem ac_317 : allC[317]? = some cl317 := rfl
theorem cd_317_0 : cd 317 0 = some (4, 1, 0, 0, 0, []) := cd_row ac_317 rfl
theorem cd_317_1 : cd 317 1 = some (46, 4, 313, 1, 10, []) := cd_row ac_317 rfl
theorem cd_317_4 : cd 317 4 = some (0, 5, 0, 0, 1, []) := cd_row ac_317 rfl
theorem cd_317_5 : cd 317 5 = some (9, 6, 0, 1, 0, []) := cd_row ac_317 rfl
theorem cd_317_6 : cd 317 6 = some (5, 7, 2, 0, 0, []) := cd_row ac_317 rfl
theorem cd_317_7 : cd 317 7 = some (2, 8, 2, 0, 0, []) := cd_row ac_317 rfl
theorem cd_317_8 : cd 317 8 = some (0, 9, 0, 0, 1, []) := cd_row ac_317 rfl
theorem cd_317_9 : cd 317 9 = some (21, 12, 14, 3, 0, []) := cd_row ac_317 rfl
theorem cd_317_12 : cd 317 12 = some (0, 13, 0, 0, -1, []) := cd_row ac_317 rfl
theorem cd_317_13 : cd 317 13 = some (40, 14, 0, 0, 0, []) := cd_row ac_317 rfl
theorem cd_317_14 : cd 317 14 = some (4, 15, 0, 0, 0, []) := cd_row ac_317 rfl
theorem cd_317_15 : cd 317 15 = some (2, 16, 2, 0, 0, []) := cd_row ac_317 rfl
theorem cd_317_16 : cd 317 16 = some (0, 17, 0, 0, 1, []) := cd_row ac_317 rfl
theorem cd_317_17 : cd 317 17 = some (46, 20, 314, 3, 10, []) := cd_row ac_317 rfl
theorem cd_317_20 : cd 317 20 = some (4, 21, 0, 0, 0, []) := cd_row ac_317 rfl
theorem cd_317_21 : cd 317 21 = some (0, 22, 0, 0, 0, []) := cd_row ac_317 rfl
theorem cd_317_22 : cd 317 22 = some (0, 23, 0, 0, 1, []) := cd_row ac_317 rfl
theorem cd_317_23 : cd 317 23 = some (46, 26, 314, 3, 10, []) := cd_row ac_317 rfl
theorem cd_317_26 : cd 317 26 = some (9, 27, 0, 1, 0, []) := cd_row ac_317 rfl
theorem cd_317_27 : cd 317 27 = some (14, 28, 0, 0, 0, []) := cd_row ac_317 rfl
theorem cd_317_28 : cd 317 28 = some (6, 29, 3, 0, 0, []) := cd_row ac_317 rfl
theorem cd_317_29 : cd 317 29 = some (2, 30, 1, 0, 0, []) := cd_row ac_317 rfl
theorem cd_317_30 : cd 317 30 = some (20, 33, 38, 0, 0, []) := cd_row ac_317 rfl
theorem cd_317_33 : cd 317 33 = some (2, 34, 2, 0, 0, []) := cd_row ac_317 rfl
theorem cd_317_34 : cd 317 34 = some (14, 35, 0, 0, 0, []) := cd_row ac_317 rfl
theorem cd_317_35 : cd 317 35 = some (22, 38, 39, 0, 0, []) := cd_row ac_317 rfl
theorem cd_317_38 : cd 317 38 = some (3, 39, 3, 0, 0, []) := cd_row ac_317 rfl
theorem cd_317_39 : cd 317 39 = some (3, 40, 3, 0, 0, []) := cd_row ac_317 rfl
theorem cd_317_40 : cd 317 40 = some (2, 41, 2, 0, 0, []) := cd_row ac_317 rfl
theorem cd_317_41 : cd 317 41 = some (14, 42, 0, 0, 0, []) := cd_row ac_317 rfl
theorem cd_317_42 : cd 317 42 = some (38, 45, 311, 2, 0, []) := cd_row ac_317 rfl
theorem cd_317_45 : cd 317 45 = some (11, 46, 0, 3, 0, []) := cd_row ac_317 rfl
theorem cd_317_46 : cd 317 46 = some (15, 47, 0, 0, 0, []) := cd_row ac_317 rfl
theorem cd_317_47 : cd 317 47 = some (40, 48, 0, 0, 0, []) := cd_row ac_317 rfl
theorem XC_dt {d M : Nat} {as : List AV} {h : AH} {P : Option AV → AH → Prop} (hw : XC (d + 1) M as h P) : ∃ r h', P r h' ∧ ∀ Q : Option AV → AH → Prop, XC (d + 1) M as h Q = Q r h' := by
  obtain ⟨hl, n, r1, h1, he, hp⟩ := hw
  exact ⟨r1, h1, hp, fun Q => XC_eq hl ⟨n, _, _, he, rfl, rfl⟩ Q⟩
theorem tm_lt {a b : Int} (hb : b ≠ 0) : (a.tmod b).natAbs < b.natAbs := by
  have h1 : (a.tmod b).natAbs = a.natAbs % b.natAbs := Int.natAbs_tmod a b
  rw [h1]
  exact Nat.mod_lt _ (by omega)
theorem lc_0 {x : Int} (h : x = 0) : lcmp3 x 0 = 0 := by subst h; rfl
theorem lc_1 {x : Int} (h : x ≠ 0) : lcmp3 x 0 ≠ 0 := by
  unfold lcmp3
  split
  · decide
  · decide
theorem cm_l {d : Nat} {h : AH} {x0 y0 : Int} : ∀ (n : Nat) (a b : Int) (l8 l9 : Option AV), b.natAbs ≤ n → (a ≠ 0 ∨ b ≠ 0) → XP d 311 6 [some (vL x0), none, some (vL y0), none, some (vL a), none, some (vL b), none, l8, l9] [] h (fun r h' => h' = h ∧ ∃ g : Int, r = some (vL g) ∧ g ≠ 0) := by
  intro n
  induction n with
  | zero =>
    intro a b l8 l9 hb hz
    have hb : b = 0 := by omega
    have y : h = h ∧ ∃ g : Int, some (vL a) = some (vL g) ∧ g ≠ 0 := ⟨rfl, a, rfl, by omega⟩
    have c := lc_0 hb
    refine xpk_sound (stops := []) (n := 20) ?_
    simp only [sk_0, sk_1, sk_2, sk_3, sk_4, sk_5, sk_6, sk_7, sk_8, sk_iadd, sk_isub, sk_imul, sk_iand, sk_ior, sk_ixor, sk_ishl, sk_ishr, sk_iushr, sk_idiv, sk_irem, sk_ineg, sk_ladd, sk_lsub, sk_lmul, sk_land, sk_lor, sk_ldiv, sk_lrem, sk_lneg, sk_lshl, sk_lshr, sk_i2l, sk_l2i, sk_lcmp, sk_dupI, sk_dupR, sk_dup2L, sk_dup2I, sk_popI, sk_ifeq, sk_ifne, sk_iflt, sk_ifge, sk_ifgt, sk_ifle, sk_iceq, sk_icne, sk_iclt, sk_icge, sk_icgt, sk_icle, sk_goto, sk_getf, sk_putf, sk_gets, sk_iald, sk_lald, sk_bald, sk_aald, sk_iast, sk_last, sk_bast, sk_aast, sk_alen, sk_newa, sk_newt, sk_new, sk_cs1, sk_cs2, sk_cs3, sk_cs4, sk_cs5, sk_cs6, sk_cv1, sk_cv2, sk_cv3, sk_cv4, sk_cv5, sk_cv6, sk_ci1, sk_ci2, sk_ci3, sk_ret0, sk_retI, sk_retL, sk_retR, sk_sw, sk_oin, sk_max, sk_min, sk_abs, lI_0, lI_s, lL_0, lL_s, lR_0, lR_s, vIo_e, vLo_e, vOo_e, stW_I, stW_L, stW_R, stW_0, stW_z, okSt_0, okSt_s, hV_eq, hK_eq, okF_0, okF_1, okF_3, is01_0, is01_1, is01_i, Int.toNat_natCast, Int.reduceEq, Int.reduceLE, Int.reduceLT, Int.reduceNeg, Nat.reduceLT, not_true_eq_false, not_false_eq_true, reduceIte, Option.toList, List.cons_append, List.nil_append, List.set_cons_zero, List.set_cons_succ, List.not_mem_nil, List.mem_cons, if_false, if_true, ite_true, ite_false, and_self, and_true, true_and, Nat.reduceAdd, Nat.reduceLeDiff, Nat.reduceEqDiff, Nat.zero_add, Nat.le_refl, Nat.zero_le, or_false, false_or, Int.reduceToNat, or_true, true_or, eq_self, and_false, false_and, inR_d, nc_4, nc_5, nc_6, nc_7, nc_8, nc_16, nc_18, nc_20, nc_24, nc_32, nc_40, nc_64, nc_104, nc_120, nc_160, nc_256, nc_300, nc_330, nc_390, nc_1200, nc_1260, nc_3012, nc_9834, okSt_1i, okSt_1r, okSt_1n, List.length_cons, List.length_nil, xpk_succ cd_311_6, xpk_succ cd_311_8, xpk_succ cd_311_9, xpk_succ cd_311_10, xpk_succ cd_311_13, xpk_succ cd_311_15, xpk_succ cd_311_17, xpk_succ cd_311_18, xpk_succ cd_311_20, xpk_succ cd_311_22, xpk_succ cd_311_24, xpk_succ cd_311_26, xpk_succ cd_311_28, xpk_succ cd_311_31, xpk_succ cd_311_33, c]
    exact y.2
  | succ n ih =>
    intro a b l8 l9 hb hz
    by_cases z : b = 0
    · have y : h = h ∧ ∃ g : Int, some (vL a) = some (vL g) ∧ g ≠ 0 := ⟨rfl, a, rfl, by omega⟩
      have c := lc_0 z
      refine xpk_sound (stops := []) (n := 20) ?_
      simp only [sk_0, sk_1, sk_2, sk_3, sk_4, sk_5, sk_6, sk_7, sk_8, sk_iadd, sk_isub, sk_imul, sk_iand, sk_ior, sk_ixor, sk_ishl, sk_ishr, sk_iushr, sk_idiv, sk_irem, sk_ineg, sk_ladd, sk_lsub, sk_lmul, sk_land, sk_lor, sk_ldiv, sk_lrem, sk_lneg, sk_lshl, sk_lshr, sk_i2l, sk_l2i, sk_lcmp, sk_dupI, sk_dupR, sk_dup2L, sk_dup2I, sk_popI, sk_ifeq, sk_ifne, sk_iflt, sk_ifge, sk_ifgt, sk_ifle, sk_iceq, sk_icne, sk_iclt, sk_icge, sk_icgt, sk_icle, sk_goto, sk_getf, sk_putf, sk_gets, sk_iald, sk_lald, sk_bald, sk_aald, sk_iast, sk_last, sk_bast, sk_aast, sk_alen, sk_newa, sk_newt, sk_new, sk_cs1, sk_cs2, sk_cs3, sk_cs4, sk_cs5, sk_cs6, sk_cv1, sk_cv2, sk_cv3, sk_cv4, sk_cv5, sk_cv6, sk_ci1, sk_ci2, sk_ci3, sk_ret0, sk_retI, sk_retL, sk_retR, sk_sw, sk_oin, sk_max, sk_min, sk_abs, lI_0, lI_s, lL_0, lL_s, lR_0, lR_s, vIo_e, vLo_e, vOo_e, stW_I, stW_L, stW_R, stW_0, stW_z, okSt_0, okSt_s, hV_eq, hK_eq, okF_0, okF_1, okF_3, is01_0, is01_1, is01_i, Int.toNat_natCast, Int.reduceEq, Int.reduceLE, Int.reduceLT, Int.reduceNeg, Nat.reduceLT, not_true_eq_false, not_false_eq_true, reduceIte, Option.toList, List.cons_append, List.nil_append, List.set_cons_zero, List.set_cons_succ, List.not_mem_nil, List.mem_cons, if_false, if_true, ite_true, ite_false, and_self, and_true, true_and, Nat.reduceAdd, Nat.reduceLeDiff, Nat.reduceEqDiff, Nat.zero_add, Nat.le_refl, Nat.zero_le, or_false, false_or, Int.reduceToNat, or_true, true_or, eq_self, and_false, false_and, inR_d, nc_4, nc_5, nc_6, nc_7, nc_8, nc_16, nc_18, nc_20, nc_24, nc_32, nc_40, nc_64, nc_104, nc_120, nc_160, nc_256, nc_300, nc_330, nc_390, nc_1200, nc_1260, nc_3012, nc_9834, okSt_1i, okSt_1r, okSt_1n, List.length_cons, List.length_nil, xpk_succ cd_311_6, xpk_succ cd_311_8, xpk_succ cd_311_9, xpk_succ cd_311_10, xpk_succ cd_311_13, xpk_succ cd_311_15, xpk_succ cd_311_17, xpk_succ cd_311_18, xpk_succ cd_311_20, xpk_succ cd_311_22, xpk_succ cd_311_24, xpk_succ cd_311_26, xpk_succ cd_311_28, xpk_succ cd_311_31, xpk_succ cd_311_33, c]
      exact y.2
    · have y := ih b (a.tmod b) (some (vL (a.tmod b))) none (by have := tm_lt (a := a) z; omega) (Or.inl z)
      have c := lc_1 z
      refine xpk_sound (stops := [6]) (n := 20) ?_
      simp only [sk_0, sk_1, sk_2, sk_3, sk_4, sk_5, sk_6, sk_7, sk_8, sk_iadd, sk_isub, sk_imul, sk_iand, sk_ior, sk_ixor, sk_ishl, sk_ishr, sk_iushr, sk_idiv, sk_irem, sk_ineg, sk_ladd, sk_lsub, sk_lmul, sk_land, sk_lor, sk_ldiv, sk_lrem, sk_lneg, sk_lshl, sk_lshr, sk_i2l, sk_l2i, sk_lcmp, sk_dupI, sk_dupR, sk_dup2L, sk_dup2I, sk_popI, sk_ifeq, sk_ifne, sk_iflt, sk_ifge, sk_ifgt, sk_ifle, sk_iceq, sk_icne, sk_iclt, sk_icge, sk_icgt, sk_icle, sk_goto, sk_getf, sk_putf, sk_gets, sk_iald, sk_lald, sk_bald, sk_aald, sk_iast, sk_last, sk_bast, sk_aast, sk_alen, sk_newa, sk_newt, sk_new, sk_cs1, sk_cs2, sk_cs3, sk_cs4, sk_cs5, sk_cs6, sk_cv1, sk_cv2, sk_cv3, sk_cv4, sk_cv5, sk_cv6, sk_ci1, sk_ci2, sk_ci3, sk_ret0, sk_retI, sk_retL, sk_retR, sk_sw, sk_oin, sk_max, sk_min, sk_abs, lI_0, lI_s, lL_0, lL_s, lR_0, lR_s, vIo_e, vLo_e, vOo_e, stW_I, stW_L, stW_R, stW_0, stW_z, okSt_0, okSt_s, hV_eq, hK_eq, okF_0, okF_1, okF_3, is01_0, is01_1, is01_i, Int.toNat_natCast, Int.reduceEq, Int.reduceLE, Int.reduceLT, Int.reduceNeg, Nat.reduceLT, not_true_eq_false, not_false_eq_true, reduceIte, Option.toList, List.cons_append, List.nil_append, List.set_cons_zero, List.set_cons_succ, List.not_mem_nil, List.mem_cons, if_false, if_true, ite_true, ite_false, and_self, and_true, true_and, Nat.reduceAdd, Nat.reduceLeDiff, Nat.reduceEqDiff, Nat.zero_add, Nat.le_refl, Nat.zero_le, or_false, false_or, Int.reduceToNat, or_true, true_or, eq_self, and_false, false_and, inR_d, nc_4, nc_5, nc_6, nc_7, nc_8, nc_16, nc_18, nc_20, nc_24, nc_32, nc_40, nc_64, nc_104, nc_120, nc_160, nc_256, nc_300, nc_330, nc_390, nc_1200, nc_1260, nc_3012, nc_9834, okSt_1i, okSt_1r, okSt_1n, List.length_cons, List.length_nil, xpk_succ cd_311_6, xpk_succ cd_311_8, xpk_succ cd_311_9, xpk_succ cd_311_10, xpk_succ cd_311_13, xpk_succ cd_311_15, xpk_succ cd_311_17, xpk_succ cd_311_18, xpk_succ cd_311_20, xpk_succ cd_311_22, xpk_succ cd_311_24, xpk_succ cd_311_26, xpk_succ cd_311_28, c, z]
      exact y
/-- what two numbers have in common isn't nothing, unless both are nothing -/
theorem X_cm {d : Nat} {h : AH} {x y : Int} (hz : y ≠ 0) : ∃ g : Int, g ≠ 0 ∧ ∀ Q : Option AV → AH → Prop, XC (d + 1) 311 [vL x, vL y] h Q = Q (some (vL g)) h := by
  have q0 : XC (d + 1) 311 [vL x, vL y] h (fun r h' => h' = h ∧ ∃ g : Int, r = some (vL g) ∧ g ≠ 0) := by
    refine XC_of (Nat.le_of_ble_eq_true rfl) ?_
    show XP d 311 0 [some (vL x), none, some (vL y), none, none, none, none, none, none, none] [] h _
    have y := cm_l (d := d) (h := h) (x0 := x) (y0 := y) y.natAbs x y none none (Nat.le_refl _) (Or.inr hz)
    refine xpk_sound (stops := [6]) (n := 20) ?_
    simp only [sk_0, sk_1, sk_2, sk_3, sk_4, sk_5, sk_6, sk_7, sk_8, sk_iadd, sk_isub, sk_imul, sk_iand, sk_ior, sk_ixor, sk_ishl, sk_ishr, sk_iushr, sk_idiv, sk_irem, sk_ineg, sk_ladd, sk_lsub, sk_lmul, sk_land, sk_lor, sk_ldiv, sk_lrem, sk_lneg, sk_lshl, sk_lshr, sk_i2l, sk_l2i, sk_lcmp, sk_dupI, sk_dupR, sk_dup2L, sk_dup2I, sk_popI, sk_ifeq, sk_ifne, sk_iflt, sk_ifge, sk_ifgt, sk_ifle, sk_iceq, sk_icne, sk_iclt, sk_icge, sk_icgt, sk_icle, sk_goto, sk_getf, sk_putf, sk_gets, sk_iald, sk_lald, sk_bald, sk_aald, sk_iast, sk_last, sk_bast, sk_aast, sk_alen, sk_newa, sk_newt, sk_new, sk_cs1, sk_cs2, sk_cs3, sk_cs4, sk_cs5, sk_cs6, sk_cv1, sk_cv2, sk_cv3, sk_cv4, sk_cv5, sk_cv6, sk_ci1, sk_ci2, sk_ci3, sk_ret0, sk_retI, sk_retL, sk_retR, sk_sw, sk_oin, sk_max, sk_min, sk_abs, lI_0, lI_s, lL_0, lL_s, lR_0, lR_s, vIo_e, vLo_e, vOo_e, stW_I, stW_L, stW_R, stW_0, stW_z, okSt_0, okSt_s, hV_eq, hK_eq, okF_0, okF_1, okF_3, is01_0, is01_1, is01_i, Int.toNat_natCast, Int.reduceEq, Int.reduceLE, Int.reduceLT, Int.reduceNeg, Nat.reduceLT, not_true_eq_false, not_false_eq_true, reduceIte, Option.toList, List.cons_append, List.nil_append, List.set_cons_zero, List.set_cons_succ, List.not_mem_nil, List.mem_cons, if_false, if_true, ite_true, ite_false, and_self, and_true, true_and, Nat.reduceAdd, Nat.reduceLeDiff, Nat.reduceEqDiff, Nat.zero_add, Nat.le_refl, Nat.zero_le, or_false, false_or, Int.reduceToNat, or_true, true_or, eq_self, and_false, false_and, inR_d, nc_4, nc_5, nc_6, nc_7, nc_8, nc_16, nc_18, nc_20, nc_24, nc_32, nc_40, nc_64, nc_104, nc_120, nc_160, nc_256, nc_300, nc_330, nc_390, nc_1200, nc_1260, nc_3012, nc_9834, okSt_1i, okSt_1r, okSt_1n, List.length_cons, List.length_nil, xpk_succ cd_311_0, xpk_succ cd_311_1, xpk_succ cd_311_3, xpk_succ cd_311_4]
    exact y
  obtain ⟨r, h', ⟨rfl, g, rfl, hg⟩, e⟩ := XC_dt q0
  exact ⟨g, hg, e⟩
theorem w64_q (z : Int) : -9223372036854775808 ≤ w64 z ∧ w64 z ≤ 9223372036854775807 := by unfold w64; omega
theorem w32_q (z : Int) : -2147483648 ≤ w32 z ∧ w32 z ≤ 2147483647 := by unfold w32; omega
theorem jp_67 : rg0 jp77[6]? = (false, 0, 8) ∧ rg0 jp77[7]? = (false, 0, 20000) := by decide +kernel
def LFd (h : AH) (r : Option AV) (h' : AH) : Prop := h' = h ∧ ∃ g : Int, r = some (vL g) ∧ -9223372036854775808 ≤ g ∧ g ≤ 9223372036854775807
set_option maxHeartbeats 4000000 in
theorem lf_l {d : Nat} {h : AH} (ho : AO h) (v : ∀ i, i < 9834 → hV h 77 i = vI (aF h i)) (h6 : 0 ≤ aF h 6 ∧ aF h 6 ≤ 8) {s : Int} (hs : s = 0 ∨ s = 1) : ∀ (n k : Nat) (x y : Int) (l7 l8 : Option AV), k + n = 8 → XP (d + 2) 312 8 [some (vR 76), some (vI s), some (vL x), none, some (vL y), none, some (vI (k : Int)), l7, l8] [] h (LFd h) := by
  have o1 := ho.1
  have o2 := ho.2.1
  have o3 := ho.2.2
  have v6 := v 6 (by decide)
  have EX : ∀ (k : Nat) (x y : Int) (l7 l8 : Option AV), aF h 6 ≤ (k : Int) → XP (d + 2) 312 8 [some (vR 76), some (vI s), some (vL x), none, some (vL y), none, some (vI (k : Int)), l7, l8] [] h (LFd h) := by
    intro k x y l7 l8 z
    by_cases c : w64 (x + y) = 0
    · have c := lc_0 c
      have y0 : LFd h (some (vL 0)) h := ⟨rfl, 0, rfl, by decide, by decide⟩
      have y1 : LFd h (some (vL 1)) h := ⟨rfl, 1, rfl, by decide, by decide⟩
      rcases hs with rfl | rfl
      · refine xpk_sound (stops := []) (n := 40) ?_
        simp only [sk_0, sk_1, sk_2, sk_3, sk_4, sk_5, sk_6, sk_7, sk_8, sk_iadd, sk_isub, sk_imul, sk_iand, sk_ior, sk_ixor, sk_ishl, sk_ishr, sk_iushr, sk_idiv, sk_irem, sk_ineg, sk_ladd, sk_lsub, sk_lmul, sk_land, sk_lor, sk_ldiv, sk_lrem, sk_lneg, sk_lshl, sk_lshr, sk_i2l, sk_l2i, sk_lcmp, sk_dupI, sk_dupR, sk_dup2L, sk_dup2I, sk_popI, sk_ifeq, sk_ifne, sk_iflt, sk_ifge, sk_ifgt, sk_ifle, sk_iceq, sk_icne, sk_iclt, sk_icge, sk_icgt, sk_icle, sk_goto, sk_getf, sk_putf, sk_gets, sk_iald, sk_lald, sk_bald, sk_aald, sk_iast, sk_last, sk_bast, sk_aast, sk_alen, sk_newa, sk_newt, sk_new, sk_cs1, sk_cs2, sk_cs3, sk_cs4, sk_cs5, sk_cs6, sk_cv1, sk_cv2, sk_cv3, sk_cv4, sk_cv5, sk_cv6, sk_ci1, sk_ci2, sk_ci3, sk_ret0, sk_retI, sk_retL, sk_retR, sk_sw, sk_oin, sk_max, sk_min, sk_abs, lI_0, lI_s, lL_0, lL_s, lR_0, lR_s, vIo_e, vLo_e, vOo_e, stW_I, stW_L, stW_R, stW_0, stW_z, okSt_0, okSt_s, hV_eq, hK_eq, okF_0, okF_1, okF_3, is01_0, is01_1, is01_i, Int.toNat_natCast, Int.reduceEq, Int.reduceLE, Int.reduceLT, Int.reduceNeg, Nat.reduceLT, not_true_eq_false, not_false_eq_true, reduceIte, Option.toList, List.cons_append, List.nil_append, List.set_cons_zero, List.set_cons_succ, List.not_mem_nil, List.mem_cons, if_false, if_true, ite_true, ite_false, and_self, and_true, true_and, Nat.reduceAdd, Nat.reduceLeDiff, Nat.reduceEqDiff, Nat.zero_add, Nat.le_refl, Nat.zero_le, or_false, false_or, Int.reduceToNat, or_true, true_or, eq_self, and_false, false_and, inR_d, nc_4, nc_5, nc_6, nc_7, nc_8, nc_16, nc_18, nc_20, nc_24, nc_32, nc_40, nc_64, nc_104, nc_120, nc_160, nc_256, nc_300, nc_330, nc_390, nc_1200, nc_1260, nc_3012, nc_9834, okSt_1i, okSt_1r, okSt_1n, List.length_cons, List.length_nil, xpk_succ cd_312_8, xpk_succ cd_312_10, xpk_succ cd_312_11, xpk_succ cd_312_14, xpk_succ cd_312_16, xpk_succ cd_312_17, xpk_succ cd_312_107, xpk_succ cd_312_108, xpk_succ cd_312_110, xpk_succ cd_312_111, xpk_succ cd_312_112, xpk_succ cd_312_113, xpk_succ cd_312_116, xpk_succ cd_312_117, xpk_succ cd_312_120, xpk_succ cd_312_121, xpk_succ cd_312_124, xpk_succ cd_312_125, o1, o2, o3, v6, z, c]
        exact y0
      · refine xpk_sound (stops := []) (n := 40) ?_
        simp only [sk_0, sk_1, sk_2, sk_3, sk_4, sk_5, sk_6, sk_7, sk_8, sk_iadd, sk_isub, sk_imul, sk_iand, sk_ior, sk_ixor, sk_ishl, sk_ishr, sk_iushr, sk_idiv, sk_irem, sk_ineg, sk_ladd, sk_lsub, sk_lmul, sk_land, sk_lor, sk_ldiv, sk_lrem, sk_lneg, sk_lshl, sk_lshr, sk_i2l, sk_l2i, sk_lcmp, sk_dupI, sk_dupR, sk_dup2L, sk_dup2I, sk_popI, sk_ifeq, sk_ifne, sk_iflt, sk_ifge, sk_ifgt, sk_ifle, sk_iceq, sk_icne, sk_iclt, sk_icge, sk_icgt, sk_icle, sk_goto, sk_getf, sk_putf, sk_gets, sk_iald, sk_lald, sk_bald, sk_aald, sk_iast, sk_last, sk_bast, sk_aast, sk_alen, sk_newa, sk_newt, sk_new, sk_cs1, sk_cs2, sk_cs3, sk_cs4, sk_cs5, sk_cs6, sk_cv1, sk_cv2, sk_cv3, sk_cv4, sk_cv5, sk_cv6, sk_ci1, sk_ci2, sk_ci3, sk_ret0, sk_retI, sk_retL, sk_retR, sk_sw, sk_oin, sk_max, sk_min, sk_abs, lI_0, lI_s, lL_0, lL_s, lR_0, lR_s, vIo_e, vLo_e, vOo_e, stW_I, stW_L, stW_R, stW_0, stW_z, okSt_0, okSt_s, hV_eq, hK_eq, okF_0, okF_1, okF_3, is01_0, is01_1, is01_i, Int.toNat_natCast, Int.reduceEq, Int.reduceLE, Int.reduceLT, Int.reduceNeg, Nat.reduceLT, not_true_eq_false, not_false_eq_true, reduceIte, Option.toList, List.cons_append, List.nil_append, List.set_cons_zero, List.set_cons_succ, List.not_mem_nil, List.mem_cons, if_false, if_true, ite_true, ite_false, and_self, and_true, true_and, Nat.reduceAdd, Nat.reduceLeDiff, Nat.reduceEqDiff, Nat.zero_add, Nat.le_refl, Nat.zero_le, or_false, false_or, Int.reduceToNat, or_true, true_or, eq_self, and_false, false_and, inR_d, nc_4, nc_5, nc_6, nc_7, nc_8, nc_16, nc_18, nc_20, nc_24, nc_32, nc_40, nc_64, nc_104, nc_120, nc_160, nc_256, nc_300, nc_330, nc_390, nc_1200, nc_1260, nc_3012, nc_9834, okSt_1i, okSt_1r, okSt_1n, List.length_cons, List.length_nil, xpk_succ cd_312_8, xpk_succ cd_312_10, xpk_succ cd_312_11, xpk_succ cd_312_14, xpk_succ cd_312_16, xpk_succ cd_312_17, xpk_succ cd_312_107, xpk_succ cd_312_108, xpk_succ cd_312_110, xpk_succ cd_312_111, xpk_succ cd_312_112, xpk_succ cd_312_113, xpk_succ cd_312_116, xpk_succ cd_312_117, xpk_succ cd_312_120, xpk_succ cd_312_121, xpk_succ cd_312_124, xpk_succ cd_312_125, o1, o2, o3, v6, z, c]
        exact y1
    · obtain ⟨g, hg, e⟩ := X_cm (d := d + 1) (h := h) (x := x) c
      have c := lc_1 c
      have y0 : ∀ z, LFd h (some (vL (w64 z))) h := fun z => ⟨rfl, _, rfl, (w64_q z).1, (w64_q z).2⟩
      rcases hs with rfl | rfl
      · refine xpk_sound (stops := []) (n := 50) ?_
        simp only [sk_0, sk_1, sk_2, sk_3, sk_4, sk_5, sk_6, sk_7, sk_8, sk_iadd, sk_isub, sk_imul, sk_iand, sk_ior, sk_ixor, sk_ishl, sk_ishr, sk_iushr, sk_idiv, sk_irem, sk_ineg, sk_ladd, sk_lsub, sk_lmul, sk_land, sk_lor, sk_ldiv, sk_lrem, sk_lneg, sk_lshl, sk_lshr, sk_i2l, sk_l2i, sk_lcmp, sk_dupI, sk_dupR, sk_dup2L, sk_dup2I, sk_popI, sk_ifeq, sk_ifne, sk_iflt, sk_ifge, sk_ifgt, sk_ifle, sk_iceq, sk_icne, sk_iclt, sk_icge, sk_icgt, sk_icle, sk_goto, sk_getf, sk_putf, sk_gets, sk_iald, sk_lald, sk_bald, sk_aald, sk_iast, sk_last, sk_bast, sk_aast, sk_alen, sk_newa, sk_newt, sk_new, sk_cs1, sk_cs2, sk_cs3, sk_cs4, sk_cs5, sk_cs6, sk_cv1, sk_cv2, sk_cv3, sk_cv4, sk_cv5, sk_cv6, sk_ci1, sk_ci2, sk_ci3, sk_ret0, sk_retI, sk_retL, sk_retR, sk_sw, sk_oin, sk_max, sk_min, sk_abs, lI_0, lI_s, lL_0, lL_s, lR_0, lR_s, vIo_e, vLo_e, vOo_e, stW_I, stW_L, stW_R, stW_0, stW_z, okSt_0, okSt_s, hV_eq, hK_eq, okF_0, okF_1, okF_3, is01_0, is01_1, is01_i, Int.toNat_natCast, Int.reduceEq, Int.reduceLE, Int.reduceLT, Int.reduceNeg, Nat.reduceLT, not_true_eq_false, not_false_eq_true, reduceIte, Option.toList, List.cons_append, List.nil_append, List.set_cons_zero, List.set_cons_succ, List.not_mem_nil, List.mem_cons, if_false, if_true, ite_true, ite_false, and_self, and_true, true_and, Nat.reduceAdd, Nat.reduceLeDiff, Nat.reduceEqDiff, Nat.zero_add, Nat.le_refl, Nat.zero_le, or_false, false_or, Int.reduceToNat, or_true, true_or, eq_self, and_false, false_and, inR_d, nc_4, nc_5, nc_6, nc_7, nc_8, nc_16, nc_18, nc_20, nc_24, nc_32, nc_40, nc_64, nc_104, nc_120, nc_160, nc_256, nc_300, nc_330, nc_390, nc_1200, nc_1260, nc_3012, nc_9834, okSt_1i, okSt_1r, okSt_1n, List.length_cons, List.length_nil, xpk_succ cd_312_8, xpk_succ cd_312_10, xpk_succ cd_312_11, xpk_succ cd_312_14, xpk_succ cd_312_16, xpk_succ cd_312_17, xpk_succ cd_312_107, xpk_succ cd_312_108, xpk_succ cd_312_110, xpk_succ cd_312_111, xpk_succ cd_312_112, xpk_succ cd_312_113, xpk_succ cd_312_116, xpk_succ cd_312_117, xpk_succ cd_312_120, xpk_succ cd_312_121, xpk_succ cd_312_124, xpk_succ cd_312_125, xpk_succ cd_312_126, xpk_succ cd_312_127, xpk_succ cd_312_130, xpk_succ cd_312_131, xpk_succ cd_312_133, xpk_succ cd_312_134, xpk_succ cd_312_137, xpk_succ cd_312_138, xpk_succ cd_312_139, xpk_succ cd_312_140, xpk_succ cd_312_142, xpk_succ cd_312_143, xpk_succ cd_312_146, xpk_succ cd_312_147, o1, o2, o3, v6, z, c, e, hg]
        exact y0 _
      · refine xpk_sound (stops := []) (n := 50) ?_
        simp only [sk_0, sk_1, sk_2, sk_3, sk_4, sk_5, sk_6, sk_7, sk_8, sk_iadd, sk_isub, sk_imul, sk_iand, sk_ior, sk_ixor, sk_ishl, sk_ishr, sk_iushr, sk_idiv, sk_irem, sk_ineg, sk_ladd, sk_lsub, sk_lmul, sk_land, sk_lor, sk_ldiv, sk_lrem, sk_lneg, sk_lshl, sk_lshr, sk_i2l, sk_l2i, sk_lcmp, sk_dupI, sk_dupR, sk_dup2L, sk_dup2I, sk_popI, sk_ifeq, sk_ifne, sk_iflt, sk_ifge, sk_ifgt, sk_ifle, sk_iceq, sk_icne, sk_iclt, sk_icge, sk_icgt, sk_icle, sk_goto, sk_getf, sk_putf, sk_gets, sk_iald, sk_lald, sk_bald, sk_aald, sk_iast, sk_last, sk_bast, sk_aast, sk_alen, sk_newa, sk_newt, sk_new, sk_cs1, sk_cs2, sk_cs3, sk_cs4, sk_cs5, sk_cs6, sk_cv1, sk_cv2, sk_cv3, sk_cv4, sk_cv5, sk_cv6, sk_ci1, sk_ci2, sk_ci3, sk_ret0, sk_retI, sk_retL, sk_retR, sk_sw, sk_oin, sk_max, sk_min, sk_abs, lI_0, lI_s, lL_0, lL_s, lR_0, lR_s, vIo_e, vLo_e, vOo_e, stW_I, stW_L, stW_R, stW_0, stW_z, okSt_0, okSt_s, hV_eq, hK_eq, okF_0, okF_1, okF_3, is01_0, is01_1, is01_i, Int.toNat_natCast, Int.reduceEq, Int.reduceLE, Int.reduceLT, Int.reduceNeg, Nat.reduceLT, not_true_eq_false, not_false_eq_true, reduceIte, Option.toList, List.cons_append, List.nil_append, List.set_cons_zero, List.set_cons_succ, List.not_mem_nil, List.mem_cons, if_false, if_true, ite_true, ite_false, and_self, and_true, true_and, Nat.reduceAdd, Nat.reduceLeDiff, Nat.reduceEqDiff, Nat.zero_add, Nat.le_refl, Nat.zero_le, or_false, false_or, Int.reduceToNat, or_true, true_or, eq_self, and_false, false_and, inR_d, nc_4, nc_5, nc_6, nc_7, nc_8, nc_16, nc_18, nc_20, nc_24, nc_32, nc_40, nc_64, nc_104, nc_120, nc_160, nc_256, nc_300, nc_330, nc_390, nc_1200, nc_1260, nc_3012, nc_9834, okSt_1i, okSt_1r, okSt_1n, List.length_cons, List.length_nil, xpk_succ cd_312_8, xpk_succ cd_312_10, xpk_succ cd_312_11, xpk_succ cd_312_14, xpk_succ cd_312_16, xpk_succ cd_312_17, xpk_succ cd_312_107, xpk_succ cd_312_108, xpk_succ cd_312_110, xpk_succ cd_312_111, xpk_succ cd_312_112, xpk_succ cd_312_113, xpk_succ cd_312_116, xpk_succ cd_312_117, xpk_succ cd_312_120, xpk_succ cd_312_121, xpk_succ cd_312_124, xpk_succ cd_312_125, xpk_succ cd_312_126, xpk_succ cd_312_127, xpk_succ cd_312_130, xpk_succ cd_312_131, xpk_succ cd_312_133, xpk_succ cd_312_134, xpk_succ cd_312_137, xpk_succ cd_312_138, xpk_succ cd_312_139, xpk_succ cd_312_140, xpk_succ cd_312_142, xpk_succ cd_312_143, xpk_succ cd_312_146, xpk_succ cd_312_147, o1, o2, o3, v6, z, c, e, hg]
        exact y0 _
  intro n
  induction n with
  | zero => intro k x y l7 l8 hk; exact EX k x y l7 l8 (by omega)
  | succ n ih =>
    intro k x y l7 l8 hk
    by_cases z : aF h 6 ≤ (k : Int)
    · exact EX k x y l7 l8 z
    have a1 : w32 (2 * (k : Int)) = ((2 * k : Nat) : Int) := by unfold w32; omega
    have a2 : w32 (68 + ((2 * k : Nat) : Int)) = ((68 + 2 * k : Nat) : Int) := by unfold w32; omega
    have a3 : w32 (((68 + 2 * k : Nat) : Int) + 1) = ((68 + 2 * k + 1 : Nat) : Int) := by unfold w32; omega
    have a4 : w32 ((k : Int) + 1) = ((k + 1 : Nat) : Int) := by unfold w32; omega
    have b2 : (0 : Int) ≤ ((68 + 2 * k : Nat) : Int) ∧ ((68 + 2 * k : Nat) : Int) < 9834 := by omega
    have b3 : (0 : Int) ≤ ((68 + 2 * k + 1 : Nat) : Int) ∧ ((68 + 2 * k + 1 : Nat) : Int) < 9834 := by omega
    have v2 := v (68 + 2 * k) (by omega)
    have v3 := v (68 + 2 * k + 1) (by omega)
    have y := fun x y l7 l8 => ih (k + 1) x y l7 l8 (by omega)
    by_cases c : aF h (68 + 2 * k + 1) = 1
    · refine xpk_sound (stops := [8]) (n := 70) ?_
      simp only [sk_0, sk_1, sk_2, sk_3, sk_4, sk_5, sk_6, sk_7, sk_8, sk_iadd, sk_isub, sk_imul, sk_iand, sk_ior, sk_ixor, sk_ishl, sk_ishr, sk_iushr, sk_idiv, sk_irem, sk_ineg, sk_ladd, sk_lsub, sk_lmul, sk_land, sk_lor, sk_ldiv, sk_lrem, sk_lneg, sk_lshl, sk_lshr, sk_i2l, sk_l2i, sk_lcmp, sk_dupI, sk_dupR, sk_dup2L, sk_dup2I, sk_popI, sk_ifeq, sk_ifne, sk_iflt, sk_ifge, sk_ifgt, sk_ifle, sk_iceq, sk_icne, sk_iclt, sk_icge, sk_icgt, sk_icle, sk_goto, sk_getf, sk_putf, sk_gets, sk_iald, sk_lald, sk_bald, sk_aald, sk_iast, sk_last, sk_bast, sk_aast, sk_alen, sk_newa, sk_newt, sk_new, sk_cs1, sk_cs2, sk_cs3, sk_cs4, sk_cs5, sk_cs6, sk_cv1, sk_cv2, sk_cv3, sk_cv4, sk_cv5, sk_cv6, sk_ci1, sk_ci2, sk_ci3, sk_ret0, sk_retI, sk_retL, sk_retR, sk_sw, sk_oin, sk_max, sk_min, sk_abs, lI_0, lI_s, lL_0, lL_s, lR_0, lR_s, vIo_e, vLo_e, vOo_e, stW_I, stW_L, stW_R, stW_0, stW_z, okSt_0, okSt_s, hV_eq, hK_eq, okF_0, okF_1, okF_3, is01_0, is01_1, is01_i, Int.toNat_natCast, Int.reduceEq, Int.reduceLE, Int.reduceLT, Int.reduceNeg, Nat.reduceLT, not_true_eq_false, not_false_eq_true, reduceIte, Option.toList, List.cons_append, List.nil_append, List.set_cons_zero, List.set_cons_succ, List.not_mem_nil, List.mem_cons, if_false, if_true, ite_true, ite_false, and_self, and_true, true_and, Nat.reduceAdd, Nat.reduceLeDiff, Nat.reduceEqDiff, Nat.zero_add, Nat.le_refl, Nat.zero_le, or_false, false_or, Int.reduceToNat, or_true, true_or, eq_self, and_false, false_and, inR_d, nc_4, nc_5, nc_6, nc_7, nc_8, nc_16, nc_18, nc_20, nc_24, nc_32, nc_40, nc_64, nc_104, nc_120, nc_160, nc_256, nc_300, nc_330, nc_390, nc_1200, nc_1260, nc_3012, nc_9834, okSt_1i, okSt_1r, okSt_1n, List.length_cons, List.length_nil, xpk_succ cd_312_8, xpk_succ cd_312_10, xpk_succ cd_312_11, xpk_succ cd_312_14, xpk_succ cd_312_16, xpk_succ cd_312_17, xpk_succ cd_312_20, xpk_succ cd_312_21, xpk_succ cd_312_24, xpk_succ cd_312_26, xpk_succ cd_312_27, xpk_succ cd_312_29, xpk_succ cd_312_30, xpk_succ cd_312_31, xpk_succ cd_312_32, xpk_succ cd_312_34, xpk_succ cd_312_35, xpk_succ cd_312_38, xpk_succ cd_312_40, xpk_succ cd_312_41, xpk_succ cd_312_43, xpk_succ cd_312_44, xpk_succ cd_312_45, xpk_succ cd_312_46, xpk_succ cd_312_47, xpk_succ cd_312_48, xpk_succ cd_312_49, xpk_succ cd_312_52, xpk_succ cd_312_53, xpk_succ cd_312_56, xpk_succ cd_312_57, xpk_succ cd_312_59, xpk_succ cd_312_60, xpk_succ cd_312_62, xpk_succ cd_312_65, xpk_succ cd_312_67, xpk_succ cd_312_68, xpk_succ cd_312_71, xpk_succ cd_312_73, xpk_succ cd_312_75, xpk_succ cd_312_76, xpk_succ cd_312_77, xpk_succ cd_312_78, xpk_succ cd_312_79, xpk_succ cd_312_81, xpk_succ cd_312_83, xpk_succ cd_312_86, xpk_succ cd_312_88, xpk_succ cd_312_90, xpk_succ cd_312_91, xpk_succ cd_312_92, xpk_succ cd_312_95, xpk_succ cd_312_97, xpk_succ cd_312_98, xpk_succ cd_312_99, xpk_succ cd_312_101, xpk_succ cd_312_104, o1, o2, o3, v6, z, c, a1, a2, a3, a4, b2, b3, v2, v3]
      exact y _ _ _ _
    · refine xpk_sound (stops := [8]) (n := 70) ?_
      simp only [sk_0, sk_1, sk_2, sk_3, sk_4, sk_5, sk_6, sk_7, sk_8, sk_iadd, sk_isub, sk_imul, sk_iand, sk_ior, sk_ixor, sk_ishl, sk_ishr, sk_iushr, sk_idiv, sk_irem, sk_ineg, sk_ladd, sk_lsub, sk_lmul, sk_land, sk_lor, sk_ldiv, sk_lrem, sk_lneg, sk_lshl, sk_lshr, sk_i2l, sk_l2i, sk_lcmp, sk_dupI, sk_dupR, sk_dup2L, sk_dup2I, sk_popI, sk_ifeq, sk_ifne, sk_iflt, sk_ifge, sk_ifgt, sk_ifle, sk_iceq, sk_icne, sk_iclt, sk_icge, sk_icgt, sk_icle, sk_goto, sk_getf, sk_putf, sk_gets, sk_iald, sk_lald, sk_bald, sk_aald, sk_iast, sk_last, sk_bast, sk_aast, sk_alen, sk_newa, sk_newt, sk_new, sk_cs1, sk_cs2, sk_cs3, sk_cs4, sk_cs5, sk_cs6, sk_cv1, sk_cv2, sk_cv3, sk_cv4, sk_cv5, sk_cv6, sk_ci1, sk_ci2, sk_ci3, sk_ret0, sk_retI, sk_retL, sk_retR, sk_sw, sk_oin, sk_max, sk_min, sk_abs, lI_0, lI_s, lL_0, lL_s, lR_0, lR_s, vIo_e, vLo_e, vOo_e, stW_I, stW_L, stW_R, stW_0, stW_z, okSt_0, okSt_s, hV_eq, hK_eq, okF_0, okF_1, okF_3, is01_0, is01_1, is01_i, Int.toNat_natCast, Int.reduceEq, Int.reduceLE, Int.reduceLT, Int.reduceNeg, Nat.reduceLT, not_true_eq_false, not_false_eq_true, reduceIte, Option.toList, List.cons_append, List.nil_append, List.set_cons_zero, List.set_cons_succ, List.not_mem_nil, List.mem_cons, if_false, if_true, ite_true, ite_false, and_self, and_true, true_and, Nat.reduceAdd, Nat.reduceLeDiff, Nat.reduceEqDiff, Nat.zero_add, Nat.le_refl, Nat.zero_le, or_false, false_or, Int.reduceToNat, or_true, true_or, eq_self, and_false, false_and, inR_d, nc_4, nc_5, nc_6, nc_7, nc_8, nc_16, nc_18, nc_20, nc_24, nc_32, nc_40, nc_64, nc_104, nc_120, nc_160, nc_256, nc_300, nc_330, nc_390, nc_1200, nc_1260, nc_3012, nc_9834, okSt_1i, okSt_1r, okSt_1n, List.length_cons, List.length_nil, xpk_succ cd_312_8, xpk_succ cd_312_10, xpk_succ cd_312_11, xpk_succ cd_312_14, xpk_succ cd_312_16, xpk_succ cd_312_17, xpk_succ cd_312_20, xpk_succ cd_312_21, xpk_succ cd_312_24, xpk_succ cd_312_26, xpk_succ cd_312_27, xpk_succ cd_312_29, xpk_succ cd_312_30, xpk_succ cd_312_31, xpk_succ cd_312_32, xpk_succ cd_312_34, xpk_succ cd_312_35, xpk_succ cd_312_38, xpk_succ cd_312_40, xpk_succ cd_312_41, xpk_succ cd_312_43, xpk_succ cd_312_44, xpk_succ cd_312_45, xpk_succ cd_312_46, xpk_succ cd_312_47, xpk_succ cd_312_48, xpk_succ cd_312_49, xpk_succ cd_312_52, xpk_succ cd_312_53, xpk_succ cd_312_56, xpk_succ cd_312_57, xpk_succ cd_312_59, xpk_succ cd_312_60, xpk_succ cd_312_62, xpk_succ cd_312_65, xpk_succ cd_312_67, xpk_succ cd_312_68, xpk_succ cd_312_71, xpk_succ cd_312_73, xpk_succ cd_312_75, xpk_succ cd_312_76, xpk_succ cd_312_77, xpk_succ cd_312_78, xpk_succ cd_312_79, xpk_succ cd_312_81, xpk_succ cd_312_83, xpk_succ cd_312_86, xpk_succ cd_312_88, xpk_succ cd_312_90, xpk_succ cd_312_91, xpk_succ cd_312_92, xpk_succ cd_312_95, xpk_succ cd_312_97, xpk_succ cd_312_98, xpk_succ cd_312_99, xpk_succ cd_312_101, xpk_succ cd_312_104, o1, o2, o3, v6, z, c, a1, a2, a3, a4, b2, b3, v2, v3]
      exact y _ _ _ _
theorem hok312_0 {β : Nat} : KOK JB (W0 β) 312 hk312_0 := by
  intro d vs h Q hd ha hJ hW hp hQ
  obtain ⟨v1, t1, rfl, e1, v2, t2, rfl, e2, e3⟩ := ha
  have e1 : v1 = vR 76 := e1
  have e3 : t2 = [] := e3
  obtain ⟨s, rfl, s1, s2⟩ := e2
  have s1 : (0 : Int) ≤ s := s1
  have s2 : s ≤ 1 := s2
  subst e1 e3
  obtain ⟨d, rfl⟩ : ∃ d', d = d' + 3 := ⟨d - 3, by have hd : 6 ≤ d := hd; omega⟩
  have p6 := aF_p hJ (i := 6) (by decide)
  rw [jp_67.1] at p6
  have key := lf_l (d := d) (AO_J hJ) (aF_v hJ) (inI p6) (s := s) (by omega) 8 0 1 1 none none rfl
  have q0 : XC (d + 3) 312 [vR 76, vI s] h (LFd h) := by
    refine XC_of (Nat.le_of_ble_eq_true rfl) ?_
    show XP (d + 2) 312 0 [some (vR 76), some (vI s), none, none, none, none, none, none, none] [] h _
    refine xpk_sound (stops := [8]) (n := 20) ?_
    simp only [sk_0, sk_1, sk_2, sk_3, sk_4, sk_5, sk_6, sk_7, sk_8, sk_iadd, sk_isub, sk_imul, sk_iand, sk_ior, sk_ixor, sk_ishl, sk_ishr, sk_iushr, sk_idiv, sk_irem, sk_ineg, sk_ladd, sk_lsub, sk_lmul, sk_land, sk_lor, sk_ldiv, sk_lrem, sk_lneg, sk_lshl, sk_lshr, sk_i2l, sk_l2i, sk_lcmp, sk_dupI, sk_dupR, sk_dup2L, sk_dup2I, sk_popI, sk_ifeq, sk_ifne, sk_iflt, sk_ifge, sk_ifgt, sk_ifle, sk_iceq, sk_icne, sk_iclt, sk_icge, sk_icgt, sk_icle, sk_goto, sk_getf, sk_putf, sk_gets, sk_iald, sk_lald, sk_bald, sk_aald, sk_iast, sk_last, sk_bast, sk_aast, sk_alen, sk_newa, sk_newt, sk_new, sk_cs1, sk_cs2, sk_cs3, sk_cs4, sk_cs5, sk_cs6, sk_cv1, sk_cv2, sk_cv3, sk_cv4, sk_cv5, sk_cv6, sk_ci1, sk_ci2, sk_ci3, sk_ret0, sk_retI, sk_retL, sk_retR, sk_sw, sk_oin, sk_max, sk_min, sk_abs, lI_0, lI_s, lL_0, lL_s, lR_0, lR_s, vIo_e, vLo_e, vOo_e, stW_I, stW_L, stW_R, stW_0, stW_z, okSt_0, okSt_s, hV_eq, hK_eq, okF_0, okF_1, okF_3, is01_0, is01_1, is01_i, Int.toNat_natCast, Int.reduceEq, Int.reduceLE, Int.reduceLT, Int.reduceNeg, Nat.reduceLT, not_true_eq_false, not_false_eq_true, reduceIte, Option.toList, List.cons_append, List.nil_append, List.set_cons_zero, List.set_cons_succ, List.not_mem_nil, List.mem_cons, if_false, if_true, ite_true, ite_false, and_self, and_true, true_and, Nat.reduceAdd, Nat.reduceLeDiff, Nat.reduceEqDiff, Nat.zero_add, Nat.le_refl, Nat.zero_le, or_false, false_or, Int.reduceToNat, or_true, true_or, eq_self, and_false, false_and, inR_d, nc_4, nc_5, nc_6, nc_7, nc_8, nc_16, nc_18, nc_20, nc_24, nc_32, nc_40, nc_64, nc_104, nc_120, nc_160, nc_256, nc_300, nc_330, nc_390, nc_1200, nc_1260, nc_3012, nc_9834, okSt_1i, okSt_1r, okSt_1n, List.length_cons, List.length_nil, xpk_succ cd_312_0, xpk_succ cd_312_1, xpk_succ cd_312_2, xpk_succ cd_312_3, xpk_succ cd_312_5, xpk_succ cd_312_6]
    exact key
  refine XC_mono ?_ q0
  rintro r h' ⟨rfl, g, rfl, g1, g2⟩
  exact hQ _ _ ⟨_, rfl, g, rfl, g1, g2⟩ hJ hp (fun q hq => by cases hq) (n_F_r hW)
theorem X_sh {d : Nat} {h : AH} (ho : AO h) (v : ∀ i, i < 9834 → hV h 77 i = vI (aF h i)) (h7 : 0 ≤ aF h 7) : ∃ n : Int, 0 ≤ n ∧ n ≤ 20 ∧ n ≤ aF h 7 ∧ ∀ Q : Option AV → AH → Prop, XC (d + 1) 313 [vR 76] h Q = Q (some (vI n)) h := by
  have o1 := ho.1
  have o2 := ho.2.1
  have o3 := ho.2.2
  have v7 := v 7 (by decide)
  have q0 : XC (d + 1) 313 [vR 76] h (fun r h' => h' = h ∧ ∃ n : Int, r = some (vI n) ∧ 0 ≤ n ∧ n ≤ 20 ∧ n ≤ aF h 7) := by
    refine XC_of (Nat.le_of_ble_eq_true rfl) ?_
    show XP d 313 0 [some (vR 76)] [] h _
    by_cases z : 20 ≤ aF h 7
    · have y : h = h ∧ ∃ n : Int, some (vI 20) = some (vI n) ∧ 0 ≤ n ∧ n ≤ 20 ∧ n ≤ aF h 7 := ⟨rfl, 20, rfl, by omega, by omega, z⟩
      refine xpk_sound (stops := []) (n := 20) ?_
      simp only [sk_0, sk_1, sk_2, sk_3, sk_4, sk_5, sk_6, sk_7, sk_8, sk_iadd, sk_isub, sk_imul, sk_iand, sk_ior, sk_ixor, sk_ishl, sk_ishr, sk_iushr, sk_idiv, sk_irem, sk_ineg, sk_ladd, sk_lsub, sk_lmul, sk_land, sk_lor, sk_ldiv, sk_lrem, sk_lneg, sk_lshl, sk_lshr, sk_i2l, sk_l2i, sk_lcmp, sk_dupI, sk_dupR, sk_dup2L, sk_dup2I, sk_popI, sk_ifeq, sk_ifne, sk_iflt, sk_ifge, sk_ifgt, sk_ifle, sk_iceq, sk_icne, sk_iclt, sk_icge, sk_icgt, sk_icle, sk_goto, sk_getf, sk_putf, sk_gets, sk_iald, sk_lald, sk_bald, sk_aald, sk_iast, sk_last, sk_bast, sk_aast, sk_alen, sk_newa, sk_newt, sk_new, sk_cs1, sk_cs2, sk_cs3, sk_cs4, sk_cs5, sk_cs6, sk_cv1, sk_cv2, sk_cv3, sk_cv4, sk_cv5, sk_cv6, sk_ci1, sk_ci2, sk_ci3, sk_ret0, sk_retI, sk_retL, sk_retR, sk_sw, sk_oin, sk_max, sk_min, sk_abs, lI_0, lI_s, lL_0, lL_s, lR_0, lR_s, vIo_e, vLo_e, vOo_e, stW_I, stW_L, stW_R, stW_0, stW_z, okSt_0, okSt_s, hV_eq, hK_eq, okF_0, okF_1, okF_3, is01_0, is01_1, is01_i, Int.toNat_natCast, Int.reduceEq, Int.reduceLE, Int.reduceLT, Int.reduceNeg, Nat.reduceLT, not_true_eq_false, not_false_eq_true, reduceIte, Option.toList, List.cons_append, List.nil_append, List.set_cons_zero, List.set_cons_succ, List.not_mem_nil, List.mem_cons, if_false, if_true, ite_true, ite_false, and_self, and_true, true_and, Nat.reduceAdd, Nat.reduceLeDiff, Nat.reduceEqDiff, Nat.zero_add, Nat.le_refl, Nat.zero_le, or_false, false_or, Int.reduceToNat, or_true, true_or, eq_self, and_false, false_and, inR_d, nc_4, nc_5, nc_6, nc_7, nc_8, nc_16, nc_18, nc_20, nc_24, nc_32, nc_40, nc_64, nc_104, nc_120, nc_160, nc_256, nc_300, nc_330, nc_390, nc_1200, nc_1260, nc_3012, nc_9834, okSt_1i, okSt_1r, okSt_1n, List.length_cons, List.length_nil, xpk_succ cd_313_0, xpk_succ cd_313_1, xpk_succ cd_313_4, xpk_succ cd_313_6, xpk_succ cd_313_7, xpk_succ cd_313_9, xpk_succ cd_313_12, xpk_succ cd_313_13, xpk_succ cd_313_16, xpk_succ cd_313_18, xpk_succ cd_313_19, xpk_succ cd_313_22, xpk_succ cd_313_24, o1, o2, o3, v7, z]
      exact y.2
    · have y : h = h ∧ ∃ n : Int, some (vI (aF h 7)) = some (vI n) ∧ 0 ≤ n ∧ n ≤ 20 ∧ n ≤ aF h 7 := ⟨rfl, _, rfl, h7, by omega, Int.le_refl _⟩
      refine xpk_sound (stops := []) (n := 20) ?_
      simp only [sk_0, sk_1, sk_2, sk_3, sk_4, sk_5, sk_6, sk_7, sk_8, sk_iadd, sk_isub, sk_imul, sk_iand, sk_ior, sk_ixor, sk_ishl, sk_ishr, sk_iushr, sk_idiv, sk_irem, sk_ineg, sk_ladd, sk_lsub, sk_lmul, sk_land, sk_lor, sk_ldiv, sk_lrem, sk_lneg, sk_lshl, sk_lshr, sk_i2l, sk_l2i, sk_lcmp, sk_dupI, sk_dupR, sk_dup2L, sk_dup2I, sk_popI, sk_ifeq, sk_ifne, sk_iflt, sk_ifge, sk_ifgt, sk_ifle, sk_iceq, sk_icne, sk_iclt, sk_icge, sk_icgt, sk_icle, sk_goto, sk_getf, sk_putf, sk_gets, sk_iald, sk_lald, sk_bald, sk_aald, sk_iast, sk_last, sk_bast, sk_aast, sk_alen, sk_newa, sk_newt, sk_new, sk_cs1, sk_cs2, sk_cs3, sk_cs4, sk_cs5, sk_cs6, sk_cv1, sk_cv2, sk_cv3, sk_cv4, sk_cv5, sk_cv6, sk_ci1, sk_ci2, sk_ci3, sk_ret0, sk_retI, sk_retL, sk_retR, sk_sw, sk_oin, sk_max, sk_min, sk_abs, lI_0, lI_s, lL_0, lL_s, lR_0, lR_s, vIo_e, vLo_e, vOo_e, stW_I, stW_L, stW_R, stW_0, stW_z, okSt_0, okSt_s, hV_eq, hK_eq, okF_0, okF_1, okF_3, is01_0, is01_1, is01_i, Int.toNat_natCast, Int.reduceEq, Int.reduceLE, Int.reduceLT, Int.reduceNeg, Nat.reduceLT, not_true_eq_false, not_false_eq_true, reduceIte, Option.toList, List.cons_append, List.nil_append, List.set_cons_zero, List.set_cons_succ, List.not_mem_nil, List.mem_cons, if_false, if_true, ite_true, ite_false, and_self, and_true, true_and, Nat.reduceAdd, Nat.reduceLeDiff, Nat.reduceEqDiff, Nat.zero_add, Nat.le_refl, Nat.zero_le, or_false, false_or, Int.reduceToNat, or_true, true_or, eq_self, and_false, false_and, inR_d, nc_4, nc_5, nc_6, nc_7, nc_8, nc_16, nc_18, nc_20, nc_24, nc_32, nc_40, nc_64, nc_104, nc_120, nc_160, nc_256, nc_300, nc_330, nc_390, nc_1200, nc_1260, nc_3012, nc_9834, okSt_1i, okSt_1r, okSt_1n, List.length_cons, List.length_nil, xpk_succ cd_313_0, xpk_succ cd_313_1, xpk_succ cd_313_4, xpk_succ cd_313_6, xpk_succ cd_313_7, xpk_succ cd_313_9, xpk_succ cd_313_12, xpk_succ cd_313_13, xpk_succ cd_313_16, xpk_succ cd_313_18, xpk_succ cd_313_19, xpk_succ cd_313_22, xpk_succ cd_313_24, o1, o2, o3, v7, z]
      exact y.2
  obtain ⟨r, h', ⟨rfl, n, rfl, n1, n2, n3⟩, e⟩ := XC_dt q0
  exact ⟨n, n1, n2, n3, e⟩
theorem X_dn {d : Nat} {h : AH} (ho : AO h) (v : ∀ i, i < 9834 → hV h 77 i = vI (aF h i)) (h7 : 0 ≤ aF h 7 ∧ aF h 7 ≤ 20000) {k : Int} (hk : 0 ≤ k ∧ k ≤ 20) : ∃ m : Int, ∀ Q : Option AV → AH → Prop, XC (d + 2) 314 [vR 76, vI k, vI 1] h Q = Q (some (vI m)) h := by
  have o1 := ho.1
  have o2 := ho.2.1
  have o3 := ho.2.2
  have v7 := v 7 (by decide)
  obtain ⟨n, n1, n2, n3, e⟩ := X_sh (d := d) ho v h7.1
  have a1 : w32 (aF h 7 - n) = aF h 7 - n := by unfold w32; omega
  have a2 : w32 (aF h 7 - n + k) = aF h 7 - n + k := by unfold w32; omega
  have t1 : Int.tmod (aF h 7 - n + k) 64 = (((aF h 7 - n + k) % 64).toNat : Int) := by rw [Int.tmod_eq_emod_of_nonneg (by omega)]; omega
  generalize hq : ((aF h 7 - n + k) % 64).toNat = q at t1
  have hq64 : q < 64 := by omega
  have a3 : w32 (2 * (q : Int)) = ((2 * q : Nat) : Int) := by unfold w32; omega
  have a4 : w32 (474 + ((2 * q : Nat) : Int)) = ((474 + 2 * q : Nat) : Int) := by unfold w32; omega
  have a5 : w32 (((474 + 2 * q : Nat) : Int) + 1) = ((474 + 2 * q + 1 : Nat) : Int) := by unfold w32; omega
  have b5 : (0 : Int) ≤ ((474 + 2 * q + 1 : Nat) : Int) ∧ ((474 + 2 * q + 1 : Nat) : Int) < 9834 := by omega
  have v5 := v (474 + 2 * q + 1) (by omega)
  have q0 : XC (d + 2) 314 [vR 76, vI k, vI 1] h (fun r h' => h' = h ∧ r = some (vI (aF h (474 + 2 * q + 1)))) := by
    refine XC_of (Nat.le_of_ble_eq_true rfl) ?_
    show XP (d + 1) 314 0 [some (vR 76), some (vI k), some (vI 1)] [] h _
    refine xpk_sound (stops := []) (n := 40) ?_
    simp only [sk_0, sk_1, sk_2, sk_3, sk_4, sk_5, sk_6, sk_7, sk_8, sk_iadd, sk_isub, sk_imul, sk_iand, sk_ior, sk_ixor, sk_ishl, sk_ishr, sk_iushr, sk_idiv, sk_irem, sk_ineg, sk_ladd, sk_lsub, sk_lmul, sk_land, sk_lor, sk_ldiv, sk_lrem, sk_lneg, sk_lshl, sk_lshr, sk_i2l, sk_l2i, sk_lcmp, sk_dupI, sk_dupR, sk_dup2L, sk_dup2I, sk_popI, sk_ifeq, sk_ifne, sk_iflt, sk_ifge, sk_ifgt, sk_ifle, sk_iceq, sk_icne, sk_iclt, sk_icge, sk_icgt, sk_icle, sk_goto, sk_getf, sk_putf, sk_gets, sk_iald, sk_lald, sk_bald, sk_aald, sk_iast, sk_last, sk_bast, sk_aast, sk_alen, sk_newa, sk_newt, sk_new, sk_cs1, sk_cs2, sk_cs3, sk_cs4, sk_cs5, sk_cs6, sk_cv1, sk_cv2, sk_cv3, sk_cv4, sk_cv5, sk_cv6, sk_ci1, sk_ci2, sk_ci3, sk_ret0, sk_retI, sk_retL, sk_retR, sk_sw, sk_oin, sk_max, sk_min, sk_abs, lI_0, lI_s, lL_0, lL_s, lR_0, lR_s, vIo_e, vLo_e, vOo_e, stW_I, stW_L, stW_R, stW_0, stW_z, okSt_0, okSt_s, hV_eq, hK_eq, okF_0, okF_1, okF_3, is01_0, is01_1, is01_i, Int.toNat_natCast, Int.reduceEq, Int.reduceLE, Int.reduceLT, Int.reduceNeg, Nat.reduceLT, not_true_eq_false, not_false_eq_true, reduceIte, Option.toList, List.cons_append, List.nil_append, List.set_cons_zero, List.set_cons_succ, List.not_mem_nil, List.mem_cons, if_false, if_true, ite_true, ite_false, and_self, and_true, true_and, Nat.reduceAdd, Nat.reduceLeDiff, Nat.reduceEqDiff, Nat.zero_add, Nat.le_refl, Nat.zero_le, or_false, false_or, Int.reduceToNat, or_true, true_or, eq_self, and_false, false_and, inR_d, nc_4, nc_5, nc_6, nc_7, nc_8, nc_16, nc_18, nc_20, nc_24, nc_32, nc_40, nc_64, nc_104, nc_120, nc_160, nc_256, nc_300, nc_330, nc_390, nc_1200, nc_1260, nc_3012, nc_9834, okSt_1i, okSt_1r, okSt_1n, List.length_cons, List.length_nil, xpk_succ cd_314_0, xpk_succ cd_314_1, xpk_succ cd_314_4, xpk_succ cd_314_7, xpk_succ cd_314_8, xpk_succ cd_314_9, xpk_succ cd_314_12, xpk_succ cd_314_14, xpk_succ cd_314_15, xpk_succ cd_314_16, xpk_succ cd_314_19, xpk_succ cd_314_20, xpk_succ cd_314_21, xpk_succ cd_314_22, xpk_succ cd_314_24, xpk_succ cd_314_25, xpk_succ cd_314_26, xpk_succ cd_314_27, xpk_succ cd_314_28, xpk_succ cd_314_29, xpk_succ cd_314_30, o1, o2, o3, v7, e, a1, a2, t1, a3, a4, a5, b5, v5]
  obtain ⟨r, h', ⟨rfl, rfl⟩, e⟩ := XC_dt q0
  exact ⟨_, e⟩
theorem hok317_0 {β : Nat} : KOK JB (W0 β) 317 hk317_0 := by
  intro d vs h Q hd ha hJ hW hp hQ
  obtain ⟨v1, t1, rfl, e1, v2, t2, rfl, e2, e3⟩ := ha
  have e1 : v1 = vR 76 := e1
  have e3 : t2 = [] := e3
  obtain ⟨s, rfl, s1, s2⟩ := e2
  have s1 : (0 : Int) ≤ s := s1
  have s2 : s ≤ 1 := s2
  subst e1 e3
  obtain ⟨d, rfl⟩ : ∃ d', d = d' + 3 := ⟨d - 3, by have hd : 6 ≤ d := hd; omega⟩
  have p7 := aF_p hJ (i := 7) (by decide)
  rw [jp_67.2] at p7
  have p7 := inI p7
  have ho := AO_J hJ
  have o1 := ho.1
  obtain ⟨n, n1, n2, n3, en⟩ := X_sh (d := d + 1) ho (aF_v hJ) p7.1
  have a1 : w32 (n - 1) = n - 1 := by unfold w32; omega
  have dn := fun (k : Int) (hk : 0 ≤ k ∧ k ≤ 20) => X_dn (d := d) ho (aF_v hJ) p7 hk
  have q0 : XC (d + 3) 317 [vR 76, vI s] h (fun r h' => h' = h ∧ ∃ g : Int, r = some (vI g) ∧ -2147483648 ≤ g ∧ g ≤ 2147483647) := by
    refine XC_of (Nat.le_of_ble_eq_true rfl) ?_
    show XP (d + 2) 317 0 [some (vR 76), some (vI s), none, none, none] [] h _
    have y : ∀ z, h = h ∧ ∃ g : Int, some (vI (w32 z)) = some (vI g) ∧ -2147483648 ≤ g ∧ g ≤ 2147483647 := fun z => ⟨rfl, _, rfl, (w32_q z).1, (w32_q z).2⟩
    by_cases z : 1 ≤ n - 1
    · obtain ⟨m1, em1⟩ := dn (n - 1) (by omega)
      obtain ⟨m0, em0⟩ := dn 0 (by omega)
      obtain ⟨g, hg, e⟩ := X_cm (d := d + 1) (h := h) (x := w32 (m1 - m0)) (y := n - 1) (by omega)
      by_cases z0 : s = 0
      · subst z0
        refine xpk_sound (stops := []) (n := 50) ?_
        simp only [sk_0, sk_1, sk_2, sk_3, sk_4, sk_5, sk_6, sk_7, sk_8, sk_iadd, sk_isub, sk_imul, sk_iand, sk_ior, sk_ixor, sk_ishl, sk_ishr, sk_iushr, sk_idiv, sk_irem, sk_ineg, sk_ladd, sk_lsub, sk_lmul, sk_land, sk_lor, sk_ldiv, sk_lrem, sk_lneg, sk_lshl, sk_lshr, sk_i2l, sk_l2i, sk_lcmp, sk_dupI, sk_dupR, sk_dup2L, sk_dup2I, sk_popI, sk_ifeq, sk_ifne, sk_iflt, sk_ifge, sk_ifgt, sk_ifle, sk_iceq, sk_icne, sk_iclt, sk_icge, sk_icgt, sk_icle, sk_goto, sk_getf, sk_putf, sk_gets, sk_iald, sk_lald, sk_bald, sk_aald, sk_iast, sk_last, sk_bast, sk_aast, sk_alen, sk_newa, sk_newt, sk_new, sk_cs1, sk_cs2, sk_cs3, sk_cs4, sk_cs5, sk_cs6, sk_cv1, sk_cv2, sk_cv3, sk_cv4, sk_cv5, sk_cv6, sk_ci1, sk_ci2, sk_ci3, sk_ret0, sk_retI, sk_retL, sk_retR, sk_sw, sk_oin, sk_max, sk_min, sk_abs, lI_0, lI_s, lL_0, lL_s, lR_0, lR_s, vIo_e, vLo_e, vOo_e, stW_I, stW_L, stW_R, stW_0, stW_z, okSt_0, okSt_s, hV_eq, hK_eq, okF_0, okF_1, okF_3, is01_0, is01_1, is01_i, Int.toNat_natCast, Int.reduceEq, Int.reduceLE, Int.reduceLT, Int.reduceNeg, Nat.reduceLT, not_true_eq_false, not_false_eq_true, reduceIte, Option.toList, List.cons_append, List.nil_append, List.set_cons_zero, List.set_cons_succ, List.not_mem_nil, List.mem_cons, if_false, if_true, ite_true, ite_false, and_self, and_true, true_and, Nat.reduceAdd, Nat.reduceLeDiff, Nat.reduceEqDiff, Nat.zero_add, Nat.le_refl, Nat.zero_le, or_false, false_or, Int.reduceToNat, or_true, true_or, eq_self, and_false, false_and, inR_d, nc_4, nc_5, nc_6, nc_7, nc_8, nc_16, nc_18, nc_20, nc_24, nc_32, nc_40, nc_64, nc_104, nc_120, nc_160, nc_256, nc_300, nc_330, nc_390, nc_1200, nc_1260, nc_3012, nc_9834, okSt_1i, okSt_1r, okSt_1n, List.length_cons, List.length_nil, xpk_succ cd_317_0, xpk_succ cd_317_1, xpk_succ cd_317_4, xpk_succ cd_317_5, xpk_succ cd_317_6, xpk_succ cd_317_7, xpk_succ cd_317_8, xpk_succ cd_317_9, xpk_succ cd_317_12, xpk_succ cd_317_13, xpk_succ cd_317_14, xpk_succ cd_317_15, xpk_succ cd_317_16, xpk_succ cd_317_17, xpk_succ cd_317_20, xpk_succ cd_317_21, xpk_succ cd_317_22, xpk_succ cd_317_23, xpk_succ cd_317_26, xpk_succ cd_317_27, xpk_succ cd_317_28, xpk_succ cd_317_29, xpk_succ cd_317_30, xpk_succ cd_317_33, xpk_succ cd_317_34, xpk_succ cd_317_35, xpk_succ cd_317_38, xpk_succ cd_317_39, xpk_succ cd_317_40, xpk_succ cd_317_41, xpk_succ cd_317_42, xpk_succ cd_317_45, xpk_succ cd_317_46, xpk_succ cd_317_47, o1, en, a1, em1, em0, e, hg, z]
        exact (y _).2
      · refine xpk_sound (stops := []) (n := 50) ?_
        simp only [sk_0, sk_1, sk_2, sk_3, sk_4, sk_5, sk_6, sk_7, sk_8, sk_iadd, sk_isub, sk_imul, sk_iand, sk_ior, sk_ixor, sk_ishl, sk_ishr, sk_iushr, sk_idiv, sk_irem, sk_ineg, sk_ladd, sk_lsub, sk_lmul, sk_land, sk_lor, sk_ldiv, sk_lrem, sk_lneg, sk_lshl, sk_lshr, sk_i2l, sk_l2i, sk_lcmp, sk_dupI, sk_dupR, sk_dup2L, sk_dup2I, sk_popI, sk_ifeq, sk_ifne, sk_iflt, sk_ifge, sk_ifgt, sk_ifle, sk_iceq, sk_icne, sk_iclt, sk_icge, sk_icgt, sk_icle, sk_goto, sk_getf, sk_putf, sk_gets, sk_iald, sk_lald, sk_bald, sk_aald, sk_iast, sk_last, sk_bast, sk_aast, sk_alen, sk_newa, sk_newt, sk_new, sk_cs1, sk_cs2, sk_cs3, sk_cs4, sk_cs5, sk_cs6, sk_cv1, sk_cv2, sk_cv3, sk_cv4, sk_cv5, sk_cv6, sk_ci1, sk_ci2, sk_ci3, sk_ret0, sk_retI, sk_retL, sk_retR, sk_sw, sk_oin, sk_max, sk_min, sk_abs, lI_0, lI_s, lL_0, lL_s, lR_0, lR_s, vIo_e, vLo_e, vOo_e, stW_I, stW_L, stW_R, stW_0, stW_z, okSt_0, okSt_s, hV_eq, hK_eq, okF_0, okF_1, okF_3, is01_0, is01_1, is01_i, Int.toNat_natCast, Int.reduceEq, Int.reduceLE, Int.reduceLT, Int.reduceNeg, Nat.reduceLT, not_true_eq_false, not_false_eq_true, reduceIte, Option.toList, List.cons_append, List.nil_append, List.set_cons_zero, List.set_cons_succ, List.not_mem_nil, List.mem_cons, if_false, if_true, ite_true, ite_false, and_self, and_true, true_and, Nat.reduceAdd, Nat.reduceLeDiff, Nat.reduceEqDiff, Nat.zero_add, Nat.le_refl, Nat.zero_le, or_false, false_or, Int.reduceToNat, or_true, true_or, eq_self, and_false, false_and, inR_d, nc_4, nc_5, nc_6, nc_7, nc_8, nc_16, nc_18, nc_20, nc_24, nc_32, nc_40, nc_64, nc_104, nc_120, nc_160, nc_256, nc_300, nc_330, nc_390, nc_1200, nc_1260, nc_3012, nc_9834, okSt_1i, okSt_1r, okSt_1n, List.length_cons, List.length_nil, xpk_succ cd_317_0, xpk_succ cd_317_1, xpk_succ cd_317_4, xpk_succ cd_317_5, xpk_succ cd_317_6, xpk_succ cd_317_7, xpk_succ cd_317_8, xpk_succ cd_317_9, xpk_succ cd_317_12, xpk_succ cd_317_13, xpk_succ cd_317_14, xpk_succ cd_317_15, xpk_succ cd_317_16, xpk_succ cd_317_17, xpk_succ cd_317_20, xpk_succ cd_317_21, xpk_succ cd_317_22, xpk_succ cd_317_23, xpk_succ cd_317_26, xpk_succ cd_317_27, xpk_succ cd_317_28, xpk_succ cd_317_29, xpk_succ cd_317_30, xpk_succ cd_317_33, xpk_succ cd_317_34, xpk_succ cd_317_35, xpk_succ cd_317_38, xpk_succ cd_317_39, xpk_succ cd_317_40, xpk_succ cd_317_41, xpk_succ cd_317_42, xpk_succ cd_317_45, xpk_succ cd_317_46, xpk_succ cd_317_47, o1, en, a1, em1, em0, e, hg, z, z0]
        exact (y _).2
    · have y1 : h = h ∧ ∃ g : Int, some (vI (-1)) = some (vI g) ∧ -2147483648 ≤ g ∧ g ≤ 2147483647 := ⟨rfl, _, rfl, by decide, by decide⟩
      refine xpk_sound (stops := []) (n := 20) ?_
      simp only [sk_0, sk_1, sk_2, sk_3, sk_4, sk_5, sk_6, sk_7, sk_8, sk_iadd, sk_isub, sk_imul, sk_iand, sk_ior, sk_ixor, sk_ishl, sk_ishr, sk_iushr, sk_idiv, sk_irem, sk_ineg, sk_ladd, sk_lsub, sk_lmul, sk_land, sk_lor, sk_ldiv, sk_lrem, sk_lneg, sk_lshl, sk_lshr, sk_i2l, sk_l2i, sk_lcmp, sk_dupI, sk_dupR, sk_dup2L, sk_dup2I, sk_popI, sk_ifeq, sk_ifne, sk_iflt, sk_ifge, sk_ifgt, sk_ifle, sk_iceq, sk_icne, sk_iclt, sk_icge, sk_icgt, sk_icle, sk_goto, sk_getf, sk_putf, sk_gets, sk_iald, sk_lald, sk_bald, sk_aald, sk_iast, sk_last, sk_bast, sk_aast, sk_alen, sk_newa, sk_newt, sk_new, sk_cs1, sk_cs2, sk_cs3, sk_cs4, sk_cs5, sk_cs6, sk_cv1, sk_cv2, sk_cv3, sk_cv4, sk_cv5, sk_cv6, sk_ci1, sk_ci2, sk_ci3, sk_ret0, sk_retI, sk_retL, sk_retR, sk_sw, sk_oin, sk_max, sk_min, sk_abs, lI_0, lI_s, lL_0, lL_s, lR_0, lR_s, vIo_e, vLo_e, vOo_e, stW_I, stW_L, stW_R, stW_0, stW_z, okSt_0, okSt_s, hV_eq, hK_eq, okF_0, okF_1, okF_3, is01_0, is01_1, is01_i, Int.toNat_natCast, Int.reduceEq, Int.reduceLE, Int.reduceLT, Int.reduceNeg, Nat.reduceLT, not_true_eq_false, not_false_eq_true, reduceIte, Option.toList, List.cons_append, List.nil_append, List.set_cons_zero, List.set_cons_succ, List.not_mem_nil, List.mem_cons, if_false, if_true, ite_true, ite_false, and_self, and_true, true_and, Nat.reduceAdd, Nat.reduceLeDiff, Nat.reduceEqDiff, Nat.zero_add, Nat.le_refl, Nat.zero_le, or_false, false_or, Int.reduceToNat, or_true, true_or, eq_self, and_false, false_and, inR_d, nc_4, nc_5, nc_6, nc_7, nc_8, nc_16, nc_18, nc_20, nc_24, nc_32, nc_40, nc_64, nc_104, nc_120, nc_160, nc_256, nc_300, nc_330, nc_390, nc_1200, nc_1260, nc_3012, nc_9834, okSt_1i, okSt_1r, okSt_1n, List.length_cons, List.length_nil, xpk_succ cd_317_0, xpk_succ cd_317_1, xpk_succ cd_317_4, xpk_succ cd_317_5, xpk_succ cd_317_6, xpk_succ cd_317_7, xpk_succ cd_317_8, xpk_succ cd_317_9, xpk_succ cd_317_12, xpk_succ cd_317_13, xpk_succ cd_317_14, xpk_succ cd_317_15, xpk_succ cd_317_16, xpk_succ cd_317_17, o1, en, a1, z]
      exact y1.2
  refine XC_mono ?_ q0
  rintro r h' ⟨rfl, g, rfl, g1, g2⟩
  exact hQ _ _ ⟨_, rfl, g, rfl, g1, g2⟩ hJ hp (fun q hq => by cases hq) (n_F_r hW)
