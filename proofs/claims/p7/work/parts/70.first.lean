set_option maxRecDepth 20000 in
theorem ac_305 : allC[305]? = some cl305 := rfl
theorem cd_305_0 : cd 305 0 = some (4, 1, 0, 0, 0, []) := cd_row ac_305 rfl
theorem cd_305_1 : cd 305 1 = some (2, 2, 1, 0, 0, []) := cd_row ac_305 rfl
theorem cd_305_2 : cd 305 2 = some (0, 4, 0, 0, 7, []) := cd_row ac_305 rfl
theorem cd_305_4 : cd 305 4 = some (46, 7, 302, 3, 10, []) := cd_row ac_305 rfl
theorem cd_305_7 : cd 305 7 = some (20, 10, 15, 0, 0, []) := cd_row ac_305 rfl
theorem cd_305_10 : cd 305 10 = some (2, 11, 2, 0, 0, []) := cd_row ac_305 rfl
theorem cd_305_11 : cd 305 11 = some (0, 12, 0, 0, -1, []) := cd_row ac_305 rfl
theorem cd_305_12 : cd 305 12 = some (21, 15, 17, 3, 0, []) := cd_row ac_305 rfl
theorem cd_305_15 : cd 305 15 = some (0, 16, 0, 0, -1, []) := cd_row ac_305 rfl
theorem cd_305_16 : cd 305 16 = some (40, 17, 0, 0, 0, []) := cd_row ac_305 rfl
theorem cd_305_17 : cd 305 17 = some (0, 18, 0, 0, -1, []) := cd_row ac_305 rfl
theorem cd_305_18 : cd 305 18 = some (5, 19, 3, 0, 0, []) := cd_row ac_305 rfl
theorem cd_305_19 : cd 305 19 = some (0, 20, 0, 0, 1, []) := cd_row ac_305 rfl
theorem cd_305_20 : cd 305 20 = some (5, 22, 4, 0, 0, []) := cd_row ac_305 rfl
theorem cd_305_22 : cd 305 22 = some (2, 24, 4, 0, 0, []) := cd_row ac_305 rfl
theorem cd_305_24 : cd 305 24 = some (20, 27, 97, 0, 0, []) := cd_row ac_305 rfl
theorem cd_305_27 : cd 305 27 = some (4, 28, 0, 0, 0, []) := cd_row ac_305 rfl
theorem cd_305_28 : cd 305 28 = some (46, 31, 304, 1, 10, []) := cd_row ac_305 rfl
theorem cd_305_31 : cd 305 31 = some (5, 33, 5, 0, 0, []) := cd_row ac_305 rfl
theorem cd_305_33 : cd 305 33 = some (2, 35, 5, 0, 0, []) := cd_row ac_305 rfl
theorem cd_305_35 : cd 305 35 = some (20, 38, 88, 2, 0, []) := cd_row ac_305 rfl
theorem cd_305_38 : cd 305 38 = some (2, 39, 3, 0, 0, []) := cd_row ac_305 rfl
theorem cd_305_39 : cd 305 39 = some (20, 42, 48, 2, 0, []) := cd_row ac_305 rfl
theorem cd_305_42 : cd 305 42 = some (2, 44, 5, 0, 0, []) := cd_row ac_305 rfl
theorem cd_305_44 : cd 305 44 = some (2, 45, 3, 0, 0, []) := cd_row ac_305 rfl
theorem cd_305_45 : cd 305 45 = some (21, 48, 88, 3, 0, []) := cd_row ac_305 rfl
theorem cd_305_48 : cd 305 48 = some (2, 50, 5, 0, 0, []) := cd_row ac_305 rfl
theorem cd_305_50 : cd 305 50 = some (5, 51, 3, 0, 0, []) := cd_row ac_305 rfl
theorem cd_305_51 : cd 305 51 = some (0, 52, 0, 0, 0, []) := cd_row ac_305 rfl
theorem cd_305_52 : cd 305 52 = some (5, 54, 6, 0, 0, []) := cd_row ac_305 rfl
theorem cd_305_54 : cd 305 54 = some (2, 56, 6, 0, 0, []) := cd_row ac_305 rfl
theorem cd_305_56 : cd 305 56 = some (4, 57, 0, 0, 0, []) := cd_row ac_305 rfl
theorem cd_305_57 : cd 305 57 = some (23, 60, 10, 34, 0, []) := cd_row ac_305 rfl
theorem cd_305_60 : cd 305 60 = some (21, 63, 88, 3, 0, []) := cd_row ac_305 rfl
theorem cd_305_63 : cd 305 63 = some (4, 64, 0, 0, 0, []) := cd_row ac_305 rfl
theorem cd_305_64 : cd 305 64 = some (23, 67, 10, 33, 0, []) := cd_row ac_305 rfl
theorem cd_305_67 : cd 305 67 = some (2, 69, 6, 0, 0, []) := cd_row ac_305 rfl
theorem cd_305_69 : cd 305 69 = some (4, 70, 0, 0, 0, []) := cd_row ac_305 rfl
theorem cd_305_70 : cd 305 70 = some (23, 73, 10, 30, 0, []) := cd_row ac_305 rfl
theorem cd_305_73 : cd 305 73 = some (4, 74, 0, 0, 0, []) := cd_row ac_305 rfl
theorem cd_305_74 : cd 305 74 = some (23, 77, 10, 32, 0, []) := cd_row ac_305 rfl
theorem cd_305_77 : cd 305 77 = some (2, 79, 6, 0, 0, []) := cd_row ac_305 rfl
theorem cd_305_79 : cd 305 79 = some (26, 80, 0, 0, 0, []) := cd_row ac_305 rfl
theorem cd_305_80 : cd 305 80 = some (26, 81, 0, 0, 0, []) := cd_row ac_305 rfl
theorem cd_305_81 : cd 305 81 = some (30, 82, 0, 0, 0, []) := cd_row ac_305 rfl
theorem cd_305_82 : cd 305 82 = some (8, 85, 6, 0, 1, []) := cd_row ac_305 rfl
theorem cd_305_85 : cd 305 85 = some (22, 88, 54, 0, 0, []) := cd_row ac_305 rfl
theorem cd_305_88 : cd 305 88 = some (4, 89, 0, 0, 0, []) := cd_row ac_305 rfl
theorem cd_305_89 : cd 305 89 = some (46, 92, 303, 1, 10, []) := cd_row ac_305 rfl
theorem cd_305_92 : cd 305 92 = some (5, 94, 4, 0, 0, []) := cd_row ac_305 rfl
theorem cd_305_94 : cd 305 94 = some (22, 97, 22, 0, 0, []) := cd_row ac_305 rfl
theorem cd_305_97 : cd 305 97 = some (2, 98, 3, 0, 0, []) := cd_row ac_305 rfl
theorem cd_305_98 : cd 305 98 = some (20, 101, 103, 3, 0, []) := cd_row ac_305 rfl
theorem cd_305_101 : cd 305 101 = some (0, 102, 0, 0, -1, []) := cd_row ac_305 rfl
theorem cd_305_102 : cd 305 102 = some (40, 103, 0, 0, 0, []) := cd_row ac_305 rfl
theorem cd_305_103 : cd 305 103 = some (2, 104, 2, 0, 0, []) := cd_row ac_305 rfl
theorem cd_305_104 : cd 305 104 = some (0, 105, 0, 0, -1, []) := cd_row ac_305 rfl
theorem cd_305_105 : cd 305 105 = some (21, 108, 112, 1, 0, []) := cd_row ac_305 rfl
theorem cd_305_108 : cd 305 108 = some (2, 109, 3, 0, 0, []) := cd_row ac_305 rfl
theorem cd_305_109 : cd 305 109 = some (22, 112, 130, 0, 0, []) := cd_row ac_305 rfl
theorem cd_305_112 : cd 305 112 = some (2, 113, 2, 0, 0, []) := cd_row ac_305 rfl
theorem cd_305_113 : cd 305 113 = some (4, 114, 0, 0, 0, []) := cd_row ac_305 rfl
theorem cd_305_114 : cd 305 114 = some (23, 117, 10, 34, 0, []) := cd_row ac_305 rfl
theorem cd_305_117 : cd 305 117 = some (21, 120, 129, 3, 0, []) := cd_row ac_305 rfl
theorem cd_305_120 : cd 305 120 = some (4, 121, 0, 0, 0, []) := cd_row ac_305 rfl
theorem cd_305_121 : cd 305 121 = some (23, 124, 10, 33, 0, []) := cd_row ac_305 rfl
theorem cd_305_124 : cd 305 124 = some (2, 125, 2, 0, 0, []) := cd_row ac_305 rfl
theorem cd_305_125 : cd 305 125 = some (26, 126, 0, 0, 0, []) := cd_row ac_305 rfl
theorem cd_305_126 : cd 305 126 = some (22, 129, 130, 0, 0, []) := cd_row ac_305 rfl
theorem cd_305_129 : cd 305 129 = some (0, 130, 0, 0, -1, []) := cd_row ac_305 rfl
theorem cd_305_130 : cd 305 130 = some (40, 131, 0, 0, 0, []) := cd_row ac_305 rfl
set_option maxRecDepth 20000 in
theorem ac_309 : allC[309]? = some cl309 := rfl
theorem cd_309_0 : cd 309 0 = some (4, 1, 0, 0, 0, []) := cd_row ac_309 rfl
theorem cd_309_1 : cd 309 1 = some (2, 2, 1, 0, 0, []) := cd_row ac_309 rfl
theorem cd_309_2 : cd 309 2 = some (0, 4, 0, 0, 8, []) := cd_row ac_309 rfl
theorem cd_309_4 : cd 309 4 = some (46, 7, 302, 3, 10, []) := cd_row ac_309 rfl
theorem cd_309_7 : cd 309 7 = some (20, 10, 31, 0, 0, []) := cd_row ac_309 rfl
theorem cd_309_10 : cd 309 10 = some (2, 11, 2, 0, 0, []) := cd_row ac_309 rfl
theorem cd_309_11 : cd 309 11 = some (0, 12, 0, 0, -1, []) := cd_row ac_309 rfl
theorem cd_309_12 : cd 309 12 = some (21, 15, 33, 0, 0, []) := cd_row ac_309 rfl
theorem cd_309_15 : cd 309 15 = some (4, 16, 0, 0, 0, []) := cd_row ac_309 rfl
theorem cd_309_16 : cd 309 16 = some (2, 17, 2, 0, 0, []) := cd_row ac_309 rfl
theorem cd_309_17 : cd 309 17 = some (46, 20, 187, 2, 10, []) := cd_row ac_309 rfl
theorem cd_309_20 : cd 309 20 = some (20, 23, 31, 0, 0, []) := cd_row ac_309 rfl
theorem cd_309_23 : cd 309 23 = some (2, 24, 1, 0, 0, []) := cd_row ac_309 rfl
theorem cd_309_24 : cd 309 24 = some (2, 25, 2, 0, 0, []) := cd_row ac_309 rfl
theorem cd_309_25 : cd 309 25 = some (38, 28, 185, 2, 0, []) := cd_row ac_309 rfl
theorem cd_309_28 : cd 309 28 = some (20, 31, 33, 1, 0, []) := cd_row ac_309 rfl
theorem cd_309_31 : cd 309 31 = some (0, 32, 0, 0, -1, []) := cd_row ac_309 rfl
theorem cd_309_32 : cd 309 32 = some (40, 33, 0, 0, 0, []) := cd_row ac_309 rfl
theorem cd_309_33 : cd 309 33 = some (0, 36, 0, 0, 100000000, []) := cd_row ac_309 rfl
theorem cd_309_36 : cd 309 36 = some (5, 37, 3, 0, 0, []) := cd_row ac_309 rfl
theorem cd_309_37 : cd 309 37 = some (0, 38, 0, 0, 0, []) := cd_row ac_309 rfl
theorem cd_309_38 : cd 309 38 = some (5, 40, 4, 0, 0, []) := cd_row ac_309 rfl
theorem cd_309_40 : cd 309 40 = some (2, 42, 4, 0, 0, []) := cd_row ac_309 rfl
theorem cd_309_42 : cd 309 42 = some (0, 43, 0, 0, 1, []) := cd_row ac_309 rfl
theorem cd_309_43 : cd 309 43 = some (4, 44, 0, 0, 0, []) := cd_row ac_309 rfl
theorem cd_309_44 : cd 309 44 = some (23, 47, 10, 34, 0, []) := cd_row ac_309 rfl
theorem cd_309_47 : cd 309 47 = some (9, 48, 0, 8, 0, []) := cd_row ac_309 rfl
theorem cd_309_48 : cd 309 48 = some (21, 51, 151, 3, 0, []) := cd_row ac_309 rfl
theorem cd_309_51 : cd 309 51 = some (4, 52, 0, 0, 0, []) := cd_row ac_309 rfl
theorem cd_309_52 : cd 309 52 = some (2, 54, 4, 0, 0, []) := cd_row ac_309 rfl
theorem cd_309_54 : cd 309 54 = some (46, 57, 306, 2, 10, []) := cd_row ac_309 rfl
theorem cd_309_57 : cd 309 57 = some (20, 60, 63, 1, 0, []) := cd_row ac_309 rfl
theorem cd_309_60 : cd 309 60 = some (22, 63, 145, 0, 0, []) := cd_row ac_309 rfl
theorem cd_309_63 : cd 309 63 = some (4, 64, 0, 0, 0, []) := cd_row ac_309 rfl
theorem cd_309_64 : cd 309 64 = some (46, 67, 307, 1, 10, []) := cd_row ac_309 rfl
theorem cd_309_67 : cd 309 67 = some (5, 69, 5, 0, 0, []) := cd_row ac_309 rfl
theorem cd_309_69 : cd 309 69 = some (2, 71, 5, 0, 0, []) := cd_row ac_309 rfl
theorem cd_309_71 : cd 309 71 = some (2, 72, 3, 0, 0, []) := cd_row ac_309 rfl
theorem cd_309_72 : cd 309 72 = some (21, 75, 145, 4, 0, []) := cd_row ac_309 rfl
theorem cd_309_75 : cd 309 75 = some (2, 77, 5, 0, 0, []) := cd_row ac_309 rfl
theorem cd_309_77 : cd 309 77 = some (2, 78, 3, 0, 0, []) := cd_row ac_309 rfl
theorem cd_309_78 : cd 309 78 = some (21, 81, 91, 1, 0, []) := cd_row ac_309 rfl
theorem cd_309_81 : cd 309 81 = some (4, 82, 0, 0, 0, []) := cd_row ac_309 rfl
theorem cd_309_82 : cd 309 82 = some (46, 85, 308, 1, 10, []) := cd_row ac_309 rfl
theorem cd_309_85 : cd 309 85 = some (20, 88, 91, 1, 0, []) := cd_row ac_309 rfl
theorem cd_309_88 : cd 309 88 = some (22, 91, 145, 0, 0, []) := cd_row ac_309 rfl
theorem cd_309_91 : cd 309 91 = some (2, 93, 5, 0, 0, []) := cd_row ac_309 rfl
theorem cd_309_93 : cd 309 93 = some (5, 94, 3, 0, 0, []) := cd_row ac_309 rfl
theorem cd_309_94 : cd 309 94 = some (0, 95, 0, 0, 0, []) := cd_row ac_309 rfl
theorem cd_309_95 : cd 309 95 = some (5, 97, 6, 0, 0, []) := cd_row ac_309 rfl
theorem cd_309_97 : cd 309 97 = some (2, 99, 6, 0, 0, []) := cd_row ac_309 rfl
theorem cd_309_99 : cd 309 99 = some (4, 100, 0, 0, 0, []) := cd_row ac_309 rfl
theorem cd_309_100 : cd 309 100 = some (23, 103, 10, 34, 0, []) := cd_row ac_309 rfl
theorem cd_309_103 : cd 309 103 = some (21, 106, 145, 3, 0, []) := cd_row ac_309 rfl
theorem cd_309_106 : cd 309 106 = some (4, 107, 0, 0, 0, []) := cd_row ac_309 rfl
theorem cd_309_107 : cd 309 107 = some (23, 110, 10, 33, 0, []) := cd_row ac_309 rfl
theorem cd_309_110 : cd 309 110 = some (2, 112, 6, 0, 0, []) := cd_row ac_309 rfl
theorem cd_309_112 : cd 309 112 = some (4, 113, 0, 0, 0, []) := cd_row ac_309 rfl
theorem cd_309_113 : cd 309 113 = some (23, 116, 10, 32, 0, []) := cd_row ac_309 rfl
theorem cd_309_116 : cd 309 116 = some (2, 118, 6, 0, 0, []) := cd_row ac_309 rfl
theorem cd_309_118 : cd 309 118 = some (26, 119, 0, 0, 0, []) := cd_row ac_309 rfl
theorem cd_309_119 : cd 309 119 = some (30, 120, 0, 0, 0, []) := cd_row ac_309 rfl
theorem cd_309_120 : cd 309 120 = some (4, 121, 0, 0, 0, []) := cd_row ac_309 rfl
theorem cd_309_121 : cd 309 121 = some (23, 124, 10, 36, 0, []) := cd_row ac_309 rfl
theorem cd_309_124 : cd 309 124 = some (4, 125, 0, 0, 0, []) := cd_row ac_309 rfl
theorem cd_309_125 : cd 309 125 = some (23, 128, 10, 32, 0, []) := cd_row ac_309 rfl
theorem cd_309_128 : cd 309 128 = some (2, 130, 6, 0, 0, []) := cd_row ac_309 rfl
theorem cd_309_130 : cd 309 130 = some (26, 131, 0, 0, 0, []) := cd_row ac_309 rfl
theorem cd_309_131 : cd 309 131 = some (4, 132, 0, 0, 0, []) := cd_row ac_309 rfl
theorem cd_309_132 : cd 309 132 = some (23, 135, 10, 35, 0, []) := cd_row ac_309 rfl
theorem cd_309_135 : cd 309 135 = some (2, 137, 6, 0, 0, []) := cd_row ac_309 rfl
theorem cd_309_137 : cd 309 137 = some (26, 138, 0, 0, 0, []) := cd_row ac_309 rfl
theorem cd_309_138 : cd 309 138 = some (30, 139, 0, 0, 0, []) := cd_row ac_309 rfl
theorem cd_309_139 : cd 309 139 = some (8, 142, 6, 0, 1, []) := cd_row ac_309 rfl
theorem cd_309_142 : cd 309 142 = some (22, 145, 97, 0, 0, []) := cd_row ac_309 rfl
theorem cd_309_145 : cd 309 145 = some (8, 148, 4, 0, 1, []) := cd_row ac_309 rfl
theorem cd_309_148 : cd 309 148 = some (22, 151, 40, 0, 0, []) := cd_row ac_309 rfl
theorem cd_309_151 : cd 309 151 = some (2, 152, 2, 0, 0, []) := cd_row ac_309 rfl
theorem cd_309_152 : cd 309 152 = some (0, 153, 0, 0, -1, []) := cd_row ac_309 rfl
theorem cd_309_153 : cd 309 153 = some (21, 156, 158, 1, 0, []) := cd_row ac_309 rfl
theorem cd_309_156 : cd 309 156 = some (2, 157, 3, 0, 0, []) := cd_row ac_309 rfl
theorem cd_309_157 : cd 309 157 = some (40, 158, 0, 0, 0, []) := cd_row ac_309 rfl
theorem cd_309_158 : cd 309 158 = some (0, 159, 0, 0, 0, []) := cd_row ac_309 rfl
theorem cd_309_159 : cd 309 159 = some (5, 161, 4, 0, 0, []) := cd_row ac_309 rfl
theorem cd_309_161 : cd 309 161 = some (4, 162, 0, 0, 0, []) := cd_row ac_309 rfl
theorem cd_309_162 : cd 309 162 = some (23, 165, 10, 30, 0, []) := cd_row ac_309 rfl
theorem cd_309_165 : cd 309 165 = some (2, 167, 4, 0, 0, []) := cd_row ac_309 rfl
theorem cd_309_167 : cd 309 167 = some (26, 168, 0, 0, 0, []) := cd_row ac_309 rfl
theorem cd_309_168 : cd 309 168 = some (2, 169, 2, 0, 0, []) := cd_row ac_309 rfl
theorem cd_309_169 : cd 309 169 = some (21, 172, 178, 0, 0, []) := cd_row ac_309 rfl
theorem cd_309_172 : cd 309 172 = some (8, 175, 4, 0, 1, []) := cd_row ac_309 rfl
theorem cd_309_175 : cd 309 175 = some (22, 178, 161, 0, 0, []) := cd_row ac_309 rfl
theorem cd_309_178 : cd 309 178 = some (4, 179, 0, 0, 0, []) := cd_row ac_309 rfl
theorem cd_309_179 : cd 309 179 = some (23, 182, 10, 36, 0, []) := cd_row ac_309 rfl
theorem cd_309_182 : cd 309 182 = some (2, 184, 4, 0, 0, []) := cd_row ac_309 rfl
theorem cd_309_184 : cd 309 184 = some (26, 185, 0, 0, 0, []) := cd_row ac_309 rfl
theorem cd_309_185 : cd 309 185 = some (40, 186, 0, 0, 0, []) := cd_row ac_309 rfl
theorem JB_G {c m : Nat} {h : AH} {g : Nat → Int} {q : Bool × Int × Int} (h1 : jW1 c q = true) (hv : ∀ i, i < m → inRg q (vI (g i))) (hJ : k_H JB h) : k_H JB (hG c m h g) := by
  refine ⟨hJ.1, hJ.2.1, fun k' s hc => ?_⟩
  have hC := hJ.2.2 k' s hc
  by_cases z : k' = c
  · subst z
    unfold jW1 at h1
    rw [hc] at h1
    have h1 : (nilB s.2.2.1 && s.2.2.2.all (fun r => r.2.2.2.all (fun q' => leQQ q q'))) = true := h1
    rw [Bool.and_eq_true, List.all_eq_true] at h1
    refine ⟨hC.1, fun j e he => ?_, fun r hr => ⟨(hC.2.2 r hr).1, fun j q' j1 j2 hq => ?_⟩⟩
    · have h2 := h1.1
      unfold nilB at h2
      split at h2
      · rename_i e0; rw [e0] at he; cases j <;> cases he
      · cases h2
    · by_cases y : j < m
      · rw [hG_V y]
        have h3 := h1.2 r hr
        rw [List.all_eq_true] at h3
        exact leQQ_s (h3 q' (List.mem_of_getElem? hq)) (hv j y)
      · rw [hG_b (by omega)]; exact (hC.2.2 r hr).2 j q' j1 j2 hq
  · refine ⟨hC.1, fun j e he => ?_, fun r hr => ⟨(hC.2.2 r hr).1, fun j q' j1 j2 hq => ?_⟩⟩
    · rw [hG_n z]; exact hC.2.1 j e he
    · rw [hG_n z]; exact (hC.2.2 r hr).2 j q' j1 j2 hq
theorem ST_G {β : Nat} {md : MD} {h0 h : AH} {g : Nat → Int} (hs : STo β md h0 h) (hg : ∀ i, i < 8 → 0 ≤ g i ∧ g i ≤ 7) (hm : okMd md 89 0 8 = true) : STo β md h0 (hG 89 8 h g) := by
  refine ⟨JB_G j8w.2.2.1 (fun i hi => inI_of (hg i hi).1 (hg i hi).2) hs.1, ⟨hs.2.1.1, W0_f h _ (fun k i hw => hG_n (fun z => ?_)) hs.2.1.2⟩, fun k i hn => ?_⟩
  · subst z
    exact okW_s (k := 89) (l := 0) (u := i) (by rfl) (Nat.zero_le i) (Nat.le_refl i) hw
  · by_cases z : k = 89
    · subst z
      by_cases y : i < 8
      · exact absurd (okMd_s hm (Nat.zero_le i) (by omega)) hn
      · rw [hG_b (by omega)]; exact hs.2.2 89 i hn
    · rw [hG_n z]; exact hs.2.2 k i hn
def rF (h : AH) : Nat → Int := fun i => nmb (hV h 89 i)
theorem rF_v {h : AH} (hJ : k_H JB h) {i : Nat} (hi : i < 8) : hV h 89 i = vI (rF h i) ∧ 0 ≤ rF h i ∧ rF h i ≤ 7 := by
  obtain ⟨x, hx, x1, x2⟩ := jG_s hJ j8g.2.1 (Nat.zero_le i) hi (Nat.mod_one i)
  have e : rF h i = x := by unfold rF; rw [hx]; rfl
  rw [e]
  exact ⟨hx, x1, x2⟩
theorem sF_v {h : AH} (hJ : k_H JB h) {i : Nat} (hi : i < 8) : ∃ x : Int, hV h 87 i = vI x ∧ 0 ≤ x ∧ x ≤ 7 := jG_s hJ j8g.1 (Nat.zero_le i) hi (Nat.mod_one i)
theorem uF_v {h : AH} (hJ : k_H JB h) {i : Nat} (hi : i < 8) : ∃ x : Int, hV h 91 i = vI x ∧ -2147483648 ≤ x ∧ x ≤ 2147483647 := jG_s hJ j8g.2.2 (Nat.zero_le i) hi (Nat.mod_one i)
theorem j8h : jG 90 0 8 1 (false, 0, 7) = true ∧ jG 92 0 8 1 (false, -2147483648, 2147483647) = true := ⟨by decide +kernel, by decide +kernel⟩
theorem xF_v {h : AH} (hJ : k_H JB h) {i : Nat} (hi : i < 8) : ∃ x : Int, hV h 90 i = vI x ∧ 0 ≤ x ∧ x ≤ 7 := jG_s hJ j8h.1 (Nat.zero_le i) hi (Nat.mod_one i)
theorem yF_v {h : AH} (hJ : k_H JB h) {i : Nat} (hi : i < 8) : ∃ x : Int, hV h 92 i = vI x ∧ -2147483648 ≤ x ∧ x ≤ 2147483647 := jG_s hJ j8h.2 (Nat.zero_le i) hi (Nat.mod_one i)
theorem NRO_J {n : Nat} {h : AH} (hJ : k_H JB h) (hn : hV h 76 34 = vI (n : Int)) : NRO n h := ⟨(AO_J hJ).1, jF_s hJ j76f.2.2.1, jK_s hJ j8k.2.2.1, hn⟩
/-- a call that writes nothing, or some cells -/
theorem X_w {β d M : Nat} {c : KT} {vs : List AV} {h : AH} {lo hi : Int} (hc : KOK JB (W0 β) M c) (hd : c.2.2.2.2.2.2.2 ≤ d + 1) (ha : c.2.1 = some (.inr (false, lo, hi))) (hp : c.2.2.2.2.1 = []) (hs : sa_S c.1 vs) (hJ : k_H JB h) (hW : W0 β h) : ∃ (r : Int) (h' : AH), ((lo ≤ r ∧ r ≤ hi) ∧ k_H JB h' ∧ n_F (W0 β) c.2.2.1 h h') ∧ ∀ Q : Option AV → AH → Prop, XC (d + 1) M vs h Q = Q (some (vI r)) h' := by
  have hk := hc (d + 1) vs h (fun r h' => ∃ x : Int, r = some (vI x) ∧ (lo ≤ x ∧ x ≤ hi) ∧ k_H JB h' ∧ n_F (W0 β) c.2.2.1 h h') hd hs hJ hW (by
    rw [hp]
    intro f hf
    cases hf) (fun r h' a1 a2 a3 a4 a5 => by
    rw [ha] at a1
    obtain ⟨u, rfl, x, rfl, x1, x2⟩ := a1
    exact ⟨x, rfl, ⟨x1, x2⟩, a2, a5⟩)
  obtain ⟨r, h', ⟨x, rfl, hx⟩, e⟩ := XC_dt hk
  exact ⟨x, h', hx, e⟩
/-! first -/
def md90 : MD := [(90, 0, 8)]
set_option maxHeartbeats 4000000 in
theorem fs_i {β d n : Nat} {h1 : AH} {mask k b l4 l5 : Int} {Q : Option AV → AH → Prop} (hn8 : n ≤ 8) (hn : hV h1 76 34 = vI (n : Int)) (hQ : ∀ (h2 : AH) (x6 : Int), STo β md90 h1 h2 → XP d 305 88 [some (vR 76), some (vI mask), some (vI k), some (vI b), some (vI l4), some (vI l5), some (vI x6)] [] h2 Q) : ∀ (e i : Nat) (h : AH), i + e = n → STo β md90 h1 h → XP d 305 54 [some (vR 76), some (vI mask), some (vI k), some (vI b), some (vI l4), some (vI l5), some (vI (i : Int))] [] h Q := by
  intro e
  induction e with
  | zero =>
    intro i h hi hS
    have o1 := (AO_J hS.1).1
    have v34 : hV h 76 34 = vI (n : Int) := (ST_n hS (by decide)).trans hn
    have z : (n : Int) ≤ (i : Int) := by omega
    have y := hQ h i hS
    refine xpk_sound (stops := [88]) (n := 20) ?_
    simp only [sk_0, sk_1, sk_2, sk_3, sk_4, sk_5, sk_6, sk_7, sk_8, sk_iadd, sk_isub, sk_imul, sk_iand, sk_ior, sk_ixor, sk_ishl, sk_ishr, sk_iushr, sk_idiv, sk_irem, sk_ineg, sk_ladd, sk_lsub, sk_lmul, sk_land, sk_lor, sk_ldiv, sk_lrem, sk_lneg, sk_lshl, sk_lshr, sk_i2l, sk_l2i, sk_lcmp, sk_dupI, sk_dupR, sk_dup2L, sk_dup2I, sk_popI, sk_ifeq, sk_ifne, sk_iflt, sk_ifge, sk_ifgt, sk_ifle, sk_iceq, sk_icne, sk_iclt, sk_icge, sk_icgt, sk_icle, sk_goto, sk_getf, sk_putf, sk_gets, sk_iald, sk_lald, sk_bald, sk_aald, sk_iast, sk_last, sk_bast, sk_aast, sk_alen, sk_newa, sk_newt, sk_new, sk_cs1, sk_cs2, sk_cs3, sk_cs4, sk_cs5, sk_cs6, sk_cv1, sk_cv2, sk_cv3, sk_cv4, sk_cv5, sk_cv6, sk_ci1, sk_ci2, sk_ci3, sk_ret0, sk_retI, sk_retL, sk_retR, sk_sw, sk_oin, sk_max, sk_min, sk_abs, lI_0, lI_s, lL_0, lL_s, lR_0, lR_s, vIo_e, vLo_e, vOo_e, stW_I, stW_L, stW_R, stW_0, stW_z, okSt_0, okSt_s, hV_eq, hK_eq, okF_0, okF_1, okF_3, is01_0, is01_1, is01_i, Int.toNat_natCast, Int.reduceEq, Int.reduceLE, Int.reduceLT, Int.reduceNeg, Nat.reduceLT, not_true_eq_false, not_false_eq_true, reduceIte, Option.toList, List.cons_append, List.nil_append, List.set_cons_zero, List.set_cons_succ, List.not_mem_nil, List.mem_cons, if_false, if_true, ite_true, ite_false, and_self, and_true, true_and, Nat.reduceAdd, Nat.reduceLeDiff, Nat.reduceEqDiff, Nat.zero_add, Nat.le_refl, Nat.zero_le, or_false, false_or, Int.reduceToNat, or_true, true_or, eq_self, and_false, false_and, inR_d, nc_4, nc_5, nc_6, nc_7, nc_8, nc_16, nc_18, nc_20, nc_24, nc_32, nc_40, nc_64, nc_104, nc_120, nc_160, nc_256, nc_300, nc_330, nc_390, nc_1200, nc_1260, nc_3012, nc_9834, okSt_1i, okSt_1r, okSt_1n, xpk_succ cd_305_54, xpk_succ cd_305_56, xpk_succ cd_305_57, xpk_succ cd_305_60, o1, v34, z]
    exact y
  | succ e ih =>
    intro i h hi hS
    have o1 := (AO_J hS.1).1
    have v34 : hV h 76 34 = vI (n : Int) := (ST_n hS (by decide)).trans hn
    have z : ¬ (n : Int) ≤ (i : Int) := by omega
    have i8' : i < 8 := by omega
    have b1 := i8 i8'
    obtain ⟨x1, x2, x3⟩ := rF_v hS.1 i8'
    generalize hx : rF h i = x at x1 x2 x3
    obtain ⟨t, rfl⟩ : ∃ t : Nat, x = (t : Int) := ⟨x.toNat, by omega⟩
    have b2 := i8 (show t < 8 by omega)
    obtain ⟨w, w1, w2, w3⟩ := sF_v hS.1 (show t < 8 by omega)
    have r30 := jF_s hS.1 j76f.1
    have r32 := jF_s hS.1 j76f.2.2.1
    have r33 := jF_s hS.1 j76f.2.2.2.1
    have k87 := jK_s hS.1 j8k.1
    have k89 := jK_s hS.1 j8k.2.2.1
    have k90 := jK_s hS.1 j8k.2.2.2.1
    have a1 := p1_ (show i < 1000 by omega)
    have y := ih (i + 1) _ (by omega) (ST_s1 (k := 90) (i := i) (l := 0) (u := 7) (v := vI w) hS j8w.2.2.2.1 (inI_of w2 w3) (by decide +kernel) (by decide +kernel) (by omega) (by omega))
    refine xpk_sound (stops := [54]) (n := 40) ?_
    simp only [sk_0, sk_1, sk_2, sk_3, sk_4, sk_5, sk_6, sk_7, sk_8, sk_iadd, sk_isub, sk_imul, sk_iand, sk_ior, sk_ixor, sk_ishl, sk_ishr, sk_iushr, sk_idiv, sk_irem, sk_ineg, sk_ladd, sk_lsub, sk_lmul, sk_land, sk_lor, sk_ldiv, sk_lrem, sk_lneg, sk_lshl, sk_lshr, sk_i2l, sk_l2i, sk_lcmp, sk_dupI, sk_dupR, sk_dup2L, sk_dup2I, sk_popI, sk_ifeq, sk_ifne, sk_iflt, sk_ifge, sk_ifgt, sk_ifle, sk_iceq, sk_icne, sk_iclt, sk_icge, sk_icgt, sk_icle, sk_goto, sk_getf, sk_putf, sk_gets, sk_iald, sk_lald, sk_bald, sk_aald, sk_iast, sk_last, sk_bast, sk_aast, sk_alen, sk_newa, sk_newt, sk_new, sk_cs1, sk_cs2, sk_cs3, sk_cs4, sk_cs5, sk_cs6, sk_cv1, sk_cv2, sk_cv3, sk_cv4, sk_cv5, sk_cv6, sk_ci1, sk_ci2, sk_ci3, sk_ret0, sk_retI, sk_retL, sk_retR, sk_sw, sk_oin, sk_max, sk_min, sk_abs, lI_0, lI_s, lL_0, lL_s, lR_0, lR_s, vIo_e, vLo_e, vOo_e, stW_I, stW_L, stW_R, stW_0, stW_z, okSt_0, okSt_s, hV_eq, hK_eq, okF_0, okF_1, okF_3, is01_0, is01_1, is01_i, Int.toNat_natCast, Int.reduceEq, Int.reduceLE, Int.reduceLT, Int.reduceNeg, Nat.reduceLT, not_true_eq_false, not_false_eq_true, reduceIte, Option.toList, List.cons_append, List.nil_append, List.set_cons_zero, List.set_cons_succ, List.not_mem_nil, List.mem_cons, if_false, if_true, ite_true, ite_false, and_self, and_true, true_and, Nat.reduceAdd, Nat.reduceLeDiff, Nat.reduceEqDiff, Nat.zero_add, Nat.le_refl, Nat.zero_le, or_false, false_or, Int.reduceToNat, or_true, true_or, eq_self, and_false, false_and, inR_d, nc_4, nc_5, nc_6, nc_7, nc_8, nc_16, nc_18, nc_20, nc_24, nc_32, nc_40, nc_64, nc_104, nc_120, nc_160, nc_256, nc_300, nc_330, nc_390, nc_1200, nc_1260, nc_3012, nc_9834, okSt_1i, okSt_1r, okSt_1n, xpk_succ cd_305_54, xpk_succ cd_305_56, xpk_succ cd_305_57, xpk_succ cd_305_60, xpk_succ cd_305_63, xpk_succ cd_305_64, xpk_succ cd_305_67, xpk_succ cd_305_69, xpk_succ cd_305_70, xpk_succ cd_305_73, xpk_succ cd_305_74, xpk_succ cd_305_77, xpk_succ cd_305_79, xpk_succ cd_305_80, xpk_succ cd_305_81, xpk_succ cd_305_82, xpk_succ cd_305_85, o1, v34, z, b1, b2, x1, w1, r30, r32, r33, k87, k89, k90, a1]
    exact y
set_option maxHeartbeats 4000000 in
theorem fs_x {β d n : Nat} {h0 h : AH} {mask k b : Int} {l5 l6 : Option AV} {Q : Option AV → AH → Prop} (hk : -1 ≤ k) (hb : -2147483648 ≤ b ∧ b ≤ 2147483647) (hn8 : n ≤ 8) (hn : hV h 76 34 = vI (n : Int)) (hS : STo β mdF h0 h) (hQ : ∀ (x : Int) (h' : AH), (-2147483648 ≤ x ∧ x ≤ 2147483647) → STo β mdF h0 h' → Q (some (vI x)) h') : XP d 305 22 [some (vR 76), some (vI mask), some (vI k), some (vI b), some (vI 0), l5, l6] [] h Q := by
  have o1 := (AO_J hS.1).1
  have y1 := hQ (-1) h (by decide) hS
  by_cases z1 : b < 0
  · have z1' : ¬ 0 ≤ b := by omega
    refine xpk_sound (stops := []) (n := 20) ?_
    simp only [sk_0, sk_1, sk_2, sk_3, sk_4, sk_5, sk_6, sk_7, sk_8, sk_iadd, sk_isub, sk_imul, sk_iand, sk_ior, sk_ixor, sk_ishl, sk_ishr, sk_iushr, sk_idiv, sk_irem, sk_ineg, sk_ladd, sk_lsub, sk_lmul, sk_land, sk_lor, sk_ldiv, sk_lrem, sk_lneg, sk_lshl, sk_lshr, sk_i2l, sk_l2i, sk_lcmp, sk_dupI, sk_dupR, sk_dup2L, sk_dup2I, sk_popI, sk_ifeq, sk_ifne, sk_iflt, sk_ifge, sk_ifgt, sk_ifle, sk_iceq, sk_icne, sk_iclt, sk_icge, sk_icgt, sk_icle, sk_goto, sk_getf, sk_putf, sk_gets, sk_iald, sk_lald, sk_bald, sk_aald, sk_iast, sk_last, sk_bast, sk_aast, sk_alen, sk_newa, sk_newt, sk_new, sk_cs1, sk_cs2, sk_cs3, sk_cs4, sk_cs5, sk_cs6, sk_cv1, sk_cv2, sk_cv3, sk_cv4, sk_cv5, sk_cv6, sk_ci1, sk_ci2, sk_ci3, sk_ret0, sk_retI, sk_retL, sk_retR, sk_sw, sk_oin, sk_max, sk_min, sk_abs, lI_0, lI_s, lL_0, lL_s, lR_0, lR_s, vIo_e, vLo_e, vOo_e, stW_I, stW_L, stW_R, stW_0, stW_z, okSt_0, okSt_s, hV_eq, hK_eq, okF_0, okF_1, okF_3, is01_0, is01_1, is01_i, Int.toNat_natCast, Int.reduceEq, Int.reduceLE, Int.reduceLT, Int.reduceNeg, Nat.reduceLT, not_true_eq_false, not_false_eq_true, reduceIte, Option.toList, List.cons_append, List.nil_append, List.set_cons_zero, List.set_cons_succ, List.not_mem_nil, List.mem_cons, if_false, if_true, ite_true, ite_false, and_self, and_true, true_and, Nat.reduceAdd, Nat.reduceLeDiff, Nat.reduceEqDiff, Nat.zero_add, Nat.le_refl, Nat.zero_le, or_false, false_or, Int.reduceToNat, or_true, true_or, eq_self, and_false, false_and, inR_d, nc_4, nc_5, nc_6, nc_7, nc_8, nc_16, nc_18, nc_20, nc_24, nc_32, nc_40, nc_64, nc_104, nc_120, nc_160, nc_256, nc_300, nc_330, nc_390, nc_1200, nc_1260, nc_3012, nc_9834, okSt_1i, okSt_1r, okSt_1n, xpk_succ cd_305_22, xpk_succ cd_305_24, xpk_succ cd_305_97, xpk_succ cd_305_98, xpk_succ cd_305_101, xpk_succ cd_305_102, xpk_succ cd_305_103, xpk_succ cd_305_104, xpk_succ cd_305_105, xpk_succ cd_305_108, xpk_succ cd_305_109, xpk_succ cd_305_130, o1, z1, z1']
    exact y1
  · have z1' : 0 ≤ b := by omega
    by_cases z2 : k = -1
    · have y := hQ b h hb hS
      refine xpk_sound (stops := []) (n := 20) ?_
      simp only [sk_0, sk_1, sk_2, sk_3, sk_4, sk_5, sk_6, sk_7, sk_8, sk_iadd, sk_isub, sk_imul, sk_iand, sk_ior, sk_ixor, sk_ishl, sk_ishr, sk_iushr, sk_idiv, sk_irem, sk_ineg, sk_ladd, sk_lsub, sk_lmul, sk_land, sk_lor, sk_ldiv, sk_lrem, sk_lneg, sk_lshl, sk_lshr, sk_i2l, sk_l2i, sk_lcmp, sk_dupI, sk_dupR, sk_dup2L, sk_dup2I, sk_popI, sk_ifeq, sk_ifne, sk_iflt, sk_ifge, sk_ifgt, sk_ifle, sk_iceq, sk_icne, sk_iclt, sk_icge, sk_icgt, sk_icle, sk_goto, sk_getf, sk_putf, sk_gets, sk_iald, sk_lald, sk_bald, sk_aald, sk_iast, sk_last, sk_bast, sk_aast, sk_alen, sk_newa, sk_newt, sk_new, sk_cs1, sk_cs2, sk_cs3, sk_cs4, sk_cs5, sk_cs6, sk_cv1, sk_cv2, sk_cv3, sk_cv4, sk_cv5, sk_cv6, sk_ci1, sk_ci2, sk_ci3, sk_ret0, sk_retI, sk_retL, sk_retR, sk_sw, sk_oin, sk_max, sk_min, sk_abs, lI_0, lI_s, lL_0, lL_s, lR_0, lR_s, vIo_e, vLo_e, vOo_e, stW_I, stW_L, stW_R, stW_0, stW_z, okSt_0, okSt_s, hV_eq, hK_eq, okF_0, okF_1, okF_3, is01_0, is01_1, is01_i, Int.toNat_natCast, Int.reduceEq, Int.reduceLE, Int.reduceLT, Int.reduceNeg, Nat.reduceLT, not_true_eq_false, not_false_eq_true, reduceIte, Option.toList, List.cons_append, List.nil_append, List.set_cons_zero, List.set_cons_succ, List.not_mem_nil, List.mem_cons, if_false, if_true, ite_true, ite_false, and_self, and_true, true_and, Nat.reduceAdd, Nat.reduceLeDiff, Nat.reduceEqDiff, Nat.zero_add, Nat.le_refl, Nat.zero_le, or_false, false_or, Int.reduceToNat, or_true, true_or, eq_self, and_false, false_and, inR_d, nc_4, nc_5, nc_6, nc_7, nc_8, nc_16, nc_18, nc_20, nc_24, nc_32, nc_40, nc_64, nc_104, nc_120, nc_160, nc_256, nc_300, nc_330, nc_390, nc_1200, nc_1260, nc_3012, nc_9834, okSt_1i, okSt_1r, okSt_1n, xpk_succ cd_305_22, xpk_succ cd_305_24, xpk_succ cd_305_97, xpk_succ cd_305_98, xpk_succ cd_305_101, xpk_succ cd_305_102, xpk_succ cd_305_103, xpk_succ cd_305_104, xpk_succ cd_305_105, xpk_succ cd_305_108, xpk_succ cd_305_109, xpk_succ cd_305_130, o1, z1, z1', z2]
      exact y
    · by_cases z3 : (n : Int) ≤ k
      · refine xpk_sound (stops := []) (n := 30) ?_
        simp only [sk_0, sk_1, sk_2, sk_3, sk_4, sk_5, sk_6, sk_7, sk_8, sk_iadd, sk_isub, sk_imul, sk_iand, sk_ior, sk_ixor, sk_ishl, sk_ishr, sk_iushr, sk_idiv, sk_irem, sk_ineg, sk_ladd, sk_lsub, sk_lmul, sk_land, sk_lor, sk_ldiv, sk_lrem, sk_lneg, sk_lshl, sk_lshr, sk_i2l, sk_l2i, sk_lcmp, sk_dupI, sk_dupR, sk_dup2L, sk_dup2I, sk_popI, sk_ifeq, sk_ifne, sk_iflt, sk_ifge, sk_ifgt, sk_ifle, sk_iceq, sk_icne, sk_iclt, sk_icge, sk_icgt, sk_icle, sk_goto, sk_getf, sk_putf, sk_gets, sk_iald, sk_lald, sk_bald, sk_aald, sk_iast, sk_last, sk_bast, sk_aast, sk_alen, sk_newa, sk_newt, sk_new, sk_cs1, sk_cs2, sk_cs3, sk_cs4, sk_cs5, sk_cs6, sk_cv1, sk_cv2, sk_cv3, sk_cv4, sk_cv5, sk_cv6, sk_ci1, sk_ci2, sk_ci3, sk_ret0, sk_retI, sk_retL, sk_retR, sk_sw, sk_oin, sk_max, sk_min, sk_abs, lI_0, lI_s, lL_0, lL_s, lR_0, lR_s, vIo_e, vLo_e, vOo_e, stW_I, stW_L, stW_R, stW_0, stW_z, okSt_0, okSt_s, hV_eq, hK_eq, okF_0, okF_1, okF_3, is01_0, is01_1, is01_i, Int.toNat_natCast, Int.reduceEq, Int.reduceLE, Int.reduceLT, Int.reduceNeg, Nat.reduceLT, not_true_eq_false, not_false_eq_true, reduceIte, Option.toList, List.cons_append, List.nil_append, List.set_cons_zero, List.set_cons_succ, List.not_mem_nil, List.mem_cons, if_false, if_true, ite_true, ite_false, and_self, and_true, true_and, Nat.reduceAdd, Nat.reduceLeDiff, Nat.reduceEqDiff, Nat.zero_add, Nat.le_refl, Nat.zero_le, or_false, false_or, Int.reduceToNat, or_true, true_or, eq_self, and_false, false_and, inR_d, nc_4, nc_5, nc_6, nc_7, nc_8, nc_16, nc_18, nc_20, nc_24, nc_32, nc_40, nc_64, nc_104, nc_120, nc_160, nc_256, nc_300, nc_330, nc_390, nc_1200, nc_1260, nc_3012, nc_9834, okSt_1i, okSt_1r, okSt_1n, xpk_succ cd_305_22, xpk_succ cd_305_24, xpk_succ cd_305_97, xpk_succ cd_305_98, xpk_succ cd_305_101, xpk_succ cd_305_102, xpk_succ cd_305_103, xpk_succ cd_305_104, xpk_succ cd_305_105, xpk_succ cd_305_108, xpk_succ cd_305_109, xpk_succ cd_305_112, xpk_succ cd_305_113, xpk_succ cd_305_114, xpk_succ cd_305_117, xpk_succ cd_305_120, xpk_succ cd_305_121, xpk_succ cd_305_124, xpk_succ cd_305_125, xpk_succ cd_305_126, xpk_succ cd_305_129, xpk_succ cd_305_130, o1, z1', z2, hn, z3]
        exact y1
      · obtain ⟨t, rfl⟩ : ∃ t : Nat, k = (t : Int) := ⟨k.toNat, by omega⟩
        have b1 := i8 (show t < 8 by omega)
        obtain ⟨w, w1, w2, w3⟩ := xF_v hS.1 (show t < 8 by omega)
        have r33 := jF_s hS.1 j76f.2.2.2.1
        have k90 := jK_s hS.1 j8k.2.2.2.1
        have y := hQ w h (by omega) hS
        refine xpk_sound (stops := []) (n := 30) ?_
        simp only [sk_0, sk_1, sk_2, sk_3, sk_4, sk_5, sk_6, sk_7, sk_8, sk_iadd, sk_isub, sk_imul, sk_iand, sk_ior, sk_ixor, sk_ishl, sk_ishr, sk_iushr, sk_idiv, sk_irem, sk_ineg, sk_ladd, sk_lsub, sk_lmul, sk_land, sk_lor, sk_ldiv, sk_lrem, sk_lneg, sk_lshl, sk_lshr, sk_i2l, sk_l2i, sk_lcmp, sk_dupI, sk_dupR, sk_dup2L, sk_dup2I, sk_popI, sk_ifeq, sk_ifne, sk_iflt, sk_ifge, sk_ifgt, sk_ifle, sk_iceq, sk_icne, sk_iclt, sk_icge, sk_icgt, sk_icle, sk_goto, sk_getf, sk_putf, sk_gets, sk_iald, sk_lald, sk_bald, sk_aald, sk_iast, sk_last, sk_bast, sk_aast, sk_alen, sk_newa, sk_newt, sk_new, sk_cs1, sk_cs2, sk_cs3, sk_cs4, sk_cs5, sk_cs6, sk_cv1, sk_cv2, sk_cv3, sk_cv4, sk_cv5, sk_cv6, sk_ci1, sk_ci2, sk_ci3, sk_ret0, sk_retI, sk_retL, sk_retR, sk_sw, sk_oin, sk_max, sk_min, sk_abs, lI_0, lI_s, lL_0, lL_s, lR_0, lR_s, vIo_e, vLo_e, vOo_e, stW_I, stW_L, stW_R, stW_0, stW_z, okSt_0, okSt_s, hV_eq, hK_eq, okF_0, okF_1, okF_3, is01_0, is01_1, is01_i, Int.toNat_natCast, Int.reduceEq, Int.reduceLE, Int.reduceLT, Int.reduceNeg, Nat.reduceLT, not_true_eq_false, not_false_eq_true, reduceIte, Option.toList, List.cons_append, List.nil_append, List.set_cons_zero, List.set_cons_succ, List.not_mem_nil, List.mem_cons, if_false, if_true, ite_true, ite_false, and_self, and_true, true_and, Nat.reduceAdd, Nat.reduceLeDiff, Nat.reduceEqDiff, Nat.zero_add, Nat.le_refl, Nat.zero_le, or_false, false_or, Int.reduceToNat, or_true, true_or, eq_self, and_false, false_and, inR_d, nc_4, nc_5, nc_6, nc_7, nc_8, nc_16, nc_18, nc_20, nc_24, nc_32, nc_40, nc_64, nc_104, nc_120, nc_160, nc_256, nc_300, nc_330, nc_390, nc_1200, nc_1260, nc_3012, nc_9834, okSt_1i, okSt_1r, okSt_1n, xpk_succ cd_305_22, xpk_succ cd_305_24, xpk_succ cd_305_97, xpk_succ cd_305_98, xpk_succ cd_305_101, xpk_succ cd_305_102, xpk_succ cd_305_103, xpk_succ cd_305_104, xpk_succ cd_305_105, xpk_succ cd_305_108, xpk_succ cd_305_109, xpk_succ cd_305_112, xpk_succ cd_305_113, xpk_succ cd_305_114, xpk_succ cd_305_117, xpk_succ cd_305_120, xpk_succ cd_305_121, xpk_succ cd_305_124, xpk_succ cd_305_125, xpk_succ cd_305_126, xpk_succ cd_305_129, xpk_succ cd_305_130, o1, z1', z2, hn, z3, b1, w1, r33, k90]
        exact y

set_option maxHeartbeats 4000000 in
theorem fs_l {β d n : Nat} {h0 : AH} {mask k : Int} {Q : Option AV → AH → Prop} {B : Int} (hB : ∀ g, PRM n g → rV g n < B) (hk : -1 ≤ k) (hn8 : n ≤ 8) (hQ : ∀ (x : Int) (h' : AH), (-2147483648 ≤ x ∧ x ≤ 2147483647) → STo β mdF h0 h' → Q (some (vI x)) h') : ∀ (e : Nat) (h : AH) (b : Int) (l5 l6 : Option AV), (-2147483648 ≤ b ∧ b ≤ 2147483647) → STo β mdF h0 h → hV h 76 34 = vI (n : Int) → PRM n (rF h) → B ≤ rV (rF h) n + e → XP (d + 10) 305 22 [some (vR 76), some (vI mask), some (vI k), some (vI b), some (vI 1), l5, l6] [] h Q := by
  intro e
  induction e with
  | zero => intro h b l5 l6 hb hS hn hP he; have := hB _ hP; omega
  | succ e ih =>
    intro h b l5 l6 hb hS hn hP he
    have o1 := (AO_J hS.1).1
    -- behind 88
    have next : ∀ (h2 : AH) (b' : Int) (l5' : Int) (l6' : Option AV), (-2147483648 ≤ b' ∧ b' ≤ 2147483647) → STo β md90 h h2 → XP (d + 10) 305 88 [some (vR 76), some (vI mask), some (vI k), some (vI b'), some (vI 1), some (vI l5'), l6'] [] h2 Q := by
      intro h2 b' l5' l6' hb' hS2
      have o2 := (AO_J hS2.1).1
      have hn2 : hV h2 76 34 = vI (n : Int) := (ST_n hS2 (by decide)).trans hn
      have rr : rF h2 = rF h := by funext i; unfold rF; rw [ST_n hS2 (k := 89) (by decide)]
      have S2 : STo β mdF h0 h2 := ST_t hS hS2.1 hS2.2 (by decide +kernel)
      obtain ⟨r, g, hg, e2⟩ := X_nr (d := d + 9) (f := rF h2) (NRO_J hS2.1 hn2) hn8 (by rw [rr]; exact hP)
      rw [hG_0 (fun i hi => (rF_v hS2.1 hi).1)] at e2
      rcases hg with ⟨rfl, rfl⟩ | ⟨rfl, g1, g2⟩
      · rw [hG_0 (fun i hi => (rF_v hS2.1 hi).1)] at e2
        have y := fs_x (d := d + 10) (mask := mask) (l5 := some (vI l5')) (l6 := l6') hk hb' hn8 hn2 S2 hQ
        refine xpk_sound (stops := [22]) (n := 20) ?_
        simp only [sk_0, sk_1, sk_2, sk_3, sk_4, sk_5, sk_6, sk_7, sk_8, sk_iadd, sk_isub, sk_imul, sk_iand, sk_ior, sk_ixor, sk_ishl, sk_ishr, sk_iushr, sk_idiv, sk_irem, sk_ineg, sk_ladd, sk_lsub, sk_lmul, sk_land, sk_lor, sk_ldiv, sk_lrem, sk_lneg, sk_lshl, sk_lshr, sk_i2l, sk_l2i, sk_lcmp, sk_dupI, sk_dupR, sk_dup2L, sk_dup2I, sk_popI, sk_ifeq, sk_ifne, sk_iflt, sk_ifge, sk_ifgt, sk_ifle, sk_iceq, sk_icne, sk_iclt, sk_icge, sk_icgt, sk_icle, sk_goto, sk_getf, sk_putf, sk_gets, sk_iald, sk_lald, sk_bald, sk_aald, sk_iast, sk_last, sk_bast, sk_aast, sk_alen, sk_newa, sk_newt, sk_new, sk_cs1, sk_cs2, sk_cs3, sk_cs4, sk_cs5, sk_cs6, sk_cv1, sk_cv2, sk_cv3, sk_cv4, sk_cv5, sk_cv6, sk_ci1, sk_ci2, sk_ci3, sk_ret0, sk_retI, sk_retL, sk_retR, sk_sw, sk_oin, sk_max, sk_min, sk_abs, lI_0, lI_s, lL_0, lL_s, lR_0, lR_s, vIo_e, vLo_e, vOo_e, stW_I, stW_L, stW_R, stW_0, stW_z, okSt_0, okSt_s, hV_eq, hK_eq, okF_0, okF_1, okF_3, is01_0, is01_1, is01_i, Int.toNat_natCast, Int.reduceEq, Int.reduceLE, Int.reduceLT, Int.reduceNeg, Nat.reduceLT, not_true_eq_false, not_false_eq_true, reduceIte, Option.toList, List.cons_append, List.nil_append, List.set_cons_zero, List.set_cons_succ, List.not_mem_nil, List.mem_cons, if_false, if_true, ite_true, ite_false, and_self, and_true, true_and, Nat.reduceAdd, Nat.reduceLeDiff, Nat.reduceEqDiff, Nat.zero_add, Nat.le_refl, Nat.zero_le, or_false, false_or, Int.reduceToNat, or_true, true_or, eq_self, and_false, false_and, inR_d, nc_4, nc_5, nc_6, nc_7, nc_8, nc_16, nc_18, nc_20, nc_24, nc_32, nc_40, nc_64, nc_104, nc_120, nc_160, nc_256, nc_300, nc_330, nc_390, nc_1200, nc_1260, nc_3012, nc_9834, okSt_1i, okSt_1r, okSt_1n, xpk_succ cd_305_88, xpk_succ cd_305_89, xpk_succ cd_305_92, xpk_succ cd_305_94, o2, e2]
        exact y
      · have S3 : STo β mdF h0 (hG 89 8 h2 g) := ST_G S2 g1.2 (by decide +kernel)
        have eg : ∀ i, i < 8 → rF (hG 89 8 h2 g) i = g i := fun i hi => by unfold rF; rw [hG_V hi]; rfl
        have g1' : PRM n (rF (hG 89 8 h2 g)) := ⟨fun i j hi hj hij => by rw [eg i (by omega), eg j (by omega)]; exact g1.1 i j hi hj hij, fun i hi => by rw [eg i hi]; exact g1.2 i hi⟩
        have e3 : rV (rF (hG 89 8 h2 g)) n = rV g n := rV_eq (fun i hi => eg i (by omega))
        rw [rr] at g2
        have y := ih (hG 89 8 h2 g) b' (some (vI l5')) l6' hb' S3 (by rw [hG_n (by decide)]; exact hn2) g1' (by rw [e3]; omega)
        refine xpk_sound (stops := [22]) (n := 20) ?_
        simp only [sk_0, sk_1, sk_2, sk_3, sk_4, sk_5, sk_6, sk_7, sk_8, sk_iadd, sk_isub, sk_imul, sk_iand, sk_ior, sk_ixor, sk_ishl, sk_ishr, sk_iushr, sk_idiv, sk_irem, sk_ineg, sk_ladd, sk_lsub, sk_lmul, sk_land, sk_lor, sk_ldiv, sk_lrem, sk_lneg, sk_lshl, sk_lshr, sk_i2l, sk_l2i, sk_lcmp, sk_dupI, sk_dupR, sk_dup2L, sk_dup2I, sk_popI, sk_ifeq, sk_ifne, sk_iflt, sk_ifge, sk_ifgt, sk_ifle, sk_iceq, sk_icne, sk_iclt, sk_icge, sk_icgt, sk_icle, sk_goto, sk_getf, sk_putf, sk_gets, sk_iald, sk_lald, sk_bald, sk_aald, sk_iast, sk_last, sk_bast, sk_aast, sk_alen, sk_newa, sk_newt, sk_new, sk_cs1, sk_cs2, sk_cs3, sk_cs4, sk_cs5, sk_cs6, sk_cv1, sk_cv2, sk_cv3, sk_cv4, sk_cv5, sk_cv6, sk_ci1, sk_ci2, sk_ci3, sk_ret0, sk_retI, sk_retL, sk_retR, sk_sw, sk_oin, sk_max, sk_min, sk_abs, lI_0, lI_s, lL_0, lL_s, lR_0, lR_s, vIo_e, vLo_e, vOo_e, stW_I, stW_L, stW_R, stW_0, stW_z, okSt_0, okSt_s, hV_eq, hK_eq, okF_0, okF_1, okF_3, is01_0, is01_1, is01_i, Int.toNat_natCast, Int.reduceEq, Int.reduceLE, Int.reduceLT, Int.reduceNeg, Nat.reduceLT, not_true_eq_false, not_false_eq_true, reduceIte, Option.toList, List.cons_append, List.nil_append, List.set_cons_zero, List.set_cons_succ, List.not_mem_nil, List.mem_cons, if_false, if_true, ite_true, ite_false, and_self, and_true, true_and, Nat.reduceAdd, Nat.reduceLeDiff, Nat.reduceEqDiff, Nat.zero_add, Nat.le_refl, Nat.zero_le, or_false, false_or, Int.reduceToNat, or_true, true_or, eq_self, and_false, false_and, inR_d, nc_4, nc_5, nc_6, nc_7, nc_8, nc_16, nc_18, nc_20, nc_24, nc_32, nc_40, nc_64, nc_104, nc_120, nc_160, nc_256, nc_300, nc_330, nc_390, nc_1200, nc_1260, nc_3012, nc_9834, okSt_1i, okSt_1r, okSt_1n, xpk_succ cd_305_88, xpk_succ cd_305_89, xpk_succ cd_305_92, xpk_succ cd_305_94, o2, e2]
        exact y
    obtain ⟨w, h', ⟨hw, J', F'⟩, ew⟩ := X_w (d := d + 9) (okM304 (β := β)) (by show 2 ≤ d + 9 + 1; omega) rfl rfl ⟨_, _, rfl, rfl, rfl⟩ hS.1 hS.2.1.2
    have hh : h' = h := same_h hS.1 J' F'
    subst hh
    have Sr : STo β md90 h' h' := ST_r J' F'.1.2
    have lay : XP (d + 10) 305 48 [some (vR 76), some (vI mask), some (vI k), some (vI b), some (vI 1), some (vI w), l6] [] h' Q := by
      have y := fs_i (β := β) (d := d + 10) (mask := mask) (k := k) (b := w) (l4 := 1) (l5 := w) hn8 hn (fun h2 x6 hS2 => next h2 w w (some (vI x6)) hw hS2) n 0 h' (by omega) Sr
      refine xpk_sound (stops := [54]) (n := 10) ?_
      simp only [sk_0, sk_1, sk_2, sk_3, sk_4, sk_5, sk_6, sk_7, sk_8, sk_iadd, sk_isub, sk_imul, sk_iand, sk_ior, sk_ixor, sk_ishl, sk_ishr, sk_iushr, sk_idiv, sk_irem, sk_ineg, sk_ladd, sk_lsub, sk_lmul, sk_land, sk_lor, sk_ldiv, sk_lrem, sk_lneg, sk_lshl, sk_lshr, sk_i2l, sk_l2i, sk_lcmp, sk_dupI, sk_dupR, sk_dup2L, sk_dup2I, sk_popI, sk_ifeq, sk_ifne, sk_iflt, sk_ifge, sk_ifgt, sk_ifle, sk_iceq, sk_icne, sk_iclt, sk_icge, sk_icgt, sk_icle, sk_goto, sk_getf, sk_putf, sk_gets, sk_iald, sk_lald, sk_bald, sk_aald, sk_iast, sk_last, sk_bast, sk_aast, sk_alen, sk_newa, sk_newt, sk_new, sk_cs1, sk_cs2, sk_cs3, sk_cs4, sk_cs5, sk_cs6, sk_cv1, sk_cv2, sk_cv3, sk_cv4, sk_cv5, sk_cv6, sk_ci1, sk_ci2, sk_ci3, sk_ret0, sk_retI, sk_retL, sk_retR, sk_sw, sk_oin, sk_max, sk_min, sk_abs, lI_0, lI_s, lL_0, lL_s, lR_0, lR_s, vIo_e, vLo_e, vOo_e, stW_I, stW_L, stW_R, stW_0, stW_z, okSt_0, okSt_s, hV_eq, hK_eq, okF_0, okF_1, okF_3, is01_0, is01_1, is01_i, Int.toNat_natCast, Int.reduceEq, Int.reduceLE, Int.reduceLT, Int.reduceNeg, Nat.reduceLT, not_true_eq_false, not_false_eq_true, reduceIte, Option.toList, List.cons_append, List.nil_append, List.set_cons_zero, List.set_cons_succ, List.not_mem_nil, List.mem_cons, if_false, if_true, ite_true, ite_false, and_self, and_true, true_and, Nat.reduceAdd, Nat.reduceLeDiff, Nat.reduceEqDiff, Nat.zero_add, Nat.le_refl, Nat.zero_le, or_false, false_or, Int.reduceToNat, or_true, true_or, eq_self, and_false, false_and, inR_d, nc_4, nc_5, nc_6, nc_7, nc_8, nc_16, nc_18, nc_20, nc_24, nc_32, nc_40, nc_64, nc_104, nc_120, nc_160, nc_256, nc_300, nc_330, nc_390, nc_1200, nc_1260, nc_3012, nc_9834, okSt_1i, okSt_1r, okSt_1n, xpk_succ cd_305_48, xpk_succ cd_305_50, xpk_succ cd_305_51, xpk_succ cd_305_52]
      exact y
    by_cases z1 : w < 0
    · have y := next h' b w l6 hb Sr
      refine xpk_sound (stops := [48, 88]) (n := 20) ?_
      simp only [sk_0, sk_1, sk_2, sk_3, sk_4, sk_5, sk_6, sk_7, sk_8, sk_iadd, sk_isub, sk_imul, sk_iand, sk_ior, sk_ixor, sk_ishl, sk_ishr, sk_iushr, sk_idiv, sk_irem, sk_ineg, sk_ladd, sk_lsub, sk_lmul, sk_land, sk_lor, sk_ldiv, sk_lrem, sk_lneg, sk_lshl, sk_lshr, sk_i2l, sk_l2i, sk_lcmp, sk_dupI, sk_dupR, sk_dup2L, sk_dup2I, sk_popI, sk_ifeq, sk_ifne, sk_iflt, sk_ifge, sk_ifgt, sk_ifle, sk_iceq, sk_icne, sk_iclt, sk_icge, sk_icgt, sk_icle, sk_goto, sk_getf, sk_putf, sk_gets, sk_iald, sk_lald, sk_bald, sk_aald, sk_iast, sk_last, sk_bast, sk_aast, sk_alen, sk_newa, sk_newt, sk_new, sk_cs1, sk_cs2, sk_cs3, sk_cs4, sk_cs5, sk_cs6, sk_cv1, sk_cv2, sk_cv3, sk_cv4, sk_cv5, sk_cv6, sk_ci1, sk_ci2, sk_ci3, sk_ret0, sk_retI, sk_retL, sk_retR, sk_sw, sk_oin, sk_max, sk_min, sk_abs, lI_0, lI_s, lL_0, lL_s, lR_0, lR_s, vIo_e, vLo_e, vOo_e, stW_I, stW_L, stW_R, stW_0, stW_z, okSt_0, okSt_s, hV_eq, hK_eq, okF_0, okF_1, okF_3, is01_0, is01_1, is01_i, Int.toNat_natCast, Int.reduceEq, Int.reduceLE, Int.reduceLT, Int.reduceNeg, Nat.reduceLT, not_true_eq_false, not_false_eq_true, reduceIte, Option.toList, List.cons_append, List.nil_append, List.set_cons_zero, List.set_cons_succ, List.not_mem_nil, List.mem_cons, if_false, if_true, ite_true, ite_false, and_self, and_true, true_and, Nat.reduceAdd, Nat.reduceLeDiff, Nat.reduceEqDiff, Nat.zero_add, Nat.le_refl, Nat.zero_le, or_false, false_or, Int.reduceToNat, or_true, true_or, eq_self, and_false, false_and, inR_d, nc_4, nc_5, nc_6, nc_7, nc_8, nc_16, nc_18, nc_20, nc_24, nc_32, nc_40, nc_64, nc_104, nc_120, nc_160, nc_256, nc_300, nc_330, nc_390, nc_1200, nc_1260, nc_3012, nc_9834, okSt_1i, okSt_1r, okSt_1n, xpk_succ cd_305_22, xpk_succ cd_305_24, xpk_succ cd_305_27, xpk_succ cd_305_28, xpk_succ cd_305_31, xpk_succ cd_305_33, xpk_succ cd_305_35, o1, ew, z1]
      exact y
    · by_cases z2 : b < 0
      · refine xpk_sound (stops := [48, 88]) (n := 20) ?_
        simp only [sk_0, sk_1, sk_2, sk_3, sk_4, sk_5, sk_6, sk_7, sk_8, sk_iadd, sk_isub, sk_imul, sk_iand, sk_ior, sk_ixor, sk_ishl, sk_ishr, sk_iushr, sk_idiv, sk_irem, sk_ineg, sk_ladd, sk_lsub, sk_lmul, sk_land, sk_lor, sk_ldiv, sk_lrem, sk_lneg, sk_lshl, sk_lshr, sk_i2l, sk_l2i, sk_lcmp, sk_dupI, sk_dupR, sk_dup2L, sk_dup2I, sk_popI, sk_ifeq, sk_ifne, sk_iflt, sk_ifge, sk_ifgt, sk_ifle, sk_iceq, sk_icne, sk_iclt, sk_icge, sk_icgt, sk_icle, sk_goto, sk_getf, sk_putf, sk_gets, sk_iald, sk_lald, sk_bald, sk_aald, sk_iast, sk_last, sk_bast, sk_aast, sk_alen, sk_newa, sk_newt, sk_new, sk_cs1, sk_cs2, sk_cs3, sk_cs4, sk_cs5, sk_cs6, sk_cv1, sk_cv2, sk_cv3, sk_cv4, sk_cv5, sk_cv6, sk_ci1, sk_ci2, sk_ci3, sk_ret0, sk_retI, sk_retL, sk_retR, sk_sw, sk_oin, sk_max, sk_min, sk_abs, lI_0, lI_s, lL_0, lL_s, lR_0, lR_s, vIo_e, vLo_e, vOo_e, stW_I, stW_L, stW_R, stW_0, stW_z, okSt_0, okSt_s, hV_eq, hK_eq, okF_0, okF_1, okF_3, is01_0, is01_1, is01_i, Int.toNat_natCast, Int.reduceEq, Int.reduceLE, Int.reduceLT, Int.reduceNeg, Nat.reduceLT, not_true_eq_false, not_false_eq_true, reduceIte, Option.toList, List.cons_append, List.nil_append, List.set_cons_zero, List.set_cons_succ, List.not_mem_nil, List.mem_cons, if_false, if_true, ite_true, ite_false, and_self, and_true, true_and, Nat.reduceAdd, Nat.reduceLeDiff, Nat.reduceEqDiff, Nat.zero_add, Nat.le_refl, Nat.zero_le, or_false, false_or, Int.reduceToNat, or_true, true_or, eq_self, and_false, false_and, inR_d, nc_4, nc_5, nc_6, nc_7, nc_8, nc_16, nc_18, nc_20, nc_24, nc_32, nc_40, nc_64, nc_104, nc_120, nc_160, nc_256, nc_300, nc_330, nc_390, nc_1200, nc_1260, nc_3012, nc_9834, okSt_1i, okSt_1r, okSt_1n, xpk_succ cd_305_22, xpk_succ cd_305_24, xpk_succ cd_305_27, xpk_succ cd_305_28, xpk_succ cd_305_31, xpk_succ cd_305_33, xpk_succ cd_305_35, xpk_succ cd_305_38, xpk_succ cd_305_39, o1, ew, z1, z2]
        exact lay
      · by_cases z3 : b ≤ w
        · have y := next h' b w l6 hb Sr
          refine xpk_sound (stops := [48, 88]) (n := 20) ?_
          simp only [sk_0, sk_1, sk_2, sk_3, sk_4, sk_5, sk_6, sk_7, sk_8, sk_iadd, sk_isub, sk_imul, sk_iand, sk_ior, sk_ixor, sk_ishl, sk_ishr, sk_iushr, sk_idiv, sk_irem, sk_ineg, sk_ladd, sk_lsub, sk_lmul, sk_land, sk_lor, sk_ldiv, sk_lrem, sk_lneg, sk_lshl, sk_lshr, sk_i2l, sk_l2i, sk_lcmp, sk_dupI, sk_dupR, sk_dup2L, sk_dup2I, sk_popI, sk_ifeq, sk_ifne, sk_iflt, sk_ifge, sk_ifgt, sk_ifle, sk_iceq, sk_icne, sk_iclt, sk_icge, sk_icgt, sk_icle, sk_goto, sk_getf, sk_putf, sk_gets, sk_iald, sk_lald, sk_bald, sk_aald, sk_iast, sk_last, sk_bast, sk_aast, sk_alen, sk_newa, sk_newt, sk_new, sk_cs1, sk_cs2, sk_cs3, sk_cs4, sk_cs5, sk_cs6, sk_cv1, sk_cv2, sk_cv3, sk_cv4, sk_cv5, sk_cv6, sk_ci1, sk_ci2, sk_ci3, sk_ret0, sk_retI, sk_retL, sk_retR, sk_sw, sk_oin, sk_max, sk_min, sk_abs, lI_0, lI_s, lL_0, lL_s, lR_0, lR_s, vIo_e, vLo_e, vOo_e, stW_I, stW_L, stW_R, stW_0, stW_z, okSt_0, okSt_s, hV_eq, hK_eq, okF_0, okF_1, okF_3, is01_0, is01_1, is01_i, Int.toNat_natCast, Int.reduceEq, Int.reduceLE, Int.reduceLT, Int.reduceNeg, Nat.reduceLT, not_true_eq_false, not_false_eq_true, reduceIte, Option.toList, List.cons_append, List.nil_append, List.set_cons_zero, List.set_cons_succ, List.not_mem_nil, List.mem_cons, if_false, if_true, ite_true, ite_false, and_self, and_true, true_and, Nat.reduceAdd, Nat.reduceLeDiff, Nat.reduceEqDiff, Nat.zero_add, Nat.le_refl, Nat.zero_le, or_false, false_or, Int.reduceToNat, or_true, true_or, eq_self, and_false, false_and, inR_d, nc_4, nc_5, nc_6, nc_7, nc_8, nc_16, nc_18, nc_20, nc_24, nc_32, nc_40, nc_64, nc_104, nc_120, nc_160, nc_256, nc_300, nc_330, nc_390, nc_1200, nc_1260, nc_3012, nc_9834, okSt_1i, okSt_1r, okSt_1n, xpk_succ cd_305_22, xpk_succ cd_305_24, xpk_succ cd_305_27, xpk_succ cd_305_28, xpk_succ cd_305_31, xpk_succ cd_305_33, xpk_succ cd_305_35, xpk_succ cd_305_38, xpk_succ cd_305_39, xpk_succ cd_305_42, xpk_succ cd_305_44, xpk_succ cd_305_45, o1, ew, z1, z2, z3]
          exact y
        · refine xpk_sound (stops := [48, 88]) (n := 20) ?_
          simp only [sk_0, sk_1, sk_2, sk_3, sk_4, sk_5, sk_6, sk_7, sk_8, sk_iadd, sk_isub, sk_imul, sk_iand, sk_ior, sk_ixor, sk_ishl, sk_ishr, sk_iushr, sk_idiv, sk_irem, sk_ineg, sk_ladd, sk_lsub, sk_lmul, sk_land, sk_lor, sk_ldiv, sk_lrem, sk_lneg, sk_lshl, sk_lshr, sk_i2l, sk_l2i, sk_lcmp, sk_dupI, sk_dupR, sk_dup2L, sk_dup2I, sk_popI, sk_ifeq, sk_ifne, sk_iflt, sk_ifge, sk_ifgt, sk_ifle, sk_iceq, sk_icne, sk_iclt, sk_icge, sk_icgt, sk_icle, sk_goto, sk_getf, sk_putf, sk_gets, sk_iald, sk_lald, sk_bald, sk_aald, sk_iast, sk_last, sk_bast, sk_aast, sk_alen, sk_newa, sk_newt, sk_new, sk_cs1, sk_cs2, sk_cs3, sk_cs4, sk_cs5, sk_cs6, sk_cv1, sk_cv2, sk_cv3, sk_cv4, sk_cv5, sk_cv6, sk_ci1, sk_ci2, sk_ci3, sk_ret0, sk_retI, sk_retL, sk_retR, sk_sw, sk_oin, sk_max, sk_min, sk_abs, lI_0, lI_s, lL_0, lL_s, lR_0, lR_s, vIo_e, vLo_e, vOo_e, stW_I, stW_L, stW_R, stW_0, stW_z, okSt_0, okSt_s, hV_eq, hK_eq, okF_0, okF_1, okF_3, is01_0, is01_1, is01_i, Int.toNat_natCast, Int.reduceEq, Int.reduceLE, Int.reduceLT, Int.reduceNeg, Nat.reduceLT, not_true_eq_false, not_false_eq_true, reduceIte, Option.toList, List.cons_append, List.nil_append, List.set_cons_zero, List.set_cons_succ, List.not_mem_nil, List.mem_cons, if_false, if_true, ite_true, ite_false, and_self, and_true, true_and, Nat.reduceAdd, Nat.reduceLeDiff, Nat.reduceEqDiff, Nat.zero_add, Nat.le_refl, Nat.zero_le, or_false, false_or, Int.reduceToNat, or_true, true_or, eq_self, and_false, false_and, inR_d, nc_4, nc_5, nc_6, nc_7, nc_8, nc_16, nc_18, nc_20, nc_24, nc_32, nc_40, nc_64, nc_104, nc_120, nc_160, nc_256, nc_300, nc_330, nc_390, nc_1200, nc_1260, nc_3012, nc_9834, okSt_1i, okSt_1r, okSt_1n, xpk_succ cd_305_22, xpk_succ cd_305_24, xpk_succ cd_305_27, xpk_succ cd_305_28, xpk_succ cd_305_31, xpk_succ cd_305_33, xpk_succ cd_305_35, xpk_succ cd_305_38, xpk_succ cd_305_39, xpk_succ cd_305_42, xpk_succ cd_305_44, xpk_succ cd_305_45, o1, ew, z1, z2, z3]
          exact lay
theorem prm_0 {n : Nat} {h : AH} (hJ : k_H JB h) (hn8 : n ≤ 8) (hi : ∀ i, i < n → hV h 89 i = vI (i : Int)) : PRM n (rF h) := by
  have e : ∀ i, i < n → rF h i = (i : Int) := fun i h1 => by unfold rF; rw [hi i h1]; rfl
  exact ⟨fun i j h1 h2 h3 => by rw [e i h1, e j h2]; omega, fun i h1 => (rF_v hJ h1).2⟩
theorem ten_S {β : Nat} {h0 h : AH} (hS : STo β mdF h0 h) (hp : k_F [(77, 16, .inr (false, 0, 9999))] h0) : k_F [(77, 16, .inr (false, 0, 9999))] h := by
  intro f hf
  have := hp f hf
  rcases List.mem_cons.mp hf with rfl | hf
  · rw [show hV h (77, 16, (Sum.inr (false, 0, 9999) : SAV)).1 (77, 16, (Sum.inr (false, 0, 9999) : SAV)).2.1 = hV h0 77 16 from ST_n hS (k := 77) (by decide)]
    exact this
  · cases hf
set_option maxHeartbeats 4000000 in
theorem hok305_0 {β : Nat} : KOK JB (W0 β) 305 hk305_0 := by
  intro d vs h Q hd ha hJ hW hp hQ
  obtain ⟨v1, t1, rfl, e1, v2, t2, rfl, ⟨mask, rfl, m1, m2⟩, v3, t3, rfl, ⟨k, rfl, k1, k2⟩, e3⟩ := ha
  have e1 : v1 = vR 76 := e1
  have e3 : t3 = [] := e3
  subst e1 e3
  obtain ⟨d, rfl⟩ : ∃ d', d = d' + 12 := ⟨d - 12, by have hd : 20 ≤ d := hd; omega⟩
  have F : ∀ (x : Int) (h' : AH), (-2147483648 ≤ x ∧ x ≤ 2147483647) → STo β mdF h h' → Q (some (vI x)) h' := fun x h' hx hS => hQ _ _ ⟨_, rfl, x, rfl, hx.1, hx.2⟩ hS.1 (ten_S hS hp) (fun q hq => by cases hq) hS.2
  have o1 := (AO_J hJ).1
  obtain ⟨r, h', ⟨x, rfl, hx⟩, e⟩ := XC_dt (X_lm (d := d) (mask := mask) (most := 7) hJ hW)
  refine XC_of (Nat.le_of_ble_eq_true rfl) ?_
  show XP (d + 11) 305 0 [some (vR 76), some (vI mask), some (vI k), none, none, none, none] [] h _
  rcases hx with ⟨rfl, rfl⟩ | ⟨rfl, hS, n, hn8, hL⟩
  · have y := F (-1) h' (by decide) (ST_r hJ hW)
    refine xpk_sound (stops := []) (n := 20) ?_
    simp only [sk_0, sk_1, sk_2, sk_3, sk_4, sk_5, sk_6, sk_7, sk_8, sk_iadd, sk_isub, sk_imul, sk_iand, sk_ior, sk_ixor, sk_ishl, sk_ishr, sk_iushr, sk_idiv, sk_irem, sk_ineg, sk_ladd, sk_lsub, sk_lmul, sk_land, sk_lor, sk_ldiv, sk_lrem, sk_lneg, sk_lshl, sk_lshr, sk_i2l, sk_l2i, sk_lcmp, sk_dupI, sk_dupR, sk_dup2L, sk_dup2I, sk_popI, sk_ifeq, sk_ifne, sk_iflt, sk_ifge, sk_ifgt, sk_ifle, sk_iceq, sk_icne, sk_iclt, sk_icge, sk_icgt, sk_icle, sk_goto, sk_getf, sk_putf, sk_gets, sk_iald, sk_lald, sk_bald, sk_aald, sk_iast, sk_last, sk_bast, sk_aast, sk_alen, sk_newa, sk_newt, sk_new, sk_cs1, sk_cs2, sk_cs3, sk_cs4, sk_cs5, sk_cs6, sk_cv1, sk_cv2, sk_cv3, sk_cv4, sk_cv5, sk_cv6, sk_ci1, sk_ci2, sk_ci3, sk_ret0, sk_retI, sk_retL, sk_retR, sk_sw, sk_oin, sk_max, sk_min, sk_abs, lI_0, lI_s, lL_0, lL_s, lR_0, lR_s, vIo_e, vLo_e, vOo_e, stW_I, stW_L, stW_R, stW_0, stW_z, okSt_0, okSt_s, hV_eq, hK_eq, okF_0, okF_1, okF_3, is01_0, is01_1, is01_i, Int.toNat_natCast, Int.reduceEq, Int.reduceLE, Int.reduceLT, Int.reduceNeg, Nat.reduceLT, not_true_eq_false, not_false_eq_true, reduceIte, Option.toList, List.cons_append, List.nil_append, List.set_cons_zero, List.set_cons_succ, List.not_mem_nil, List.mem_cons, if_false, if_true, ite_true, ite_false, and_self, and_true, true_and, Nat.reduceAdd, Nat.reduceLeDiff, Nat.reduceEqDiff, Nat.zero_add, Nat.le_refl, Nat.zero_le, or_false, false_or, Int.reduceToNat, or_true, true_or, eq_self, and_false, false_and, inR_d, nc_4, nc_5, nc_6, nc_7, nc_8, nc_16, nc_18, nc_20, nc_24, nc_32, nc_40, nc_64, nc_104, nc_120, nc_160, nc_256, nc_300, nc_330, nc_390, nc_1200, nc_1260, nc_3012, nc_9834, okSt_1i, okSt_1r, okSt_1n, xpk_succ cd_305_0, xpk_succ cd_305_1, xpk_succ cd_305_2, xpk_succ cd_305_4, xpk_succ cd_305_7, xpk_succ cd_305_10, xpk_succ cd_305_11, xpk_succ cd_305_12, xpk_succ cd_305_15, xpk_succ cd_305_16, o1, e]
    exact y
  · by_cases z : -1 ≤ k
    · have hP := prm_0 hS.1 hn8 hL.2.2.1
      have y := fs_l (β := β) (d := d + 1) (mask := mask) (B := 8 ^ n) (fun g hg => (rV_b hg.2 n hn8).2) z hn8 F ((8 : Int) ^ n).toNat h' (-1) none none (by decide) hS hL.1 hP (by have h1 := (rV_b hP.2 n hn8).1; have h2 := (rV_b hP.2 n hn8).2; generalize (8 : Int) ^ n = B at *; omega)
      refine xpk_sound (stops := [22]) (n := 20) ?_
      simp only [sk_0, sk_1, sk_2, sk_3, sk_4, sk_5, sk_6, sk_7, sk_8, sk_iadd, sk_isub, sk_imul, sk_iand, sk_ior, sk_ixor, sk_ishl, sk_ishr, sk_iushr, sk_idiv, sk_irem, sk_ineg, sk_ladd, sk_lsub, sk_lmul, sk_land, sk_lor, sk_ldiv, sk_lrem, sk_lneg, sk_lshl, sk_lshr, sk_i2l, sk_l2i, sk_lcmp, sk_dupI, sk_dupR, sk_dup2L, sk_dup2I, sk_popI, sk_ifeq, sk_ifne, sk_iflt, sk_ifge, sk_ifgt, sk_ifle, sk_iceq, sk_icne, sk_iclt, sk_icge, sk_icgt, sk_icle, sk_goto, sk_getf, sk_putf, sk_gets, sk_iald, sk_lald, sk_bald, sk_aald, sk_iast, sk_last, sk_bast, sk_aast, sk_alen, sk_newa, sk_newt, sk_new, sk_cs1, sk_cs2, sk_cs3, sk_cs4, sk_cs5, sk_cs6, sk_cv1, sk_cv2, sk_cv3, sk_cv4, sk_cv5, sk_cv6, sk_ci1, sk_ci2, sk_ci3, sk_ret0, sk_retI, sk_retL, sk_retR, sk_sw, sk_oin, sk_max, sk_min, sk_abs, lI_0, lI_s, lL_0, lL_s, lR_0, lR_s, vIo_e, vLo_e, vOo_e, stW_I, stW_L, stW_R, stW_0, stW_z, okSt_0, okSt_s, hV_eq, hK_eq, okF_0, okF_1, okF_3, is01_0, is01_1, is01_i, Int.toNat_natCast, Int.reduceEq, Int.reduceLE, Int.reduceLT, Int.reduceNeg, Nat.reduceLT, not_true_eq_false, not_false_eq_true, reduceIte, Option.toList, List.cons_append, List.nil_append, List.set_cons_zero, List.set_cons_succ, List.not_mem_nil, List.mem_cons, if_false, if_true, ite_true, ite_false, and_self, and_true, true_and, Nat.reduceAdd, Nat.reduceLeDiff, Nat.reduceEqDiff, Nat.zero_add, Nat.le_refl, Nat.zero_le, or_false, false_or, Int.reduceToNat, or_true, true_or, eq_self, and_false, false_and, inR_d, nc_4, nc_5, nc_6, nc_7, nc_8, nc_16, nc_18, nc_20, nc_24, nc_32, nc_40, nc_64, nc_104, nc_120, nc_160, nc_256, nc_300, nc_330, nc_390, nc_1200, nc_1260, nc_3012, nc_9834, okSt_1i, okSt_1r, okSt_1n, xpk_succ cd_305_0, xpk_succ cd_305_1, xpk_succ cd_305_2, xpk_succ cd_305_4, xpk_succ cd_305_7, xpk_succ cd_305_10, xpk_succ cd_305_11, xpk_succ cd_305_12, xpk_succ cd_305_15, xpk_succ cd_305_16, xpk_succ cd_305_17, xpk_succ cd_305_18, xpk_succ cd_305_19, xpk_succ cd_305_20, o1, e, z]
      exact y
    · have y := F (-1) h' (by decide) hS
      refine xpk_sound (stops := []) (n := 20) ?_
      simp only [sk_0, sk_1, sk_2, sk_3, sk_4, sk_5, sk_6, sk_7, sk_8, sk_iadd, sk_isub, sk_imul, sk_iand, sk_ior, sk_ixor, sk_ishl, sk_ishr, sk_iushr, sk_idiv, sk_irem, sk_ineg, sk_ladd, sk_lsub, sk_lmul, sk_land, sk_lor, sk_ldiv, sk_lrem, sk_lneg, sk_lshl, sk_lshr, sk_i2l, sk_l2i, sk_lcmp, sk_dupI, sk_dupR, sk_dup2L, sk_dup2I, sk_popI, sk_ifeq, sk_ifne, sk_iflt, sk_ifge, sk_ifgt, sk_ifle, sk_iceq, sk_icne, sk_iclt, sk_icge, sk_icgt, sk_icle, sk_goto, sk_getf, sk_putf, sk_gets, sk_iald, sk_lald, sk_bald, sk_aald, sk_iast, sk_last, sk_bast, sk_aast, sk_alen, sk_newa, sk_newt, sk_new, sk_cs1, sk_cs2, sk_cs3, sk_cs4, sk_cs5, sk_cs6, sk_cv1, sk_cv2, sk_cv3, sk_cv4, sk_cv5, sk_cv6, sk_ci1, sk_ci2, sk_ci3, sk_ret0, sk_retI, sk_retL, sk_retR, sk_sw, sk_oin, sk_max, sk_min, sk_abs, lI_0, lI_s, lL_0, lL_s, lR_0, lR_s, vIo_e, vLo_e, vOo_e, stW_I, stW_L, stW_R, stW_0, stW_z, okSt_0, okSt_s, hV_eq, hK_eq, okF_0, okF_1, okF_3, is01_0, is01_1, is01_i, Int.toNat_natCast, Int.reduceEq, Int.reduceLE, Int.reduceLT, Int.reduceNeg, Nat.reduceLT, not_true_eq_false, not_false_eq_true, reduceIte, Option.toList, List.cons_append, List.nil_append, List.set_cons_zero, List.set_cons_succ, List.not_mem_nil, List.mem_cons, if_false, if_true, ite_true, ite_false, and_self, and_true, true_and, Nat.reduceAdd, Nat.reduceLeDiff, Nat.reduceEqDiff, Nat.zero_add, Nat.le_refl, Nat.zero_le, or_false, false_or, Int.reduceToNat, or_true, true_or, eq_self, and_false, false_and, inR_d, nc_4, nc_5, nc_6, nc_7, nc_8, nc_16, nc_18, nc_20, nc_24, nc_32, nc_40, nc_64, nc_104, nc_120, nc_160, nc_256, nc_300, nc_330, nc_390, nc_1200, nc_1260, nc_3012, nc_9834, okSt_1i, okSt_1r, okSt_1n, xpk_succ cd_305_0, xpk_succ cd_305_1, xpk_succ cd_305_2, xpk_succ cd_305_4, xpk_succ cd_305_7, xpk_succ cd_305_10, xpk_succ cd_305_11, xpk_succ cd_305_12, xpk_succ cd_305_15, xpk_succ cd_305_16, xpk_succ cd_305_17, xpk_succ cd_305_18, xpk_succ cd_305_19, xpk_succ cd_305_20, o1, e, z]
      exact y
