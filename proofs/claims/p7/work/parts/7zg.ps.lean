set_option maxRecDepth 20000 in
theorem ac_248 : allC[248]? = some cl248 := rfl
theorem cd_248_0 : cd 248 0 = some (4, 1, 0, 0, 0, []) := cd_row ac_248 rfl
theorem cd_248_1 : cd 248 1 = some (23, 4, 10, 0, 0, []) := cd_row ac_248 rfl
theorem cd_248_4 : cd 248 4 = some (0, 5, 0, 0, 2, []) := cd_row ac_248 rfl
theorem cd_248_5 : cd 248 5 = some (26, 6, 0, 0, 0, []) := cd_row ac_248 rfl
theorem cd_248_6 : cd 248 6 = some (2, 7, 1, 0, 0, []) := cd_row ac_248 rfl
theorem cd_248_7 : cd 248 7 = some (9, 8, 0, 7, 0, []) := cd_row ac_248 rfl
theorem cd_248_8 : cd 248 8 = some (5, 9, 2, 0, 0, []) := cd_row ac_248 rfl
theorem cd_248_9 : cd 248 9 = some (4, 10, 0, 0, 0, []) := cd_row ac_248 rfl
theorem cd_248_10 : cd 248 10 = some (46, 13, 249, 1, 10, []) := cd_row ac_248 rfl
theorem cd_248_13 : cd 248 13 = some (2, 14, 2, 0, 0, []) := cd_row ac_248 rfl
theorem cd_248_14 : cd 248 14 = some (40, 15, 0, 0, 0, []) := cd_row ac_248 rfl
set_option maxRecDepth 20000 in
theorem ac_249 : allC[249]? = some cl249 := rfl
theorem cd_249_0 : cd 249 0 = some (4, 1, 0, 0, 0, []) := cd_row ac_249 rfl
theorem cd_249_1 : cd 249 1 = some (23, 4, 10, 0, 0, []) := cd_row ac_249 rfl
theorem cd_249_4 : cd 249 4 = some (0, 5, 0, 0, 2, []) := cd_row ac_249 rfl
theorem cd_249_5 : cd 249 5 = some (4, 6, 0, 0, 0, []) := cd_row ac_249 rfl
theorem cd_249_6 : cd 249 6 = some (23, 9, 10, 0, 0, []) := cd_row ac_249 rfl
theorem cd_249_9 : cd 249 9 = some (0, 10, 0, 0, 2, []) := cd_row ac_249 rfl
theorem cd_249_10 : cd 249 10 = some (26, 11, 0, 0, 0, []) := cd_row ac_249 rfl
theorem cd_249_11 : cd 249 11 = some (14, 12, 0, 0, 0, []) := cd_row ac_249 rfl
theorem cd_249_12 : cd 249 12 = some (1, 15, 0, 0, 263, []) := cd_row ac_249 rfl
theorem cd_249_15 : cd 249 15 = some (11, 16, 0, 2, 0, []) := cd_row ac_249 rfl
theorem cd_249_16 : cd 249 16 = some (1, 19, 0, 0, 157, []) := cd_row ac_249 rfl
theorem cd_249_19 : cd 249 19 = some (11, 20, 0, 0, 0, []) := cd_row ac_249 rfl
theorem cd_249_20 : cd 249 20 = some (1, 23, 0, 0, 30253, []) := cd_row ac_249 rfl
theorem cd_249_23 : cd 249 23 = some (11, 24, 0, 4, 0, []) := cd_row ac_249 rfl
theorem cd_249_24 : cd 249 24 = some (15, 25, 0, 0, 0, []) := cd_row ac_249 rfl
theorem cd_249_25 : cd 249 25 = some (30, 26, 0, 0, 0, []) := cd_row ac_249 rfl
theorem cd_249_26 : cd 249 26 = some (39, 27, 0, 0, 0, []) := cd_row ac_249 rfl
set_option maxRecDepth 20000 in
theorem ac_251 : allC[251]? = some cl251 := rfl
theorem cd_251_0 : cd 251 0 = some (4, 1, 0, 0, 0, []) := cd_row ac_251 rfl
theorem cd_251_1 : cd 251 1 = some (2, 2, 1, 0, 0, []) := cd_row ac_251 rfl
theorem cd_251_2 : cd 251 2 = some (46, 5, 250, 2, 10, []) := cd_row ac_251 rfl
theorem cd_251_5 : cd 251 5 = some (4, 6, 0, 0, 0, []) := cd_row ac_251 rfl
theorem cd_251_6 : cd 251 6 = some (46, 9, 244, 1, 10, []) := cd_row ac_251 rfl
theorem cd_251_9 : cd 251 9 = some (4, 10, 0, 0, 0, []) := cd_row ac_251 rfl
theorem cd_251_10 : cd 251 10 = some (0, 11, 0, 0, 0, []) := cd_row ac_251 rfl
theorem cd_251_11 : cd 251 11 = some (0, 12, 0, 0, 3, []) := cd_row ac_251 rfl
theorem cd_251_12 : cd 251 12 = some (0, 13, 0, 0, 0, []) := cd_row ac_251 rfl
theorem cd_251_13 : cd 251 13 = some (0, 15, 0, 0, 9, []) := cd_row ac_251 rfl
theorem cd_251_15 : cd 251 15 = some (46, 18, 242, 5, 10, []) := cd_row ac_251 rfl
theorem cd_251_18 : cd 251 18 = some (5, 19, 2, 0, 0, []) := cd_row ac_251 rfl
theorem cd_251_19 : cd 251 19 = some (4, 20, 0, 0, 0, []) := cd_row ac_251 rfl
theorem cd_251_20 : cd 251 20 = some (23, 23, 10, 0, 0, []) := cd_row ac_251 rfl
theorem cd_251_23 : cd 251 23 = some (0, 25, 0, 0, 9, []) := cd_row ac_251 rfl
theorem cd_251_25 : cd 251 25 = some (4, 26, 0, 0, 0, []) := cd_row ac_251 rfl
theorem cd_251_26 : cd 251 26 = some (23, 29, 10, 0, 0, []) := cd_row ac_251 rfl
theorem cd_251_29 : cd 251 29 = some (0, 31, 0, 0, 9, []) := cd_row ac_251 rfl
theorem cd_251_31 : cd 251 31 = some (26, 32, 0, 0, 0, []) := cd_row ac_251 rfl
theorem cd_251_32 : cd 251 32 = some (2, 33, 1, 0, 0, []) := cd_row ac_251 rfl
theorem cd_251_33 : cd 251 33 = some (9, 34, 0, 0, 0, []) := cd_row ac_251 rfl
theorem cd_251_34 : cd 251 34 = some (2, 35, 2, 0, 0, []) := cd_row ac_251 rfl
theorem cd_251_35 : cd 251 35 = some (10, 36, 0, 0, 0, []) := cd_row ac_251 rfl
theorem cd_251_36 : cd 251 36 = some (2, 37, 2, 0, 0, []) := cd_row ac_251 rfl
theorem cd_251_37 : cd 251 37 = some (38, 40, 183, 3, 0, []) := cd_row ac_251 rfl
theorem cd_251_40 : cd 251 40 = some (30, 41, 0, 0, 0, []) := cd_row ac_251 rfl
theorem cd_251_41 : cd 251 41 = some (4, 42, 0, 0, 0, []) := cd_row ac_251 rfl
theorem cd_251_42 : cd 251 42 = some (23, 45, 10, 0, 0, []) := cd_row ac_251 rfl
theorem cd_251_45 : cd 251 45 = some (0, 47, 0, 0, 8, []) := cd_row ac_251 rfl
theorem cd_251_47 : cd 251 47 = some (18, 48, 0, 0, 0, []) := cd_row ac_251 rfl
theorem cd_251_48 : cd 251 48 = some (26, 49, 0, 0, 0, []) := cd_row ac_251 rfl
theorem cd_251_49 : cd 251 49 = some (4, 50, 0, 0, 0, []) := cd_row ac_251 rfl
theorem cd_251_50 : cd 251 50 = some (23, 53, 10, 0, 0, []) := cd_row ac_251 rfl
theorem cd_251_53 : cd 251 53 = some (0, 55, 0, 0, 9, []) := cd_row ac_251 rfl
theorem cd_251_55 : cd 251 55 = some (26, 56, 0, 0, 0, []) := cd_row ac_251 rfl
theorem cd_251_56 : cd 251 56 = some (9, 57, 0, 0, 0, []) := cd_row ac_251 rfl
theorem cd_251_57 : cd 251 57 = some (30, 58, 0, 0, 0, []) := cd_row ac_251 rfl
theorem cd_251_58 : cd 251 58 = some (4, 59, 0, 0, 0, []) := cd_row ac_251 rfl
theorem cd_251_59 : cd 251 59 = some (23, 62, 10, 0, 0, []) := cd_row ac_251 rfl
theorem cd_251_62 : cd 251 62 = some (0, 64, 0, 0, 8, []) := cd_row ac_251 rfl
theorem cd_251_64 : cd 251 64 = some (26, 65, 0, 0, 0, []) := cd_row ac_251 rfl
theorem cd_251_65 : cd 251 65 = some (20, 68, 81, 2, 0, []) := cd_row ac_251 rfl
theorem cd_251_68 : cd 251 68 = some (4, 69, 0, 0, 0, []) := cd_row ac_251 rfl
theorem cd_251_69 : cd 251 69 = some (23, 72, 10, 0, 0, []) := cd_row ac_251 rfl
theorem cd_251_72 : cd 251 72 = some (0, 74, 0, 0, 8, []) := cd_row ac_251 rfl
theorem cd_251_74 : cd 251 74 = some (26, 75, 0, 0, 0, []) := cd_row ac_251 rfl
theorem cd_251_75 : cd 251 75 = some (0, 78, 0, 0, 600, []) := cd_row ac_251 rfl
theorem cd_251_78 : cd 251 78 = some (21, 81, 110, 5, 0, []) := cd_row ac_251 rfl
theorem cd_251_81 : cd 251 81 = some (4, 82, 0, 0, 0, []) := cd_row ac_251 rfl
theorem cd_251_82 : cd 251 82 = some (23, 85, 10, 0, 0, []) := cd_row ac_251 rfl
theorem cd_251_85 : cd 251 85 = some (0, 87, 0, 0, 8, []) := cd_row ac_251 rfl
theorem cd_251_87 : cd 251 87 = some (4, 88, 0, 0, 0, []) := cd_row ac_251 rfl
theorem cd_251_88 : cd 251 88 = some (23, 91, 10, 0, 0, []) := cd_row ac_251 rfl
theorem cd_251_91 : cd 251 91 = some (0, 93, 0, 0, 8, []) := cd_row ac_251 rfl
theorem cd_251_93 : cd 251 93 = some (26, 94, 0, 0, 0, []) := cd_row ac_251 rfl
theorem cd_251_94 : cd 251 94 = some (0, 95, 0, 0, 0, []) := cd_row ac_251 rfl
theorem cd_251_95 : cd 251 95 = some (0, 98, 0, 0, 600, []) := cd_row ac_251 rfl
theorem cd_251_98 : cd 251 98 = some (38, 101, 183, 3, 0, []) := cd_row ac_251 rfl
theorem cd_251_101 : cd 251 101 = some (30, 102, 0, 0, 0, []) := cd_row ac_251 rfl
theorem cd_251_102 : cd 251 102 = some (4, 103, 0, 0, 0, []) := cd_row ac_251 rfl
theorem cd_251_103 : cd 251 103 = some (23, 106, 10, 0, 0, []) := cd_row ac_251 rfl
theorem cd_251_106 : cd 251 106 = some (0, 108, 0, 0, 9, []) := cd_row ac_251 rfl
theorem cd_251_108 : cd 251 108 = some (0, 109, 0, 0, 0, []) := cd_row ac_251 rfl
theorem cd_251_109 : cd 251 109 = some (30, 110, 0, 0, 0, []) := cd_row ac_251 rfl
theorem cd_251_110 : cd 251 110 = some (4, 111, 0, 0, 0, []) := cd_row ac_251 rfl
theorem cd_251_111 : cd 251 111 = some (46, 114, 244, 1, 10, []) := cd_row ac_251 rfl
theorem cd_251_114 : cd 251 114 = some (4, 115, 0, 0, 0, []) := cd_row ac_251 rfl
theorem cd_251_115 : cd 251 115 = some (23, 118, 10, 0, 0, []) := cd_row ac_251 rfl
theorem cd_251_118 : cd 251 118 = some (0, 120, 0, 0, 11, []) := cd_row ac_251 rfl
theorem cd_251_120 : cd 251 120 = some (4, 121, 0, 0, 0, []) := cd_row ac_251 rfl
theorem cd_251_121 : cd 251 121 = some (23, 124, 10, 0, 0, []) := cd_row ac_251 rfl
theorem cd_251_124 : cd 251 124 = some (0, 126, 0, 0, 11, []) := cd_row ac_251 rfl
theorem cd_251_126 : cd 251 126 = some (26, 127, 0, 0, 0, []) := cd_row ac_251 rfl
theorem cd_251_127 : cd 251 127 = some (4, 128, 0, 0, 0, []) := cd_row ac_251 rfl
theorem cd_251_128 : cd 251 128 = some (0, 129, 0, 0, 1, []) := cd_row ac_251 rfl
theorem cd_251_129 : cd 251 129 = some (4, 130, 0, 0, 0, []) := cd_row ac_251 rfl
theorem cd_251_130 : cd 251 130 = some (46, 133, 243, 1, 10, []) := cd_row ac_251 rfl
theorem cd_251_133 : cd 251 133 = some (4, 134, 0, 0, 0, []) := cd_row ac_251 rfl
theorem cd_251_134 : cd 251 134 = some (23, 137, 10, 0, 0, []) := cd_row ac_251 rfl
theorem cd_251_137 : cd 251 137 = some (0, 139, 0, 0, 12, []) := cd_row ac_251 rfl
theorem cd_251_139 : cd 251 139 = some (26, 140, 0, 0, 0, []) := cd_row ac_251 rfl
theorem cd_251_140 : cd 251 140 = some (9, 141, 0, 6, 0, []) := cd_row ac_251 rfl
theorem cd_251_141 : cd 251 141 = some (0, 143, 0, 0, -99, []) := cd_row ac_251 rfl
theorem cd_251_143 : cd 251 143 = some (0, 145, 0, 0, 99, []) := cd_row ac_251 rfl
theorem cd_251_145 : cd 251 145 = some (38, 148, 183, 3, 0, []) := cd_row ac_251 rfl
theorem cd_251_148 : cd 251 148 = some (0, 150, 0, 0, -99, []) := cd_row ac_251 rfl
theorem cd_251_150 : cd 251 150 = some (0, 152, 0, 0, 99, []) := cd_row ac_251 rfl
theorem cd_251_152 : cd 251 152 = some (46, 155, 242, 5, 10, []) := cd_row ac_251 rfl
theorem cd_251_155 : cd 251 155 = some (9, 156, 0, 0, 0, []) := cd_row ac_251 rfl
theorem cd_251_156 : cd 251 156 = some (0, 158, 0, 0, -99, []) := cd_row ac_251 rfl
theorem cd_251_158 : cd 251 158 = some (0, 160, 0, 0, 99, []) := cd_row ac_251 rfl
theorem cd_251_160 : cd 251 160 = some (38, 163, 183, 3, 0, []) := cd_row ac_251 rfl
theorem cd_251_163 : cd 251 163 = some (30, 164, 0, 0, 0, []) := cd_row ac_251 rfl
theorem cd_251_164 : cd 251 164 = some (4, 165, 0, 0, 0, []) := cd_row ac_251 rfl
theorem cd_251_165 : cd 251 165 = some (23, 168, 10, 0, 0, []) := cd_row ac_251 rfl
theorem cd_251_168 : cd 251 168 = some (0, 170, 0, 0, 10, []) := cd_row ac_251 rfl
theorem cd_251_170 : cd 251 170 = some (4, 171, 0, 0, 0, []) := cd_row ac_251 rfl
theorem cd_251_171 : cd 251 171 = some (23, 174, 10, 0, 0, []) := cd_row ac_251 rfl
theorem cd_251_174 : cd 251 174 = some (0, 176, 0, 0, 10, []) := cd_row ac_251 rfl
theorem cd_251_176 : cd 251 176 = some (26, 177, 0, 0, 0, []) := cd_row ac_251 rfl
theorem cd_251_177 : cd 251 177 = some (4, 178, 0, 0, 0, []) := cd_row ac_251 rfl
theorem cd_251_178 : cd 251 178 = some (23, 181, 10, 0, 0, []) := cd_row ac_251 rfl
theorem cd_251_181 : cd 251 181 = some (0, 183, 0, 0, 11, []) := cd_row ac_251 rfl
theorem cd_251_183 : cd 251 183 = some (26, 184, 0, 0, 0, []) := cd_row ac_251 rfl
theorem cd_251_184 : cd 251 184 = some (9, 185, 0, 0, 0, []) := cd_row ac_251 rfl
theorem cd_251_185 : cd 251 185 = some (0, 188, 0, 0, -9999, []) := cd_row ac_251 rfl
theorem cd_251_188 : cd 251 188 = some (0, 191, 0, 0, 9999, []) := cd_row ac_251 rfl
theorem cd_251_191 : cd 251 191 = some (38, 194, 183, 3, 0, []) := cd_row ac_251 rfl
theorem cd_251_194 : cd 251 194 = some (30, 195, 0, 0, 0, []) := cd_row ac_251 rfl
theorem cd_251_195 : cd 251 195 = some (4, 196, 0, 0, 0, []) := cd_row ac_251 rfl
theorem cd_251_196 : cd 251 196 = some (23, 199, 10, 25, 0, []) := cd_row ac_251 rfl
theorem cd_251_199 : cd 251 199 = some (20, 202, 256, 1, 0, []) := cd_row ac_251 rfl
theorem cd_251_202 : cd 251 202 = some (4, 203, 0, 0, 0, []) := cd_row ac_251 rfl
theorem cd_251_203 : cd 251 203 = some (23, 206, 10, 0, 0, []) := cd_row ac_251 rfl
theorem cd_251_206 : cd 251 206 = some (0, 208, 0, 0, 14, []) := cd_row ac_251 rfl
theorem cd_251_208 : cd 251 208 = some (4, 209, 0, 0, 0, []) := cd_row ac_251 rfl
theorem cd_251_209 : cd 251 209 = some (23, 212, 10, 0, 0, []) := cd_row ac_251 rfl
theorem cd_251_212 : cd 251 212 = some (0, 214, 0, 0, 16, []) := cd_row ac_251 rfl
theorem cd_251_214 : cd 251 214 = some (26, 215, 0, 0, 0, []) := cd_row ac_251 rfl
theorem cd_251_215 : cd 251 215 = some (0, 216, 0, 0, 1, []) := cd_row ac_251 rfl
theorem cd_251_216 : cd 251 216 = some (9, 217, 0, 0, 0, []) := cd_row ac_251 rfl
theorem cd_251_217 : cd 251 217 = some (0, 219, 0, 0, 40, []) := cd_row ac_251 rfl
theorem cd_251_219 : cd 251 219 = some (9, 220, 0, 7, 0, []) := cd_row ac_251 rfl
theorem cd_251_220 : cd 251 220 = some (20, 223, 232, 1, 0, []) := cd_row ac_251 rfl
theorem cd_251_223 : cd 251 223 = some (4, 224, 0, 0, 0, []) := cd_row ac_251 rfl
theorem cd_251_224 : cd 251 224 = some (0, 226, 0, 0, 10, []) := cd_row ac_251 rfl
theorem cd_251_226 : cd 251 226 = some (46, 229, 248, 2, 10, []) := cd_row ac_251 rfl
theorem cd_251_229 : cd 251 229 = some (22, 232, 255, 0, 0, []) := cd_row ac_251 rfl
theorem cd_251_232 : cd 251 232 = some (4, 233, 0, 0, 0, []) := cd_row ac_251 rfl
theorem cd_251_233 : cd 251 233 = some (23, 236, 10, 0, 0, []) := cd_row ac_251 rfl
theorem cd_251_236 : cd 251 236 = some (0, 238, 0, 0, 14, []) := cd_row ac_251 rfl
theorem cd_251_238 : cd 251 238 = some (26, 239, 0, 0, 0, []) := cd_row ac_251 rfl
theorem cd_251_239 : cd 251 239 = some (20, 242, 254, 5, 0, []) := cd_row ac_251 rfl
theorem cd_251_242 : cd 251 242 = some (4, 243, 0, 0, 0, []) := cd_row ac_251 rfl
theorem cd_251_243 : cd 251 243 = some (23, 246, 10, 0, 0, []) := cd_row ac_251 rfl
theorem cd_251_246 : cd 251 246 = some (0, 248, 0, 0, 14, []) := cd_row ac_251 rfl
theorem cd_251_248 : cd 251 248 = some (26, 249, 0, 0, 0, []) := cd_row ac_251 rfl
theorem cd_251_249 : cd 251 249 = some (0, 250, 0, 0, 1, []) := cd_row ac_251 rfl
theorem cd_251_250 : cd 251 250 = some (9, 251, 0, 1, 0, []) := cd_row ac_251 rfl
theorem cd_251_251 : cd 251 251 = some (22, 254, 255, 0, 0, []) := cd_row ac_251 rfl
theorem cd_251_254 : cd 251 254 = some (0, 255, 0, 0, 0, []) := cd_row ac_251 rfl
theorem cd_251_255 : cd 251 255 = some (30, 256, 0, 0, 0, []) := cd_row ac_251 rfl
theorem cd_251_256 : cd 251 256 = some (4, 257, 0, 0, 0, []) := cd_row ac_251 rfl
theorem cd_251_257 : cd 251 257 = some (23, 260, 10, 0, 0, []) := cd_row ac_251 rfl
theorem cd_251_260 : cd 251 260 = some (0, 262, 0, 0, 16, []) := cd_row ac_251 rfl
theorem cd_251_262 : cd 251 262 = some (18, 263, 0, 0, 0, []) := cd_row ac_251 rfl
theorem cd_251_263 : cd 251 263 = some (26, 264, 0, 0, 0, []) := cd_row ac_251 rfl
theorem cd_251_264 : cd 251 264 = some (0, 265, 0, 0, 1, []) := cd_row ac_251 rfl
theorem cd_251_265 : cd 251 265 = some (9, 266, 0, 0, 0, []) := cd_row ac_251 rfl
theorem cd_251_266 : cd 251 266 = some (30, 267, 0, 0, 0, []) := cd_row ac_251 rfl
theorem cd_251_267 : cd 251 267 = some (39, 268, 0, 0, 0, []) := cd_row ac_251 rfl
/-! a tenth of the reference -/
theorem E_ctb {d : Nat} {g : AH} {v lo hi : Int} (hl : lo ≤ hi) (Q : Option AV → AH → Prop) : XC (d + 1) 183 [vI v, vI lo, vI hi] g Q = Q (some (vI (bdF v lo hi))) g := by rw [E_ct, bd_ct hl]
theorem upF_2 {g : Nat → Int} {i : Nat} {a b : Int} : upF (upF g i a) i b = upF g i b := by
  funext j
  by_cases z : j = i
  · subst z; rw [upF_at, upF_at]
  · rw [upF_ne z, upF_ne z, upF_ne z]
theorem AMf_u {am f : Nat → Int} (ha : AMf am f) {i : Nat} {v : Int} (h1 : 1 ≤ i) (h2 : i < 10) : AMf (upF am (i + 7) v) (upF f i v) := by
  refine ⟨fun j g1 g2 => ?_, ?_⟩
  · by_cases z : j = i
    · subst z; rw [upF_at, upF_at]
    · rw [upF_ne (by omega), upF_ne z]; exact ha.1 j g1 g2
  · rw [upF_ne (by omega), upF_ne (by omega)]; exact ha.2
theorem AMf_x {am f : Nat → Int} (ha : AMf am f) {v : Int} : AMf (upF am 2 v) (upF f 10 v) := by
  refine ⟨fun j g1 g2 => ?_, ?_⟩
  · rw [upF_ne (by omega), upF_ne (by omega)]; exact ha.1 j g1 g2
  · rw [upF_at, upF_at]
theorem AMf_hi {am f : Nat → Int} (ha : AMf am f) {i : Nat} {v : Int} (h1 : 17 ≤ i) : AMf (upF am i v) f := by
  refine ⟨fun j g1 g2 => ?_, ?_⟩
  · rw [upF_ne (by omega)]; exact ha.1 j g1 g2
  · rw [upF_ne (by omega)]; exact ha.2
theorem AMf_lp {am f : Nat → Int} (ha : AMf am f) {x : Nat} {c : Int} (hx : 17 ≤ x) : AMf (lpF am x c) f := AMf_hi (AMf_hi (AMf_hi (AMf_hi (AMf_hi (AMf_hi ha hx) (by omega)) (by omega)) (by omega)) (by omega)) (by omega)
set_option maxHeartbeats 2000000 in
theorem E_anM {d : Nat} {h : AH} {am nm : Nat → Int} {af ae : Int} {vf tf : Nat → Int} (hk : PKM h) (hx : 0 ≤ am 2 ∧ am 2 ≤ 30252) (Q : Option AV → AH → Prop) : XC (d + 1) 249 [vR 76] (hM7 h am nm af ae vf tf) Q = Q none (hM7 h (upF am 2 (rnX (am 2))) nm af ae vf tf) := by
  refine XC_eq (Nat.le_of_ble_eq_true rfl) ?_ Q
  show XP d 249 0 [some (vR 76)] [] (hM7 h am nm af ae vf tf) _
  have k76 := hk.1.2.1
  have k77 := hk.2.1
  have q0 : hV (hM7 h am nm af ae vf tf) 76 0 = vR 77 := (hM7_n (by decide) (by decide) (Or.inr ⟨by decide, by decide⟩) (by decide) (by decide)).trans hk.2.2
  have q2 : hV (hM7 h am nm af ae vf tf) 77 2 = vI (am 2) := hM7_v (by decide)
  have s2 : ∀ {x : Int}, hSet (hM7 h am nm af ae vf tf) 77 2 (vI x) = hM7 h (upF am 2 x) nm af ae vf tf := hM7_s (by decide)
  have w1 : w64 (am 2 * 263) = am 2 * 263 := by unfold w64; omega
  have w2 : w64 (am 2 * 263 + 157) = am 2 * 263 + 157 := by unfold w64; omega
  have tm : Int.tmod (am 2 * 263 + 157) 30253 = rnX (am 2) := Int.tmod_eq_emod_of_nonneg (by omega)
  have w3 : WE (rnX (am 2)) (rnX (am 2)) := by unfold rnX WE w32; omega
  refine xpk_sound (stops := []) (n := 40) ?_
  simp only [sk_0, sk_1, sk_2, sk_3, sk_4, sk_5, sk_6, sk_7, sk_8, sk_iadd, sk_isub, sk_imul, sk_iand, sk_ior, sk_ixor, sk_ishl, sk_ishr, sk_iushr, sk_idiv, sk_irem, sk_ineg, sk_ladd, sk_lsub, sk_lmul, sk_land, sk_lor, sk_ldiv, sk_lrem, sk_lneg, sk_lshl, sk_lshr, sk_i2l, sk_l2i, sk_lcmp, sk_dupI, sk_dupR, sk_dup2L, sk_dup2I, sk_popI, sk_ifeq, sk_ifne, sk_iflt, sk_ifge, sk_ifgt, sk_ifle, sk_iceq, sk_icne, sk_iclt, sk_icge, sk_icgt, sk_icle, sk_goto, sk_getf, sk_putf, sk_gets, sk_iald, sk_lald, sk_bald, sk_aald, sk_iast, sk_last, sk_bast, sk_aast, sk_alen, sk_newa, sk_newt, sk_new, sk_cs1, sk_cs2, sk_cs3, sk_cs4, sk_cs5, sk_cs6, sk_cv1, sk_cv2, sk_cv3, sk_cv4, sk_cv5, sk_cv6, sk_ci1, sk_ci2, sk_ci3, sk_ret0, sk_retI, sk_retL, sk_retR, sk_sw, sk_oin, sk_max, sk_min, sk_abs, lI_0, lI_s, lL_0, lL_s, lR_0, lR_s, vIo_e, vLo_e, vOo_e, stW_I, stW_L, stW_R, stW_0, stW_z, okSt_0, okSt_s, hV_eq, hK_eq, okF_0, okF_1, okF_3, is01_0, is01_1, is01_i, Int.toNat_natCast, Int.reduceEq, Int.reduceLE, Int.reduceLT, Int.reduceNeg, Nat.reduceLT, not_true_eq_false, not_false_eq_true, reduceIte, Option.toList, List.cons_append, List.nil_append, List.set_cons_zero, List.set_cons_succ, List.not_mem_nil, List.mem_cons, if_false, if_true, ite_true, ite_false, and_self, and_true, true_and, Nat.reduceAdd, Nat.reduceLeDiff, Nat.reduceEqDiff, Nat.zero_add, Nat.le_refl, Nat.zero_le, or_false, false_or, Int.reduceToNat, or_true, true_or, eq_self, and_false, false_and, inR_d, nc_4, nc_5, nc_6, nc_7, nc_8, nc_16, nc_18, nc_20, nc_24, nc_32, nc_40, nc_64, nc_104, nc_120, nc_160, nc_256, nc_300, nc_330, nc_390, nc_1200, nc_1260, nc_3012, nc_9834, okSt_1i, okSt_1r, okSt_1n, List.length_cons, List.length_nil, xpk_succ cd_249_0, xpk_succ cd_249_1, xpk_succ cd_249_4, xpk_succ cd_249_5, xpk_succ cd_249_6, xpk_succ cd_249_9, xpk_succ cd_249_10, xpk_succ cd_249_11, xpk_succ cd_249_12, xpk_succ cd_249_15, xpk_succ cd_249_16, xpk_succ cd_249_19, xpk_succ cd_249_20, xpk_succ cd_249_23, xpk_succ cd_249_24, xpk_succ cd_249_25, xpk_succ cd_249_26, hM7_k, k76, k77, q0, q2, s2, w1, w2, tm, (WE_e w3)]
theorem E_drM {d : Nat} {h : AH} {am nm : Nat → Int} {af ae : Int} {vf tf : Nat → Int} (hk : PKM h) (hx : 0 ≤ am 2 ∧ am 2 ≤ 30252) (Q : Option AV → AH → Prop) : XC (d + 2) 248 [vR 76, vI 10] (hM7 h am nm af ae vf tf) Q = Q (some (vI (am 2 % 10))) (hM7 h (upF am 2 (rnX (am 2))) nm af ae vf tf) := by
  refine XC_eq (Nat.le_of_ble_eq_true rfl) ?_ Q
  show XP (d + 1) 248 0 [some (vR 76), some (vI 10), none] [] (hM7 h am nm af ae vf tf) _
  have k76 := hk.1.2.1
  have k77 := hk.2.1
  have q0 : hV (hM7 h am nm af ae vf tf) 76 0 = vR 77 := (hM7_n (by decide) (by decide) (Or.inr ⟨by decide, by decide⟩) (by decide) (by decide)).trans hk.2.2
  have q2 : hV (hM7 h am nm af ae vf tf) 77 2 = vI (am 2) := hM7_v (by decide)
  have e := fun Q => E_anM (d := d) (nm := nm) (af := af) (ae := ae) (vf := vf) (tf := tf) hk hx Q
  have tm : Int.tmod (am 2) 10 = am 2 % 10 := Int.tmod_eq_emod_of_nonneg hx.1
  refine xpk_sound (stops := []) (n := 20) ?_
  simp only [sk_0, sk_1, sk_2, sk_3, sk_4, sk_5, sk_6, sk_7, sk_8, sk_iadd, sk_isub, sk_imul, sk_iand, sk_ior, sk_ixor, sk_ishl, sk_ishr, sk_iushr, sk_idiv, sk_irem, sk_ineg, sk_ladd, sk_lsub, sk_lmul, sk_land, sk_lor, sk_ldiv, sk_lrem, sk_lneg, sk_lshl, sk_lshr, sk_i2l, sk_l2i, sk_lcmp, sk_dupI, sk_dupR, sk_dup2L, sk_dup2I, sk_popI, sk_ifeq, sk_ifne, sk_iflt, sk_ifge, sk_ifgt, sk_ifle, sk_iceq, sk_icne, sk_iclt, sk_icge, sk_icgt, sk_icle, sk_goto, sk_getf, sk_putf, sk_gets, sk_iald, sk_lald, sk_bald, sk_aald, sk_iast, sk_last, sk_bast, sk_aast, sk_alen, sk_newa, sk_newt, sk_new, sk_cs1, sk_cs2, sk_cs3, sk_cs4, sk_cs5, sk_cs6, sk_cv1, sk_cv2, sk_cv3, sk_cv4, sk_cv5, sk_cv6, sk_ci1, sk_ci2, sk_ci3, sk_ret0, sk_retI, sk_retL, sk_retR, sk_sw, sk_oin, sk_max, sk_min, sk_abs, lI_0, lI_s, lL_0, lL_s, lR_0, lR_s, vIo_e, vLo_e, vOo_e, stW_I, stW_L, stW_R, stW_0, stW_z, okSt_0, okSt_s, hV_eq, hK_eq, okF_0, okF_1, okF_3, is01_0, is01_1, is01_i, Int.toNat_natCast, Int.reduceEq, Int.reduceLE, Int.reduceLT, Int.reduceNeg, Nat.reduceLT, not_true_eq_false, not_false_eq_true, reduceIte, Option.toList, List.cons_append, List.nil_append, List.set_cons_zero, List.set_cons_succ, List.not_mem_nil, List.mem_cons, if_false, if_true, ite_true, ite_false, and_self, and_true, true_and, Nat.reduceAdd, Nat.reduceLeDiff, Nat.reduceEqDiff, Nat.zero_add, Nat.le_refl, Nat.zero_le, or_false, false_or, Int.reduceToNat, or_true, true_or, eq_self, and_false, false_and, inR_d, nc_4, nc_5, nc_6, nc_7, nc_8, nc_16, nc_18, nc_20, nc_24, nc_32, nc_40, nc_64, nc_104, nc_120, nc_160, nc_256, nc_300, nc_330, nc_390, nc_1200, nc_1260, nc_3012, nc_9834, okSt_1i, okSt_1r, okSt_1n, List.length_cons, List.length_nil, xpk_succ cd_248_0, xpk_succ cd_248_1, xpk_succ cd_248_4, xpk_succ cd_248_5, xpk_succ cd_248_6, xpk_succ cd_248_7, xpk_succ cd_248_8, xpk_succ cd_248_9, xpk_succ cd_248_10, xpk_succ cd_248_13, xpk_succ cd_248_14, hM7_k, k76, k77, q0, q2, e, tm]
set_option maxHeartbeats 4000000 in
/-- the row, the names, PACES -/
theorem E_ps1 {d : Nat} {h : AH} {am nm : Nat → Int} {af ae : Int} {vf tf : Nat → Int} (hk : PKM h) {J : Int} {cs : List cCl} (hJ : LWM h J cs) (h4 : am 4 = J) {f : Nat → Int} (ha : AMf am f) (hf : HKr f) {t : Nat} (h9 : f 9 = (t : Int)) {c q : Int} {e : ENV} (he : ∀ nm0 : Nat → Int, ENM d (hY (hA h (lpF am (602 + 6 * (t % 1536)) c)) (lkN f nm0) (f 9) (elF (f 9))) 0 e) (hen : envK e) (hq : LVC cs 0 e 3 0 9 q) {PQ : Option AV → AH → Prop} (y : ∀ nm1 vf1 tf1 : Nat → Int, XP (d + 5) 251 18 [some (vR 76), some (vI c), none] [vI q] (hM7 h (lpF am (602 + 6 * (t % 1536)) c) nm1 (f 9) (elF (f 9)) vf1 tf1) PQ) : XP (d + 5) 251 0 [some (vR 76), some (vI c), none] [] (hM7 h am nm af ae vf tf) PQ := by
  have k76 := hk.1.2.1
  have k77 := hk.2.1
  have q0 : ∀ {am nm : Nat → Int} {af ae : Int} {vf tf : Nat → Int}, hV (hM7 h am nm af ae vf tf) 76 0 = vR 77 := (hM7_n (by decide) (by decide) (Or.inr ⟨by decide, by decide⟩) (by decide) (by decide)).trans hk.2.2
  have qv : ∀ {am nm : Nat → Int} {af ae : Int} {vf tf : Nat → Int} {i : Nat}, i < 602 → hV (hM7 h am nm af ae vf tf) 77 i = vI (am i) := fun h => hM7_v (by omega)
  have sv : ∀ {am nm : Nat → Int} {af ae : Int} {vf tf : Nat → Int} {i : Nat} {x : Int}, i < 602 → hSet (hM7 h am nm af ae vf tf) 77 i (vI x) = hM7 h (upF am i x) nm af ae vf tf := fun h => hM7_s (by omega)
  have el_ := fun Q => E_lp (d := d + 3) hk ha hf h9 (c := c) (nm := nm) (af := af) (ae := ae) (vf := vf) (tf := tf) Q
  have ha1 : AMf (lpF am (602 + 6 * (t % 1536)) c) f := AMf_lp ha (by omega)
  have en := fun Q => E_nnG (d := d + 3) hk ha1 hf (nm := nm) (af := af) (ae := ae) (vf := vf) (tf := tf) Q
  obtain ⟨g1, g2, g3⟩ := PKM_G hk (am := lpF am (602 + 6 * (t % 1536)) c) (nm := lkN f nm) (af := f 9) (ae := elF (f 9))
  have v4 : hV (hY (hA h (lpF am (602 + 6 * (t % 1536)) c)) (lkN f nm) (f 9) (elF (f 9))) 77 4 = vI J := by
    refine (hY_n (by decide) (Or.inl (by decide))).trans ((hA_V (by decide)).trans (congrArg vI ?_))
    unfold lpF
    rw [upF_ne (by omega), upF_ne (by omega), upF_ne (by omega), upF_ne (by omega), upF_ne (by omega), upF_ne (by omega)]
    exact h4
  obtain ⟨vf1, tf1, es⟩ := E_sq (d := d) g1 (LWM_G hJ) g2 g3 v4 (w := 0) (by decide) (he nm) hen (show (0 : Int) ≤ 9 by decide) hq vf tf
  have es : ∀ Q : Option AV → AH → Prop, XC (d + 5) 242 [vR 76, vI 0, vI 3, vI 0, vI 9] (hM7 h (lpF am (602 + 6 * (t % 1536)) c) (lkN f nm) (f 9) (elF (f 9)) vf tf) Q = Q (some (vI q)) (hM7 h (lpF am (602 + 6 * (t % 1536)) c) (lkN f nm) (f 9) (elF (f 9)) vf1 tf1) := es
  have y := y (lkN f nm) vf1 tf1
  refine xpk_sound (stops := [18]) (n := 30) ?_
  simp only [sk_0, sk_1, sk_2, sk_3, sk_4, sk_5, sk_6, sk_7, sk_8, sk_iadd, sk_isub, sk_imul, sk_iand, sk_ior, sk_ixor, sk_ishl, sk_ishr, sk_iushr, sk_idiv, sk_irem, sk_ineg, sk_ladd, sk_lsub, sk_lmul, sk_land, sk_lor, sk_ldiv, sk_lrem, sk_lneg, sk_lshl, sk_lshr, sk_i2l, sk_l2i, sk_lcmp, sk_dupI, sk_dupR, sk_dup2L, sk_dup2I, sk_popI, sk_ifeq, sk_ifne, sk_iflt, sk_ifge, sk_ifgt, sk_ifle, sk_iceq, sk_icne, sk_iclt, sk_icge, sk_icgt, sk_icle, sk_goto, sk_getf, sk_putf, sk_gets, sk_iald, sk_lald, sk_bald, sk_aald, sk_iast, sk_last, sk_bast, sk_aast, sk_alen, sk_newa, sk_newt, sk_new, sk_cs1, sk_cs2, sk_cs3, sk_cs4, sk_cs5, sk_cs6, sk_cv1, sk_cv2, sk_cv3, sk_cv4, sk_cv5, sk_cv6, sk_ci1, sk_ci2, sk_ci3, sk_ret0, sk_retI, sk_retL, sk_retR, sk_sw, sk_oin, sk_max, sk_min, sk_abs, lI_0, lI_s, lL_0, lL_s, lR_0, lR_s, vIo_e, vLo_e, vOo_e, stW_I, stW_L, stW_R, stW_0, stW_z, okSt_0, okSt_s, hV_eq, hK_eq, okF_0, okF_1, okF_3, is01_0, is01_1, is01_i, Int.toNat_natCast, Int.reduceEq, Int.reduceLE, Int.reduceLT, Int.reduceNeg, Nat.reduceLT, not_true_eq_false, not_false_eq_true, reduceIte, Option.toList, List.cons_append, List.nil_append, List.set_cons_zero, List.set_cons_succ, List.not_mem_nil, List.mem_cons, if_false, if_true, ite_true, ite_false, and_self, and_true, true_and, Nat.reduceAdd, Nat.reduceLeDiff, Nat.reduceEqDiff, Nat.zero_add, Nat.le_refl, Nat.zero_le, or_false, false_or, Int.reduceToNat, or_true, true_or, eq_self, and_false, false_and, inR_d, nc_4, nc_5, nc_6, nc_7, nc_8, nc_16, nc_18, nc_20, nc_24, nc_32, nc_40, nc_64, nc_104, nc_120, nc_160, nc_256, nc_300, nc_330, nc_390, nc_1200, nc_1260, nc_3012, nc_9834, okSt_1i, okSt_1r, okSt_1n, List.length_cons, List.length_nil, xpk_succ cd_251_0, xpk_succ cd_251_1, xpk_succ cd_251_2, xpk_succ cd_251_5, xpk_succ cd_251_6, xpk_succ cd_251_9, xpk_succ cd_251_10, xpk_succ cd_251_11, xpk_succ cd_251_12, xpk_succ cd_251_13, xpk_succ cd_251_15, hM7_k, k76, k77, q0, el_, en, es]
  exact y
set_option maxHeartbeats 4000000 in
/-- PACE and PLACE -/
theorem E_ps2 {d : Nat} {h : AH} {am nm : Nat → Int} {af ae : Int} {vf tf : Nat → Int} (hk : PKM h) {f : Nat → Int} (ha : AMf am f) (hf : HKr f) {c q : Int} (c0 : -1 ≤ c ∧ c ≤ 1) (q0_ : 0 ≤ q ∧ q ≤ 9) {PQ : Option AV → AH → Prop} (y : ∀ am' : Nat → Int, AMf am' (rlF (upF f 2 (bdF (f 2 + c) (-q) q))) → (∀ i, i ≠ 8 → i ≠ 9 → am' i = am i) → XP (d + 5) 251 110 [some (vR 76), some (vI c), some (vI q)] [] (hM7 h am' nm af ae vf tf) PQ) : XP (d + 5) 251 18 [some (vR 76), some (vI c), none] [vI q] (hM7 h am nm af ae vf tf) PQ := by
  have k76 := hk.1.2.1
  have k77 := hk.2.1
  have q0 : ∀ {am nm : Nat → Int} {af ae : Int} {vf tf : Nat → Int}, hV (hM7 h am nm af ae vf tf) 76 0 = vR 77 := (hM7_n (by decide) (by decide) (Or.inr ⟨by decide, by decide⟩) (by decide) (by decide)).trans hk.2.2
  have qv : ∀ {am nm : Nat → Int} {af ae : Int} {vf tf : Nat → Int} {i : Nat}, i < 602 → hV (hM7 h am nm af ae vf tf) 77 i = vI (am i) := fun h => hM7_v (by omega)
  have sv : ∀ {am nm : Nat → Int} {af ae : Int} {vf tf : Nat → Int} {i : Nat} {x : Int}, i < 602 → hSet (hM7 h am nm af ae vf tf) 77 i (vI x) = hM7 h (upF am i x) nm af ae vf tf := fun h => hM7_s (by omega)
  have e9 : am 9 = f 2 := ha.1 2 (by decide) (by decide)
  have e8 : am 8 = f 1 := ha.1 1 (by decide) (by decide)
  obtain ⟨a1, a2, _⟩ := hf
  have b2 := bdF_r (v := f 2 + c) (show -q ≤ q by omega)
  obtain ⟨p, hp⟩ : ∃ p, bdF (f 2 + c) (-q) q = p := ⟨_, rfl⟩
  rw [hp] at b2 y
  have w1 : WE (f 2 + c) (f 2 + c) := by unfold WE w32; omega
  have w2 : WE (-q) (-q) := by unfold WE w32; omega
  have w3 : WE (f 1 + p) (f 1 + p) := by unfold WE w32; omega
  have ec := fun (g : AH) (Q : Option AV → AH → Prop) => E_ctb (d := d + 4) (g := g) (v := f 2 + c) (show -q ≤ q by omega) Q
  rw [hp] at ec
  have ec2 := fun (g : AH) (Q : Option AV → AH → Prop) => E_ctb (d := d + 4) (g := g) (v := f 1 + p) (show (0 : Int) ≤ 600 by decide) Q
  have v9 : ∀ {nm : Nat → Int} {af ae : Int} {vf tf : Nat → Int}, hV (hM7 h am nm af ae vf tf) 77 9 = vI (f 2) := (qv (by decide)).trans (congrArg vI e9)
  have v8 : ∀ {v : Int} {nm : Nat → Int} {af ae : Int} {vf tf : Nat → Int}, hV (hM7 h (upF am 9 v) nm af ae vf tf) 77 8 = vI (f 1) := (qv (by decide)).trans (congrArg vI ((upF_ne (by decide)).trans e8))
  have v9b : ∀ {v : Int} {nm : Nat → Int} {af ae : Int} {vf tf : Nat → Int}, hV (hM7 h (upF am 9 v) nm af ae vf tf) 77 9 = vI v := (qv (by decide)).trans (congrArg vI upF_at)
  have v8b : ∀ {v w : Int} {nm : Nat → Int} {af ae : Int} {vf tf : Nat → Int}, hV (hM7 h (upF (upF am 9 w) 8 v) nm af ae vf tf) 77 8 = vI v := (qv (by decide)).trans (congrArg vI upF_at)
  have aa := AMf_u (AMf_u ha (i := 2) (v := p) (by decide) (by decide)) (i := 1) (v := bdF (f 1 + p) 0 600) (by decide) (by decide)
  have er : upF f 2 p 1 = f 1 ∧ upF f 2 p 2 = p := ⟨upF_ne (by decide), upF_at⟩
  unfold rlF at y
  rw [er.1, er.2] at y
  by_cases z1 : f 1 + p < 0
  · rw [if_neg (by unfold bdF; omega)] at y
    have y := y (upF (upF (upF (upF am 9 p) 8 (f 1 + p)) 8 (bdF (f 1 + p) 0 600)) 9 0) (by rw [upF_2]; exact AMf_u aa (i := 2) (v := 0) (by decide) (by decide)) (fun i h1 h2 => by rw [upF_ne h2, upF_ne h1, upF_ne h1, upF_ne h2])
    refine xpk_sound (stops := [110]) (n := 90) ?_
    simp only [sk_0, sk_1, sk_2, sk_3, sk_4, sk_5, sk_6, sk_7, sk_8, sk_iadd, sk_isub, sk_imul, sk_iand, sk_ior, sk_ixor, sk_ishl, sk_ishr, sk_iushr, sk_idiv, sk_irem, sk_ineg, sk_ladd, sk_lsub, sk_lmul, sk_land, sk_lor, sk_ldiv, sk_lrem, sk_lneg, sk_lshl, sk_lshr, sk_i2l, sk_l2i, sk_lcmp, sk_dupI, sk_dupR, sk_dup2L, sk_dup2I, sk_popI, sk_ifeq, sk_ifne, sk_iflt, sk_ifge, sk_ifgt, sk_ifle, sk_iceq, sk_icne, sk_iclt, sk_icge, sk_icgt, sk_icle, sk_goto, sk_getf, sk_putf, sk_gets, sk_iald, sk_lald, sk_bald, sk_aald, sk_iast, sk_last, sk_bast, sk_aast, sk_alen, sk_newa, sk_newt, sk_new, sk_cs1, sk_cs2, sk_cs3, sk_cs4, sk_cs5, sk_cs6, sk_cv1, sk_cv2, sk_cv3, sk_cv4, sk_cv5, sk_cv6, sk_ci1, sk_ci2, sk_ci3, sk_ret0, sk_retI, sk_retL, sk_retR, sk_sw, sk_oin, sk_max, sk_min, sk_abs, lI_0, lI_s, lL_0, lL_s, lR_0, lR_s, vIo_e, vLo_e, vOo_e, stW_I, stW_L, stW_R, stW_0, stW_z, okSt_0, okSt_s, hV_eq, hK_eq, okF_0, okF_1, okF_3, is01_0, is01_1, is01_i, Int.toNat_natCast, Int.reduceEq, Int.reduceLE, Int.reduceLT, Int.reduceNeg, Nat.reduceLT, not_true_eq_false, not_false_eq_true, reduceIte, Option.toList, List.cons_append, List.nil_append, List.set_cons_zero, List.set_cons_succ, List.not_mem_nil, List.mem_cons, if_false, if_true, ite_true, ite_false, and_self, and_true, true_and, Nat.reduceAdd, Nat.reduceLeDiff, Nat.reduceEqDiff, Nat.zero_add, Nat.le_refl, Nat.zero_le, or_false, false_or, Int.reduceToNat, or_true, true_or, eq_self, and_false, false_and, inR_d, nc_4, nc_5, nc_6, nc_7, nc_8, nc_16, nc_18, nc_20, nc_24, nc_32, nc_40, nc_64, nc_104, nc_120, nc_160, nc_256, nc_300, nc_330, nc_390, nc_1200, nc_1260, nc_3012, nc_9834, okSt_1i, okSt_1r, okSt_1n, List.length_cons, List.length_nil, xpk_succ cd_251_18, xpk_succ cd_251_19, xpk_succ cd_251_20, xpk_succ cd_251_23, xpk_succ cd_251_25, xpk_succ cd_251_26, xpk_succ cd_251_29, xpk_succ cd_251_31, xpk_succ cd_251_32, xpk_succ cd_251_33, xpk_succ cd_251_34, xpk_succ cd_251_35, xpk_succ cd_251_36, xpk_succ cd_251_37, xpk_succ cd_251_40, xpk_succ cd_251_41, xpk_succ cd_251_42, xpk_succ cd_251_45, xpk_succ cd_251_47, xpk_succ cd_251_48, xpk_succ cd_251_49, xpk_succ cd_251_50, xpk_succ cd_251_53, xpk_succ cd_251_55, xpk_succ cd_251_56, xpk_succ cd_251_57, xpk_succ cd_251_58, xpk_succ cd_251_59, xpk_succ cd_251_62, xpk_succ cd_251_64, xpk_succ cd_251_65, xpk_succ cd_251_68, xpk_succ cd_251_69, xpk_succ cd_251_72, xpk_succ cd_251_74, xpk_succ cd_251_75, xpk_succ cd_251_78, xpk_succ cd_251_81, xpk_succ cd_251_82, xpk_succ cd_251_85, xpk_succ cd_251_87, xpk_succ cd_251_88, xpk_succ cd_251_91, xpk_succ cd_251_93, xpk_succ cd_251_94, xpk_succ cd_251_95, xpk_succ cd_251_98, xpk_succ cd_251_101, xpk_succ cd_251_102, xpk_succ cd_251_103, xpk_succ cd_251_106, xpk_succ cd_251_108, xpk_succ cd_251_109, hM7_k, k76, k77, q0, v9, v8, v9b, v8b, (WE_e w1), (WE_e w2), (WE_e w3), ec, ec2, (sv (i := 8) (by decide)), (sv (i := 9) (by decide)), z1]
    exact y
  · by_cases z2 : 600 < f 1 + p
    · have z2n : ¬ f 1 + p ≤ 600 := by omega
      rw [if_neg (by unfold bdF; omega)] at y
      have y := y (upF (upF (upF (upF am 9 p) 8 (f 1 + p)) 8 (bdF (f 1 + p) 0 600)) 9 0) (by rw [upF_2]; exact AMf_u aa (i := 2) (v := 0) (by decide) (by decide)) (fun i h1 h2 => by rw [upF_ne h2, upF_ne h1, upF_ne h1, upF_ne h2])
      refine xpk_sound (stops := [110]) (n := 90) ?_
      simp only [sk_0, sk_1, sk_2, sk_3, sk_4, sk_5, sk_6, sk_7, sk_8, sk_iadd, sk_isub, sk_imul, sk_iand, sk_ior, sk_ixor, sk_ishl, sk_ishr, sk_iushr, sk_idiv, sk_irem, sk_ineg, sk_ladd, sk_lsub, sk_lmul, sk_land, sk_lor, sk_ldiv, sk_lrem, sk_lneg, sk_lshl, sk_lshr, sk_i2l, sk_l2i, sk_lcmp, sk_dupI, sk_dupR, sk_dup2L, sk_dup2I, sk_popI, sk_ifeq, sk_ifne, sk_iflt, sk_ifge, sk_ifgt, sk_ifle, sk_iceq, sk_icne, sk_iclt, sk_icge, sk_icgt, sk_icle, sk_goto, sk_getf, sk_putf, sk_gets, sk_iald, sk_lald, sk_bald, sk_aald, sk_iast, sk_last, sk_bast, sk_aast, sk_alen, sk_newa, sk_newt, sk_new, sk_cs1, sk_cs2, sk_cs3, sk_cs4, sk_cs5, sk_cs6, sk_cv1, sk_cv2, sk_cv3, sk_cv4, sk_cv5, sk_cv6, sk_ci1, sk_ci2, sk_ci3, sk_ret0, sk_retI, sk_retL, sk_retR, sk_sw, sk_oin, sk_max, sk_min, sk_abs, lI_0, lI_s, lL_0, lL_s, lR_0, lR_s, vIo_e, vLo_e, vOo_e, stW_I, stW_L, stW_R, stW_0, stW_z, okSt_0, okSt_s, hV_eq, hK_eq, okF_0, okF_1, okF_3, is01_0, is01_1, is01_i, Int.toNat_natCast, Int.reduceEq, Int.reduceLE, Int.reduceLT, Int.reduceNeg, Nat.reduceLT, not_true_eq_false, not_false_eq_true, reduceIte, Option.toList, List.cons_append, List.nil_append, List.set_cons_zero, List.set_cons_succ, List.not_mem_nil, List.mem_cons, if_false, if_true, ite_true, ite_false, and_self, and_true, true_and, Nat.reduceAdd, Nat.reduceLeDiff, Nat.reduceEqDiff, Nat.zero_add, Nat.le_refl, Nat.zero_le, or_false, false_or, Int.reduceToNat, or_true, true_or, eq_self, and_false, false_and, inR_d, nc_4, nc_5, nc_6, nc_7, nc_8, nc_16, nc_18, nc_20, nc_24, nc_32, nc_40, nc_64, nc_104, nc_120, nc_160, nc_256, nc_300, nc_330, nc_390, nc_1200, nc_1260, nc_3012, nc_9834, okSt_1i, okSt_1r, okSt_1n, List.length_cons, List.length_nil, xpk_succ cd_251_18, xpk_succ cd_251_19, xpk_succ cd_251_20, xpk_succ cd_251_23, xpk_succ cd_251_25, xpk_succ cd_251_26, xpk_succ cd_251_29, xpk_succ cd_251_31, xpk_succ cd_251_32, xpk_succ cd_251_33, xpk_succ cd_251_34, xpk_succ cd_251_35, xpk_succ cd_251_36, xpk_succ cd_251_37, xpk_succ cd_251_40, xpk_succ cd_251_41, xpk_succ cd_251_42, xpk_succ cd_251_45, xpk_succ cd_251_47, xpk_succ cd_251_48, xpk_succ cd_251_49, xpk_succ cd_251_50, xpk_succ cd_251_53, xpk_succ cd_251_55, xpk_succ cd_251_56, xpk_succ cd_251_57, xpk_succ cd_251_58, xpk_succ cd_251_59, xpk_succ cd_251_62, xpk_succ cd_251_64, xpk_succ cd_251_65, xpk_succ cd_251_68, xpk_succ cd_251_69, xpk_succ cd_251_72, xpk_succ cd_251_74, xpk_succ cd_251_75, xpk_succ cd_251_78, xpk_succ cd_251_81, xpk_succ cd_251_82, xpk_succ cd_251_85, xpk_succ cd_251_87, xpk_succ cd_251_88, xpk_succ cd_251_91, xpk_succ cd_251_93, xpk_succ cd_251_94, xpk_succ cd_251_95, xpk_succ cd_251_98, xpk_succ cd_251_101, xpk_succ cd_251_102, xpk_succ cd_251_103, xpk_succ cd_251_106, xpk_succ cd_251_108, xpk_succ cd_251_109, hM7_k, k76, k77, q0, v9, v8, v9b, v8b, (WE_e w1), (WE_e w2), (WE_e w3), ec, ec2, (sv (i := 8) (by decide)), (sv (i := 9) (by decide)), z1, z2, z2n]
      exact y
    · have z2n : f 1 + p ≤ 600 := by omega
      have eb : bdF (f 1 + p) 0 600 = f 1 + p := by unfold bdF; omega
      rw [if_pos eb] at y
      rw [eb] at aa y
      have y := y (upF (upF am 9 p) 8 (f 1 + p)) aa (fun i h1 h2 => by rw [upF_ne h1, upF_ne h2])
      refine xpk_sound (stops := [110]) (n := 90) ?_
      simp only [sk_0, sk_1, sk_2, sk_3, sk_4, sk_5, sk_6, sk_7, sk_8, sk_iadd, sk_isub, sk_imul, sk_iand, sk_ior, sk_ixor, sk_ishl, sk_ishr, sk_iushr, sk_idiv, sk_irem, sk_ineg, sk_ladd, sk_lsub, sk_lmul, sk_land, sk_lor, sk_ldiv, sk_lrem, sk_lneg, sk_lshl, sk_lshr, sk_i2l, sk_l2i, sk_lcmp, sk_dupI, sk_dupR, sk_dup2L, sk_dup2I, sk_popI, sk_ifeq, sk_ifne, sk_iflt, sk_ifge, sk_ifgt, sk_ifle, sk_iceq, sk_icne, sk_iclt, sk_icge, sk_icgt, sk_icle, sk_goto, sk_getf, sk_putf, sk_gets, sk_iald, sk_lald, sk_bald, sk_aald, sk_iast, sk_last, sk_bast, sk_aast, sk_alen, sk_newa, sk_newt, sk_new, sk_cs1, sk_cs2, sk_cs3, sk_cs4, sk_cs5, sk_cs6, sk_cv1, sk_cv2, sk_cv3, sk_cv4, sk_cv5, sk_cv6, sk_ci1, sk_ci2, sk_ci3, sk_ret0, sk_retI, sk_retL, sk_retR, sk_sw, sk_oin, sk_max, sk_min, sk_abs, lI_0, lI_s, lL_0, lL_s, lR_0, lR_s, vIo_e, vLo_e, vOo_e, stW_I, stW_L, stW_R, stW_0, stW_z, okSt_0, okSt_s, hV_eq, hK_eq, okF_0, okF_1, okF_3, is01_0, is01_1, is01_i, Int.toNat_natCast, Int.reduceEq, Int.reduceLE, Int.reduceLT, Int.reduceNeg, Nat.reduceLT, not_true_eq_false, not_false_eq_true, reduceIte, Option.toList, List.cons_append, List.nil_append, List.set_cons_zero, List.set_cons_succ, List.not_mem_nil, List.mem_cons, if_false, if_true, ite_true, ite_false, and_self, and_true, true_and, Nat.reduceAdd, Nat.reduceLeDiff, Nat.reduceEqDiff, Nat.zero_add, Nat.le_refl, Nat.zero_le, or_false, false_or, Int.reduceToNat, or_true, true_or, eq_self, and_false, false_and, inR_d, nc_4, nc_5, nc_6, nc_7, nc_8, nc_16, nc_18, nc_20, nc_24, nc_32, nc_40, nc_64, nc_104, nc_120, nc_160, nc_256, nc_300, nc_330, nc_390, nc_1200, nc_1260, nc_3012, nc_9834, okSt_1i, okSt_1r, okSt_1n, List.length_cons, List.length_nil, xpk_succ cd_251_18, xpk_succ cd_251_19, xpk_succ cd_251_20, xpk_succ cd_251_23, xpk_succ cd_251_25, xpk_succ cd_251_26, xpk_succ cd_251_29, xpk_succ cd_251_31, xpk_succ cd_251_32, xpk_succ cd_251_33, xpk_succ cd_251_34, xpk_succ cd_251_35, xpk_succ cd_251_36, xpk_succ cd_251_37, xpk_succ cd_251_40, xpk_succ cd_251_41, xpk_succ cd_251_42, xpk_succ cd_251_45, xpk_succ cd_251_47, xpk_succ cd_251_48, xpk_succ cd_251_49, xpk_succ cd_251_50, xpk_succ cd_251_53, xpk_succ cd_251_55, xpk_succ cd_251_56, xpk_succ cd_251_57, xpk_succ cd_251_58, xpk_succ cd_251_59, xpk_succ cd_251_62, xpk_succ cd_251_64, xpk_succ cd_251_65, xpk_succ cd_251_68, xpk_succ cd_251_69, xpk_succ cd_251_72, xpk_succ cd_251_74, xpk_succ cd_251_75, xpk_succ cd_251_78, xpk_succ cd_251_81, xpk_succ cd_251_82, xpk_succ cd_251_85, xpk_succ cd_251_87, xpk_succ cd_251_88, xpk_succ cd_251_91, xpk_succ cd_251_93, xpk_succ cd_251_94, xpk_succ cd_251_95, xpk_succ cd_251_98, xpk_succ cd_251_101, xpk_succ cd_251_102, xpk_succ cd_251_103, xpk_succ cd_251_106, xpk_succ cd_251_108, xpk_succ cd_251_109, hM7_k, k76, k77, q0, v9, v8, v9b, v8b, (WE_e w1), (WE_e w2), (WE_e w3), ec, ec2, (sv (i := 8) (by decide)), (sv (i := 9) (by decide)), z1, z2, z2n]
      exact y
set_option maxHeartbeats 4000000 in
/-- SPEED -/
theorem E_ps3 {d : Nat} {h : AH} {am nm : Nat → Int} {af ae : Int} {vf tf : Nat → Int} (hk : PKM h) {J : Int} {cs : List cCl} (hJ : LWM h J cs) (h4 : am 4 = J) {f : Nat → Int} (ha : AMf am f) (hf : HKr f) {c q s : Int} {e : ENV} (he : ∀ nm0 : Nat → Int, ENM d (hY (hA h am) (lkN f nm0) (f 9) (elF (f 9))) 1 e) (hen : envK e) (hs : LVC cs 1 e (bdF (Int.tdiv (f 1 - f 3) (f 5)) (-99) 99) (-99) 99 s) (bs : -99 ≤ s ∧ s ≤ 99) {PQ : Option AV → AH → Prop} (y : ∀ nm1 vf1 tf1 : Nat → Int, XP (d + 5) 251 164 [some (vR 76), some (vI c), some (vI q)] [] (hM7 h (upF am 11 (bdF (f 4 + s) (-99) 99)) nm1 (f 9) (elF (f 9)) vf1 tf1) PQ) : XP (d + 5) 251 110 [some (vR 76), some (vI c), some (vI q)] [] (hM7 h am nm af ae vf tf) PQ := by
  have k76 := hk.1.2.1
  have k77 := hk.2.1
  have q0 : ∀ {am nm : Nat → Int} {af ae : Int} {vf tf : Nat → Int}, hV (hM7 h am nm af ae vf tf) 76 0 = vR 77 := (hM7_n (by decide) (by decide) (Or.inr ⟨by decide, by decide⟩) (by decide) (by decide)).trans hk.2.2
  have qv : ∀ {am nm : Nat → Int} {af ae : Int} {vf tf : Nat → Int} {i : Nat}, i < 602 → hV (hM7 h am nm af ae vf tf) 77 i = vI (am i) := fun h => hM7_v (by omega)
  have sv : ∀ {am nm : Nat → Int} {af ae : Int} {vf tf : Nat → Int} {i : Nat} {x : Int}, i < 602 → hSet (hM7 h am nm af ae vf tf) 77 i (vI x) = hM7 h (upF am i x) nm af ae vf tf := fun h => hM7_s (by omega)
  have en := fun Q => E_nnG (d := d + 3) hk ha hf (nm := nm) (af := af) (ae := ae) (vf := vf) (tf := tf) Q
  obtain ⟨g1, g2, g3⟩ := PKM_G hk (am := am) (nm := lkN f nm) (af := f 9) (ae := elF (f 9))
  have v4 : hV (hY (hA h am) (lkN f nm) (f 9) (elF (f 9))) 77 4 = vI J := (hY_n (by decide) (Or.inl (by decide))).trans ((hA_V (by decide)).trans (congrArg vI h4))
  obtain ⟨vf1, tf1, es⟩ := E_sq (d := d) g1 (LWM_G hJ) g2 g3 v4 (w := 1) (by decide) (he nm) hen (show (-99 : Int) ≤ 99 by decide) hs vf tf
  have es : ∀ Q : Option AV → AH → Prop, XC (d + 5) 242 [vR 76, vI 1, vI (bdF (Int.tdiv (f 1 - f 3) (f 5)) (-99) 99), vI (-99), vI 99] (hM7 h am (lkN f nm) (f 9) (elF (f 9)) vf tf) Q = Q (some (vI s)) (hM7 h am (lkN f nm) (f 9) (elF (f 9)) vf1 tf1) := es
  have ea := fun {nm : Nat → Int} {af ae : Int} {vf tf : Nat → Int} Q => E_awG (d := d + 4) hk ha hf (nm := nm) (af := af) (ae := ae) (vf := vf) (tf := tf) Q
  have v11 : ∀ {nm : Nat → Int} {af ae : Int} {vf tf : Nat → Int}, hV (hM7 h am nm af ae vf tf) 77 11 = vI (f 4) := (qv (by decide)).trans (congrArg vI (ha.1 4 (by decide) (by decide)))
  have v12 : ∀ {nm : Nat → Int} {af ae : Int} {vf tf : Nat → Int}, hV (hM7 h am nm af ae vf tf) 77 12 = vI (f 5) := (qv (by decide)).trans (congrArg vI (ha.1 5 (by decide) (by decide)))
  have n5 : ¬ f 5 = 0 := by have := hf.2.2.2.2.1; omega
  have hf0 := hf
  obtain ⟨a1, a2, a3, a4, _⟩ := hf0
  have wd : WE (Int.tdiv (f 1 - f 3) (f 5)) (Int.tdiv (f 1 - f 3) (f 5)) := by
    have hr3 : rngV (f 1 - f 3) := by unfold rngV; omega
    have q := td_r (y := f 5) hr3
    unfold rngV at q
    unfold WE w32; omega
  have ws : WE (f 4 + s) (f 4 + s) := by unfold WE w32; omega
  have ec := fun {v : Int} (g : AH) (Q : Option AV → AH → Prop) => E_ctb (d := d + 4) (g := g) (v := v) (show (-99 : Int) ≤ 99 by decide) Q
  have y := y (lkN f nm) vf1 tf1
  refine xpk_sound (stops := [164]) (n := 60) ?_
  simp only [sk_0, sk_1, sk_2, sk_3, sk_4, sk_5, sk_6, sk_7, sk_8, sk_iadd, sk_isub, sk_imul, sk_iand, sk_ior, sk_ixor, sk_ishl, sk_ishr, sk_iushr, sk_idiv, sk_irem, sk_ineg, sk_ladd, sk_lsub, sk_lmul, sk_land, sk_lor, sk_ldiv, sk_lrem, sk_lneg, sk_lshl, sk_lshr, sk_i2l, sk_l2i, sk_lcmp, sk_dupI, sk_dupR, sk_dup2L, sk_dup2I, sk_popI, sk_ifeq, sk_ifne, sk_iflt, sk_ifge, sk_ifgt, sk_ifle, sk_iceq, sk_icne, sk_iclt, sk_icge, sk_icgt, sk_icle, sk_goto, sk_getf, sk_putf, sk_gets, sk_iald, sk_lald, sk_bald, sk_aald, sk_iast, sk_last, sk_bast, sk_aast, sk_alen, sk_newa, sk_newt, sk_new, sk_cs1, sk_cs2, sk_cs3, sk_cs4, sk_cs5, sk_cs6, sk_cv1, sk_cv2, sk_cv3, sk_cv4, sk_cv5, sk_cv6, sk_ci1, sk_ci2, sk_ci3, sk_ret0, sk_retI, sk_retL, sk_retR, sk_sw, sk_oin, sk_max, sk_min, sk_abs, lI_0, lI_s, lL_0, lL_s, lR_0, lR_s, vIo_e, vLo_e, vOo_e, stW_I, stW_L, stW_R, stW_0, stW_z, okSt_0, okSt_s, hV_eq, hK_eq, okF_0, okF_1, okF_3, is01_0, is01_1, is01_i, Int.toNat_natCast, Int.reduceEq, Int.reduceLE, Int.reduceLT, Int.reduceNeg, Nat.reduceLT, not_true_eq_false, not_false_eq_true, reduceIte, Option.toList, List.cons_append, List.nil_append, List.set_cons_zero, List.set_cons_succ, List.not_mem_nil, List.mem_cons, if_false, if_true, ite_true, ite_false, and_self, and_true, true_and, Nat.reduceAdd, Nat.reduceLeDiff, Nat.reduceEqDiff, Nat.zero_add, Nat.le_refl, Nat.zero_le, or_false, false_or, Int.reduceToNat, or_true, true_or, eq_self, and_false, false_and, inR_d, nc_4, nc_5, nc_6, nc_7, nc_8, nc_16, nc_18, nc_20, nc_24, nc_32, nc_40, nc_64, nc_104, nc_120, nc_160, nc_256, nc_300, nc_330, nc_390, nc_1200, nc_1260, nc_3012, nc_9834, okSt_1i, okSt_1r, okSt_1n, List.length_cons, List.length_nil, xpk_succ cd_251_110, xpk_succ cd_251_111, xpk_succ cd_251_114, xpk_succ cd_251_115, xpk_succ cd_251_118, xpk_succ cd_251_120, xpk_succ cd_251_121, xpk_succ cd_251_124, xpk_succ cd_251_126, xpk_succ cd_251_127, xpk_succ cd_251_128, xpk_succ cd_251_129, xpk_succ cd_251_130, xpk_succ cd_251_133, xpk_succ cd_251_134, xpk_succ cd_251_137, xpk_succ cd_251_139, xpk_succ cd_251_140, xpk_succ cd_251_141, xpk_succ cd_251_143, xpk_succ cd_251_145, xpk_succ cd_251_148, xpk_succ cd_251_150, xpk_succ cd_251_152, xpk_succ cd_251_155, xpk_succ cd_251_156, xpk_succ cd_251_158, xpk_succ cd_251_160, xpk_succ cd_251_163, hM7_k, k76, k77, q0, en, ea, es, v11, v12, n5, (WE_e wd), (WE_e ws), ec, (sv (i := 11) (by decide))]
  exact y
set_option maxHeartbeats 4000000 in
/-- LOAD, WIND, TENTH -/
theorem E_ps4 {d : Nat} {h : AH} {am nm : Nat → Int} {af ae : Int} {vf tf : Nat → Int} (hk : PKM h) {f : Nat → Int} (ha : AMf am f) (b3 : -9999 ≤ f 3 ∧ f 3 ≤ 9999) (b4 : -99 ≤ f 4 ∧ f 4 ≤ 99) (b7 : 0 ≤ f 7 ∧ f 7 ≤ 9) (b9 : 0 ≤ f 9 ∧ f 9 ≤ 19999) (bx : 0 ≤ f 10 ∧ f 10 ≤ 30252) (hc : hV h 76 25 = vI (f 14)) {c q : Int} : ∃ am' : Nat → Int, AMf am' (upF (blF (upF f 3 (bdF (f 3 + f 4) (-9999) 9999))) 9 (f 9 + 1)) ∧ (∀ i, i ≠ 2 → i ≠ 10 → i ≠ 14 → i ≠ 16 → am' i = am i) ∧ XP (d + 5) 251 164 [some (vR 76), some (vI c), some (vI q)] [] (hM7 h am nm af ae vf tf) (fun r1 h1 => r1 = none ∧ h1 = hM7 h am' nm af ae vf tf) := by
  have k76 := hk.1.2.1
  have k77 := hk.2.1
  have q0 : ∀ {am nm : Nat → Int} {af ae : Int} {vf tf : Nat → Int}, hV (hM7 h am nm af ae vf tf) 76 0 = vR 77 := (hM7_n (by decide) (by decide) (Or.inr ⟨by decide, by decide⟩) (by decide) (by decide)).trans hk.2.2
  have qv : ∀ {am nm : Nat → Int} {af ae : Int} {vf tf : Nat → Int} {i : Nat}, i < 602 → hV (hM7 h am nm af ae vf tf) 77 i = vI (am i) := fun h => hM7_v (by omega)
  have sv : ∀ {am nm : Nat → Int} {af ae : Int} {vf tf : Nat → Int} {i : Nat} {x : Int}, i < 602 → hSet (hM7 h am nm af ae vf tf) 77 i (vI x) = hM7 h (upF am i x) nm af ae vf tf := fun h => hM7_s (by omega)
  obtain ⟨l, hl⟩ : ∃ l, bdF (f 3 + f 4) (-9999) 9999 = l := ⟨_, rfl⟩
  rw [hl]
  have e10 : am 10 = f 3 := ha.1 3 (by decide) (by decide)
  have e11 : am 11 = f 4 := ha.1 4 (by decide) (by decide)
  have e14 : am 14 = f 7 := ha.1 7 (by decide) (by decide)
  have e16 : am 16 = f 9 := ha.1 9 (by decide) (by decide)
  have v25 : ∀ {am nm : Nat → Int} {af ae : Int} {vf tf : Nat → Int}, hV (hM7 h am nm af ae vf tf) 76 25 = vI (f 14) := (hM7_n (by decide) (by decide) (Or.inr ⟨by decide, by decide⟩) (by decide) (by decide)).trans hc
  have w1 : WE (f 3 + f 4) (f 3 + f 4) := by unfold WE w32; omega
  have w2 : WE (f 9 + 1) (f 9 + 1) := by unfold WE w32; omega
  have w3 : WE (f 7 - 1) (f 7 - 1) := by unfold WE w32; omega
  have tm : Int.tmod (f 9 + 1) 40 = (f 9 + 1) % 40 := Int.tmod_eq_emod_of_nonneg (by omega)
  have ec := fun (g : AH) (Q : Option AV → AH → Prop) => E_ctb (d := d + 4) (g := g) (v := f 3 + f 4) (show (-9999 : Int) ≤ 9999 by decide) Q
  rw [hl] at ec
  have v10 : ∀ {nm : Nat → Int} {af ae : Int} {vf tf : Nat → Int}, hV (hM7 h am nm af ae vf tf) 77 10 = vI (f 3) := (qv (by decide)).trans (congrArg vI e10)
  have v11 : ∀ {nm : Nat → Int} {af ae : Int} {vf tf : Nat → Int}, hV (hM7 h am nm af ae vf tf) 77 11 = vI (f 4) := (qv (by decide)).trans (congrArg vI e11)
  have a1 := AMf_u ha (i := 3) (v := l) (by decide) (by decide)
  obtain ⟨am1, hm1⟩ : ∃ a, upF am 10 l = a := ⟨_, rfl⟩
  have a1 : AMf am1 (upF f 3 l) := by rw [← hm1]; exact a1
  have g16 : am1 16 = f 9 := by rw [← hm1]; exact (upF_ne (by decide)).trans e16
  have g14 : am1 14 = f 7 := by rw [← hm1]; exact (upF_ne (by decide)).trans e14
  have g2 : am1 2 = f 10 := by rw [← hm1]; exact (upF_ne (by decide)).trans ha.2
  have go : ∀ i, i ≠ 10 → am1 i = am i := fun i h1 => by rw [← hm1]; exact upF_ne h1
  have s10 : ∀ {nm : Nat → Int} {af ae : Int} {vf tf : Nat → Int}, hSet (hM7 h am nm af ae vf tf) 77 10 (vI l) = hM7 h am1 nm af ae vf tf := by rw [← hm1]; exact sv (by decide)
  have v16 : ∀ {nm : Nat → Int} {af ae : Int} {vf tf : Nat → Int}, hV (hM7 h am1 nm af ae vf tf) 77 16 = vI (f 9) := (qv (by decide)).trans (congrArg vI g16)
  have v14 : ∀ {nm : Nat → Int} {af ae : Int} {vf tf : Nat → Int}, hV (hM7 h am1 nm af ae vf tf) 77 14 = vI (f 7) := (qv (by decide)).trans (congrArg vI g14)
  have f14 : upF f 3 l 14 = f 14 := upF_ne (by decide)
  have f9 : upF f 3 l 9 = f 9 := upF_ne (by decide)
  have f7 : upF f 3 l 7 = f 7 := upF_ne (by decide)
  have f10 : upF f 3 l 10 = f 10 := upF_ne (by decide)
  unfold blF
  rw [f14, f9, f7, f10]
  by_cases z14 : f 14 = 0
  · rw [if_pos z14]
    by_cases z40 : (f 9 + 1) % 40 = 0
    · rw [if_pos z40]
      have ed : ∀ Q : Option AV → AH → Prop, XC (d + 5) 248 [vR 76, vI 10] (hM7 h am1 nm af ae vf tf) Q = Q (some (vI (f 10 % 10))) (hM7 h (upF am1 2 (rnX (f 10))) nm af ae vf tf) := fun Q => by
        have q := E_drM (d := d + 3) (am := am1) (nm := nm) (af := af) (ae := ae) (vf := vf) (tf := tf) hk (by rw [g2]; exact bx) Q
        rw [g2] at q
        exact q
      have v16b : ∀ {x y : Int} {nm : Nat → Int} {af ae : Int} {vf tf : Nat → Int}, hV (hM7 h (upF (upF am1 2 x) 14 y) nm af ae vf tf) 77 16 = vI (f 9) := (qv (by decide)).trans (congrArg vI ((upF_ne (by decide)).trans ((upF_ne (by decide)).trans g16)))
      refine ⟨upF (upF (upF am1 2 (rnX (f 10))) 14 (f 10 % 10)) 16 (f 9 + 1), AMf_u (AMf_u (AMf_x a1) (i := 7) (by decide) (by decide)) (i := 9) (by decide) (by decide), fun i h2 h10 h14 h16 => by rw [upF_ne h16, upF_ne h14, upF_ne h2, go i h10], ?_⟩
      refine xpk_sound (stops := []) (n := 110) ?_
      simp only [sk_0, sk_1, sk_2, sk_3, sk_4, sk_5, sk_6, sk_7, sk_8, sk_iadd, sk_isub, sk_imul, sk_iand, sk_ior, sk_ixor, sk_ishl, sk_ishr, sk_iushr, sk_idiv, sk_irem, sk_ineg, sk_ladd, sk_lsub, sk_lmul, sk_land, sk_lor, sk_ldiv, sk_lrem, sk_lneg, sk_lshl, sk_lshr, sk_i2l, sk_l2i, sk_lcmp, sk_dupI, sk_dupR, sk_dup2L, sk_dup2I, sk_popI, sk_ifeq, sk_ifne, sk_iflt, sk_ifge, sk_ifgt, sk_ifle, sk_iceq, sk_icne, sk_iclt, sk_icge, sk_icgt, sk_icle, sk_goto, sk_getf, sk_putf, sk_gets, sk_iald, sk_lald, sk_bald, sk_aald, sk_iast, sk_last, sk_bast, sk_aast, sk_alen, sk_newa, sk_newt, sk_new, sk_cs1, sk_cs2, sk_cs3, sk_cs4, sk_cs5, sk_cs6, sk_cv1, sk_cv2, sk_cv3, sk_cv4, sk_cv5, sk_cv6, sk_ci1, sk_ci2, sk_ci3, sk_ret0, sk_retI, sk_retL, sk_retR, sk_sw, sk_oin, sk_max, sk_min, sk_abs, lI_0, lI_s, lL_0, lL_s, lR_0, lR_s, vIo_e, vLo_e, vOo_e, stW_I, stW_L, stW_R, stW_0, stW_z, okSt_0, okSt_s, hV_eq, hK_eq, okF_0, okF_1, okF_3, is01_0, is01_1, is01_i, Int.toNat_natCast, Int.reduceEq, Int.reduceLE, Int.reduceLT, Int.reduceNeg, Nat.reduceLT, not_true_eq_false, not_false_eq_true, reduceIte, Option.toList, List.cons_append, List.nil_append, List.set_cons_zero, List.set_cons_succ, List.not_mem_nil, List.mem_cons, if_false, if_true, ite_true, ite_false, and_self, and_true, true_and, Nat.reduceAdd, Nat.reduceLeDiff, Nat.reduceEqDiff, Nat.zero_add, Nat.le_refl, Nat.zero_le, or_false, false_or, Int.reduceToNat, or_true, true_or, eq_self, and_false, false_and, inR_d, nc_4, nc_5, nc_6, nc_7, nc_8, nc_16, nc_18, nc_20, nc_24, nc_32, nc_40, nc_64, nc_104, nc_120, nc_160, nc_256, nc_300, nc_330, nc_390, nc_1200, nc_1260, nc_3012, nc_9834, okSt_1i, okSt_1r, okSt_1n, List.length_cons, List.length_nil, xpk_succ cd_251_164, xpk_succ cd_251_165, xpk_succ cd_251_168, xpk_succ cd_251_170, xpk_succ cd_251_171, xpk_succ cd_251_174, xpk_succ cd_251_176, xpk_succ cd_251_177, xpk_succ cd_251_178, xpk_succ cd_251_181, xpk_succ cd_251_183, xpk_succ cd_251_184, xpk_succ cd_251_185, xpk_succ cd_251_188, xpk_succ cd_251_191, xpk_succ cd_251_194, xpk_succ cd_251_195, xpk_succ cd_251_196, xpk_succ cd_251_199, xpk_succ cd_251_202, xpk_succ cd_251_203, xpk_succ cd_251_206, xpk_succ cd_251_208, xpk_succ cd_251_209, xpk_succ cd_251_212, xpk_succ cd_251_214, xpk_succ cd_251_215, xpk_succ cd_251_216, xpk_succ cd_251_217, xpk_succ cd_251_219, xpk_succ cd_251_220, xpk_succ cd_251_223, xpk_succ cd_251_224, xpk_succ cd_251_226, xpk_succ cd_251_229, xpk_succ cd_251_232, xpk_succ cd_251_233, xpk_succ cd_251_236, xpk_succ cd_251_238, xpk_succ cd_251_239, xpk_succ cd_251_242, xpk_succ cd_251_243, xpk_succ cd_251_246, xpk_succ cd_251_248, xpk_succ cd_251_249, xpk_succ cd_251_250, xpk_succ cd_251_251, xpk_succ cd_251_254, xpk_succ cd_251_255, xpk_succ cd_251_256, xpk_succ cd_251_257, xpk_succ cd_251_260, xpk_succ cd_251_262, xpk_succ cd_251_263, xpk_succ cd_251_264, xpk_succ cd_251_265, xpk_succ cd_251_266, xpk_succ cd_251_267, hM7_k, k76, k77, q0, v10, v11, (WE_e w1), ec, s10, v25, (eq_true z14), v16, (WE_e w2), tm, (eq_true z40), ed, v16b, (sv (i := 14) (by decide)), (sv (i := 16) (by decide))]
    · rw [if_neg z40]
      have v16b : ∀ {y : Int} {nm : Nat → Int} {af ae : Int} {vf tf : Nat → Int}, hV (hM7 h (upF am1 14 y) nm af ae vf tf) 77 16 = vI (f 9) := (qv (by decide)).trans (congrArg vI ((upF_ne (by decide)).trans g16))
      refine ⟨upF (upF am1 14 (max 0 (f 7 - 1))) 16 (f 9 + 1), AMf_u (AMf_u a1 (i := 7) (by decide) (by decide)) (i := 9) (by decide) (by decide), fun i h2 h10 h14 h16 => by rw [upF_ne h16, upF_ne h14, go i h10], ?_⟩
      by_cases z7 : 0 < f 7
      · have z7n : ¬ f 7 ≤ 0 := by omega
        rw [show max 0 (f 7 - 1) = f 7 - 1 by omega]
        refine xpk_sound (stops := []) (n := 110) ?_
        simp only [sk_0, sk_1, sk_2, sk_3, sk_4, sk_5, sk_6, sk_7, sk_8, sk_iadd, sk_isub, sk_imul, sk_iand, sk_ior, sk_ixor, sk_ishl, sk_ishr, sk_iushr, sk_idiv, sk_irem, sk_ineg, sk_ladd, sk_lsub, sk_lmul, sk_land, sk_lor, sk_ldiv, sk_lrem, sk_lneg, sk_lshl, sk_lshr, sk_i2l, sk_l2i, sk_lcmp, sk_dupI, sk_dupR, sk_dup2L, sk_dup2I, sk_popI, sk_ifeq, sk_ifne, sk_iflt, sk_ifge, sk_ifgt, sk_ifle, sk_iceq, sk_icne, sk_iclt, sk_icge, sk_icgt, sk_icle, sk_goto, sk_getf, sk_putf, sk_gets, sk_iald, sk_lald, sk_bald, sk_aald, sk_iast, sk_last, sk_bast, sk_aast, sk_alen, sk_newa, sk_newt, sk_new, sk_cs1, sk_cs2, sk_cs3, sk_cs4, sk_cs5, sk_cs6, sk_cv1, sk_cv2, sk_cv3, sk_cv4, sk_cv5, sk_cv6, sk_ci1, sk_ci2, sk_ci3, sk_ret0, sk_retI, sk_retL, sk_retR, sk_sw, sk_oin, sk_max, sk_min, sk_abs, lI_0, lI_s, lL_0, lL_s, lR_0, lR_s, vIo_e, vLo_e, vOo_e, stW_I, stW_L, stW_R, stW_0, stW_z, okSt_0, okSt_s, hV_eq, hK_eq, okF_0, okF_1, okF_3, is01_0, is01_1, is01_i, Int.toNat_natCast, Int.reduceEq, Int.reduceLE, Int.reduceLT, Int.reduceNeg, Nat.reduceLT, not_true_eq_false, not_false_eq_true, reduceIte, Option.toList, List.cons_append, List.nil_append, List.set_cons_zero, List.set_cons_succ, List.not_mem_nil, List.mem_cons, if_false, if_true, ite_true, ite_false, and_self, and_true, true_and, Nat.reduceAdd, Nat.reduceLeDiff, Nat.reduceEqDiff, Nat.zero_add, Nat.le_refl, Nat.zero_le, or_false, false_or, Int.reduceToNat, or_true, true_or, eq_self, and_false, false_and, inR_d, nc_4, nc_5, nc_6, nc_7, nc_8, nc_16, nc_18, nc_20, nc_24, nc_32, nc_40, nc_64, nc_104, nc_120, nc_160, nc_256, nc_300, nc_330, nc_390, nc_1200, nc_1260, nc_3012, nc_9834, okSt_1i, okSt_1r, okSt_1n, List.length_cons, List.length_nil, xpk_succ cd_251_164, xpk_succ cd_251_165, xpk_succ cd_251_168, xpk_succ cd_251_170, xpk_succ cd_251_171, xpk_succ cd_251_174, xpk_succ cd_251_176, xpk_succ cd_251_177, xpk_succ cd_251_178, xpk_succ cd_251_181, xpk_succ cd_251_183, xpk_succ cd_251_184, xpk_succ cd_251_185, xpk_succ cd_251_188, xpk_succ cd_251_191, xpk_succ cd_251_194, xpk_succ cd_251_195, xpk_succ cd_251_196, xpk_succ cd_251_199, xpk_succ cd_251_202, xpk_succ cd_251_203, xpk_succ cd_251_206, xpk_succ cd_251_208, xpk_succ cd_251_209, xpk_succ cd_251_212, xpk_succ cd_251_214, xpk_succ cd_251_215, xpk_succ cd_251_216, xpk_succ cd_251_217, xpk_succ cd_251_219, xpk_succ cd_251_220, xpk_succ cd_251_223, xpk_succ cd_251_224, xpk_succ cd_251_226, xpk_succ cd_251_229, xpk_succ cd_251_232, xpk_succ cd_251_233, xpk_succ cd_251_236, xpk_succ cd_251_238, xpk_succ cd_251_239, xpk_succ cd_251_242, xpk_succ cd_251_243, xpk_succ cd_251_246, xpk_succ cd_251_248, xpk_succ cd_251_249, xpk_succ cd_251_250, xpk_succ cd_251_251, xpk_succ cd_251_254, xpk_succ cd_251_255, xpk_succ cd_251_256, xpk_succ cd_251_257, xpk_succ cd_251_260, xpk_succ cd_251_262, xpk_succ cd_251_263, xpk_succ cd_251_264, xpk_succ cd_251_265, xpk_succ cd_251_266, xpk_succ cd_251_267, hM7_k, k76, k77, q0, v10, v11, (WE_e w1), ec, s10, v25, (eq_true z14), v16, (WE_e w2), tm, z40, v14, z7, z7n, (WE_e w3), v16b, (sv (i := 14) (by decide)), (sv (i := 16) (by decide))]
      · have z7n : f 7 ≤ 0 := by omega
        rw [show max 0 (f 7 - 1) = 0 by omega]
        refine xpk_sound (stops := []) (n := 110) ?_
        simp only [sk_0, sk_1, sk_2, sk_3, sk_4, sk_5, sk_6, sk_7, sk_8, sk_iadd, sk_isub, sk_imul, sk_iand, sk_ior, sk_ixor, sk_ishl, sk_ishr, sk_iushr, sk_idiv, sk_irem, sk_ineg, sk_ladd, sk_lsub, sk_lmul, sk_land, sk_lor, sk_ldiv, sk_lrem, sk_lneg, sk_lshl, sk_lshr, sk_i2l, sk_l2i, sk_lcmp, sk_dupI, sk_dupR, sk_dup2L, sk_dup2I, sk_popI, sk_ifeq, sk_ifne, sk_iflt, sk_ifge, sk_ifgt, sk_ifle, sk_iceq, sk_icne, sk_iclt, sk_icge, sk_icgt, sk_icle, sk_goto, sk_getf, sk_putf, sk_gets, sk_iald, sk_lald, sk_bald, sk_aald, sk_iast, sk_last, sk_bast, sk_aast, sk_alen, sk_newa, sk_newt, sk_new, sk_cs1, sk_cs2, sk_cs3, sk_cs4, sk_cs5, sk_cs6, sk_cv1, sk_cv2, sk_cv3, sk_cv4, sk_cv5, sk_cv6, sk_ci1, sk_ci2, sk_ci3, sk_ret0, sk_retI, sk_retL, sk_retR, sk_sw, sk_oin, sk_max, sk_min, sk_abs, lI_0, lI_s, lL_0, lL_s, lR_0, lR_s, vIo_e, vLo_e, vOo_e, stW_I, stW_L, stW_R, stW_0, stW_z, okSt_0, okSt_s, hV_eq, hK_eq, okF_0, okF_1, okF_3, is01_0, is01_1, is01_i, Int.toNat_natCast, Int.reduceEq, Int.reduceLE, Int.reduceLT, Int.reduceNeg, Nat.reduceLT, not_true_eq_false, not_false_eq_true, reduceIte, Option.toList, List.cons_append, List.nil_append, List.set_cons_zero, List.set_cons_succ, List.not_mem_nil, List.mem_cons, if_false, if_true, ite_true, ite_false, and_self, and_true, true_and, Nat.reduceAdd, Nat.reduceLeDiff, Nat.reduceEqDiff, Nat.zero_add, Nat.le_refl, Nat.zero_le, or_false, false_or, Int.reduceToNat, or_true, true_or, eq_self, and_false, false_and, inR_d, nc_4, nc_5, nc_6, nc_7, nc_8, nc_16, nc_18, nc_20, nc_24, nc_32, nc_40, nc_64, nc_104, nc_120, nc_160, nc_256, nc_300, nc_330, nc_390, nc_1200, nc_1260, nc_3012, nc_9834, okSt_1i, okSt_1r, okSt_1n, List.length_cons, List.length_nil, xpk_succ cd_251_164, xpk_succ cd_251_165, xpk_succ cd_251_168, xpk_succ cd_251_170, xpk_succ cd_251_171, xpk_succ cd_251_174, xpk_succ cd_251_176, xpk_succ cd_251_177, xpk_succ cd_251_178, xpk_succ cd_251_181, xpk_succ cd_251_183, xpk_succ cd_251_184, xpk_succ cd_251_185, xpk_succ cd_251_188, xpk_succ cd_251_191, xpk_succ cd_251_194, xpk_succ cd_251_195, xpk_succ cd_251_196, xpk_succ cd_251_199, xpk_succ cd_251_202, xpk_succ cd_251_203, xpk_succ cd_251_206, xpk_succ cd_251_208, xpk_succ cd_251_209, xpk_succ cd_251_212, xpk_succ cd_251_214, xpk_succ cd_251_215, xpk_succ cd_251_216, xpk_succ cd_251_217, xpk_succ cd_251_219, xpk_succ cd_251_220, xpk_succ cd_251_223, xpk_succ cd_251_224, xpk_succ cd_251_226, xpk_succ cd_251_229, xpk_succ cd_251_232, xpk_succ cd_251_233, xpk_succ cd_251_236, xpk_succ cd_251_238, xpk_succ cd_251_239, xpk_succ cd_251_242, xpk_succ cd_251_243, xpk_succ cd_251_246, xpk_succ cd_251_248, xpk_succ cd_251_249, xpk_succ cd_251_250, xpk_succ cd_251_251, xpk_succ cd_251_254, xpk_succ cd_251_255, xpk_succ cd_251_256, xpk_succ cd_251_257, xpk_succ cd_251_260, xpk_succ cd_251_262, xpk_succ cd_251_263, xpk_succ cd_251_264, xpk_succ cd_251_265, xpk_succ cd_251_266, xpk_succ cd_251_267, hM7_k, k76, k77, q0, v10, v11, (WE_e w1), ec, s10, v25, (eq_true z14), v16, (WE_e w2), tm, z40, v14, z7, z7n, v16b, (sv (i := 14) (by decide)), (sv (i := 16) (by decide))]
  · rw [if_neg z14]
    refine ⟨upF am1 16 (f 9 + 1), AMf_u a1 (i := 9) (by decide) (by decide), fun i h2 h10 h14 h16 => by rw [upF_ne h16, go i h10], ?_⟩
    refine xpk_sound (stops := []) (n := 110) ?_
    simp only [sk_0, sk_1, sk_2, sk_3, sk_4, sk_5, sk_6, sk_7, sk_8, sk_iadd, sk_isub, sk_imul, sk_iand, sk_ior, sk_ixor, sk_ishl, sk_ishr, sk_iushr, sk_idiv, sk_irem, sk_ineg, sk_ladd, sk_lsub, sk_lmul, sk_land, sk_lor, sk_ldiv, sk_lrem, sk_lneg, sk_lshl, sk_lshr, sk_i2l, sk_l2i, sk_lcmp, sk_dupI, sk_dupR, sk_dup2L, sk_dup2I, sk_popI, sk_ifeq, sk_ifne, sk_iflt, sk_ifge, sk_ifgt, sk_ifle, sk_iceq, sk_icne, sk_iclt, sk_icge, sk_icgt, sk_icle, sk_goto, sk_getf, sk_putf, sk_gets, sk_iald, sk_lald, sk_bald, sk_aald, sk_iast, sk_last, sk_bast, sk_aast, sk_alen, sk_newa, sk_newt, sk_new, sk_cs1, sk_cs2, sk_cs3, sk_cs4, sk_cs5, sk_cs6, sk_cv1, sk_cv2, sk_cv3, sk_cv4, sk_cv5, sk_cv6, sk_ci1, sk_ci2, sk_ci3, sk_ret0, sk_retI, sk_retL, sk_retR, sk_sw, sk_oin, sk_max, sk_min, sk_abs, lI_0, lI_s, lL_0, lL_s, lR_0, lR_s, vIo_e, vLo_e, vOo_e, stW_I, stW_L, stW_R, stW_0, stW_z, okSt_0, okSt_s, hV_eq, hK_eq, okF_0, okF_1, okF_3, is01_0, is01_1, is01_i, Int.toNat_natCast, Int.reduceEq, Int.reduceLE, Int.reduceLT, Int.reduceNeg, Nat.reduceLT, not_true_eq_false, not_false_eq_true, reduceIte, Option.toList, List.cons_append, List.nil_append, List.set_cons_zero, List.set_cons_succ, List.not_mem_nil, List.mem_cons, if_false, if_true, ite_true, ite_false, and_self, and_true, true_and, Nat.reduceAdd, Nat.reduceLeDiff, Nat.reduceEqDiff, Nat.zero_add, Nat.le_refl, Nat.zero_le, or_false, false_or, Int.reduceToNat, or_true, true_or, eq_self, and_false, false_and, inR_d, nc_4, nc_5, nc_6, nc_7, nc_8, nc_16, nc_18, nc_20, nc_24, nc_32, nc_40, nc_64, nc_104, nc_120, nc_160, nc_256, nc_300, nc_330, nc_390, nc_1200, nc_1260, nc_3012, nc_9834, okSt_1i, okSt_1r, okSt_1n, List.length_cons, List.length_nil, xpk_succ cd_251_164, xpk_succ cd_251_165, xpk_succ cd_251_168, xpk_succ cd_251_170, xpk_succ cd_251_171, xpk_succ cd_251_174, xpk_succ cd_251_176, xpk_succ cd_251_177, xpk_succ cd_251_178, xpk_succ cd_251_181, xpk_succ cd_251_183, xpk_succ cd_251_184, xpk_succ cd_251_185, xpk_succ cd_251_188, xpk_succ cd_251_191, xpk_succ cd_251_194, xpk_succ cd_251_195, xpk_succ cd_251_196, xpk_succ cd_251_199, xpk_succ cd_251_202, xpk_succ cd_251_203, xpk_succ cd_251_206, xpk_succ cd_251_208, xpk_succ cd_251_209, xpk_succ cd_251_212, xpk_succ cd_251_214, xpk_succ cd_251_215, xpk_succ cd_251_216, xpk_succ cd_251_217, xpk_succ cd_251_219, xpk_succ cd_251_220, xpk_succ cd_251_223, xpk_succ cd_251_224, xpk_succ cd_251_226, xpk_succ cd_251_229, xpk_succ cd_251_232, xpk_succ cd_251_233, xpk_succ cd_251_236, xpk_succ cd_251_238, xpk_succ cd_251_239, xpk_succ cd_251_242, xpk_succ cd_251_243, xpk_succ cd_251_246, xpk_succ cd_251_248, xpk_succ cd_251_249, xpk_succ cd_251_250, xpk_succ cd_251_251, xpk_succ cd_251_254, xpk_succ cd_251_255, xpk_succ cd_251_256, xpk_succ cd_251_257, xpk_succ cd_251_260, xpk_succ cd_251_262, xpk_succ cd_251_263, xpk_succ cd_251_264, xpk_succ cd_251_265, xpk_succ cd_251_266, xpk_succ cd_251_267, hM7_k, k76, k77, q0, v10, v11, (WE_e w1), ec, s10, v25, z14, v16, (WE_e w2), (sv (i := 16) (by decide))]
