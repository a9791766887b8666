set_option maxRecDepth 20000 in
theorem ac_252 : allC[252]? = some cl252 := rfl
theorem cd_252_0 : cd 252 0 = some (4, 1, 0, 0, 0, []) := cd_row ac_252 rfl
theorem cd_252_1 : cd 252 1 = some (23, 4, 10, 0, 0, []) := cd_row ac_252 rfl
theorem cd_252_4 : cd 252 4 = some (0, 6, 0, 0, 9, []) := cd_row ac_252 rfl
theorem cd_252_6 : cd 252 6 = some (26, 7, 0, 0, 0, []) := cd_row ac_252 rfl
theorem cd_252_7 : cd 252 7 = some (20, 10, 71, 1, 0, []) := cd_row ac_252 rfl
theorem cd_252_10 : cd 252 10 = some (4, 11, 0, 0, 0, []) := cd_row ac_252 rfl
theorem cd_252_11 : cd 252 11 = some (23, 14, 10, 0, 0, []) := cd_row ac_252 rfl
theorem cd_252_14 : cd 252 14 = some (0, 16, 0, 0, 8, []) := cd_row ac_252 rfl
theorem cd_252_16 : cd 252 16 = some (26, 17, 0, 0, 0, []) := cd_row ac_252 rfl
theorem cd_252_17 : cd 252 17 = some (4, 18, 0, 0, 0, []) := cd_row ac_252 rfl
theorem cd_252_18 : cd 252 18 = some (23, 21, 10, 0, 0, []) := cd_row ac_252 rfl
theorem cd_252_21 : cd 252 21 = some (0, 23, 0, 0, 15, []) := cd_row ac_252 rfl
theorem cd_252_23 : cd 252 23 = some (26, 24, 0, 0, 0, []) := cd_row ac_252 rfl
theorem cd_252_24 : cd 252 24 = some (9, 25, 0, 1, 0, []) := cd_row ac_252 rfl
theorem cd_252_25 : cd 252 25 = some (38, 28, 184, 1, 0, []) := cd_row ac_252 rfl
theorem cd_252_28 : cd 252 28 = some (4, 29, 0, 0, 0, []) := cd_row ac_252 rfl
theorem cd_252_29 : cd 252 29 = some (23, 32, 10, 0, 0, []) := cd_row ac_252 rfl
theorem cd_252_32 : cd 252 32 = some (0, 33, 0, 0, 1, []) := cd_row ac_252 rfl
theorem cd_252_33 : cd 252 33 = some (26, 34, 0, 0, 0, []) := cd_row ac_252 rfl
theorem cd_252_34 : cd 252 34 = some (21, 37, 71, 4, 0, []) := cd_row ac_252 rfl
theorem cd_252_37 : cd 252 37 = some (4, 38, 0, 0, 0, []) := cd_row ac_252 rfl
theorem cd_252_38 : cd 252 38 = some (46, 41, 243, 1, 10, []) := cd_row ac_252 rfl
theorem cd_252_41 : cd 252 41 = some (38, 44, 184, 1, 0, []) := cd_row ac_252 rfl
theorem cd_252_44 : cd 252 44 = some (4, 45, 0, 0, 0, []) := cd_row ac_252 rfl
theorem cd_252_45 : cd 252 45 = some (23, 48, 10, 0, 0, []) := cd_row ac_252 rfl
theorem cd_252_48 : cd 252 48 = some (0, 49, 0, 0, 1, []) := cd_row ac_252 rfl
theorem cd_252_49 : cd 252 49 = some (26, 50, 0, 0, 0, []) := cd_row ac_252 rfl
theorem cd_252_50 : cd 252 50 = some (21, 53, 71, 4, 0, []) := cd_row ac_252 rfl
theorem cd_252_53 : cd 252 53 = some (4, 54, 0, 0, 0, []) := cd_row ac_252 rfl
theorem cd_252_54 : cd 252 54 = some (23, 57, 10, 0, 0, []) := cd_row ac_252 rfl
theorem cd_252_57 : cd 252 57 = some (0, 59, 0, 0, 11, []) := cd_row ac_252 rfl
theorem cd_252_59 : cd 252 59 = some (26, 60, 0, 0, 0, []) := cd_row ac_252 rfl
theorem cd_252_60 : cd 252 60 = some (38, 63, 184, 1, 0, []) := cd_row ac_252 rfl
theorem cd_252_63 : cd 252 63 = some (0, 64, 0, 0, 1, []) := cd_row ac_252 rfl
theorem cd_252_64 : cd 252 64 = some (21, 67, 71, 4, 0, []) := cd_row ac_252 rfl
theorem cd_252_67 : cd 252 67 = some (0, 68, 0, 0, 1, []) := cd_row ac_252 rfl
theorem cd_252_68 : cd 252 68 = some (22, 71, 72, 0, 0, []) := cd_row ac_252 rfl
theorem cd_252_71 : cd 252 71 = some (0, 72, 0, 0, 0, []) := cd_row ac_252 rfl
theorem cd_252_72 : cd 252 72 = some (40, 73, 1, 0, 0, []) := cd_row ac_252 rfl
set_option maxRecDepth 20000 in
theorem ac_256 : allC[256]? = some cl256 := rfl
theorem cd_256_0 : cd 256 0 = some (4, 1, 0, 0, 0, []) := cd_row ac_256 rfl
theorem cd_256_1 : cd 256 1 = some (23, 4, 10, 0, 0, []) := cd_row ac_256 rfl
theorem cd_256_4 : cd 256 4 = some (0, 6, 0, 0, 16, []) := cd_row ac_256 rfl
theorem cd_256_6 : cd 256 6 = some (26, 7, 0, 0, 0, []) := cd_row ac_256 rfl
theorem cd_256_7 : cd 256 7 = some (0, 10, 0, 0, 9999, []) := cd_row ac_256 rfl
theorem cd_256_10 : cd 256 10 = some (21, 13, 15, 1, 0, []) := cd_row ac_256 rfl
theorem cd_256_13 : cd 256 13 = some (0, 14, 0, 0, 0, []) := cd_row ac_256 rfl
theorem cd_256_14 : cd 256 14 = some (40, 15, 1, 0, 0, []) := cd_row ac_256 rfl
theorem cd_256_15 : cd 256 15 = some (4, 16, 0, 0, 0, []) := cd_row ac_256 rfl
theorem cd_256_16 : cd 256 16 = some (46, 19, 254, 1, 10, []) := cd_row ac_256 rfl
theorem cd_256_19 : cd 256 19 = some (4, 20, 0, 0, 0, []) := cd_row ac_256 rfl
theorem cd_256_20 : cd 256 20 = some (2, 21, 1, 0, 0, []) := cd_row ac_256 rfl
theorem cd_256_21 : cd 256 21 = some (46, 24, 251, 2, 10, []) := cd_row ac_256 rfl
theorem cd_256_24 : cd 256 24 = some (0, 25, 0, 0, 1, []) := cd_row ac_256 rfl
theorem cd_256_25 : cd 256 25 = some (40, 26, 1, 0, 0, []) := cd_row ac_256 rfl
set_option maxRecDepth 20000 in
theorem ac_257 : allC[257]? = some cl257 := rfl
theorem cd_257_0 : cd 257 0 = some (2, 1, 1, 0, 0, []) := cd_row ac_257 rfl
theorem cd_257_1 : cd 257 1 = some (0, 2, 0, 0, -1, []) := cd_row ac_257 rfl
theorem cd_257_2 : cd 257 2 = some (0, 3, 0, 0, 1, []) := cd_row ac_257 rfl
theorem cd_257_3 : cd 257 3 = some (38, 6, 182, 3, 0, []) := cd_row ac_257 rfl
theorem cd_257_6 : cd 257 6 = some (20, 9, 27, 0, 0, []) := cd_row ac_257 rfl
theorem cd_257_9 : cd 257 9 = some (4, 10, 0, 0, 0, []) := cd_row ac_257 rfl
theorem cd_257_10 : cd 257 10 = some (2, 11, 1, 0, 0, []) := cd_row ac_257 rfl
theorem cd_257_11 : cd 257 11 = some (46, 14, 256, 2, 10, []) := cd_row ac_257 rfl
theorem cd_257_14 : cd 257 14 = some (20, 17, 27, 0, 0, []) := cd_row ac_257 rfl
theorem cd_257_17 : cd 257 17 = some (4, 18, 0, 0, 0, []) := cd_row ac_257 rfl
theorem cd_257_18 : cd 257 18 = some (23, 21, 10, 0, 0, []) := cd_row ac_257 rfl
theorem cd_257_21 : cd 257 21 = some (0, 23, 0, 0, 8, []) := cd_row ac_257 rfl
theorem cd_257_23 : cd 257 23 = some (26, 24, 0, 0, 0, []) := cd_row ac_257 rfl
theorem cd_257_24 : cd 257 24 = some (22, 27, 28, 0, 0, []) := cd_row ac_257 rfl
theorem cd_257_27 : cd 257 27 = some (0, 28, 0, 0, -1, []) := cd_row ac_257 rfl
theorem cd_257_28 : cd 257 28 = some (40, 29, 0, 0, 0, []) := cd_row ac_257 rfl
set_option maxRecDepth 20000 in
theorem ac_258 : allC[258]? = some cl258 := rfl
theorem cd_258_0 : cd 258 0 = some (0, 1, 0, 0, 0, []) := cd_row ac_258 rfl
theorem cd_258_1 : cd 258 1 = some (5, 2, 2, 0, 0, []) := cd_row ac_258 rfl
theorem cd_258_2 : cd 258 2 = some (2, 3, 2, 0, 0, []) := cd_row ac_258 rfl
theorem cd_258_3 : cd 258 3 = some (2, 4, 1, 0, 0, []) := cd_row ac_258 rfl
theorem cd_258_4 : cd 258 4 = some (21, 7, 32, 3, 0, []) := cd_row ac_258 rfl
theorem cd_258_7 : cd 258 7 = some (4, 8, 0, 0, 0, []) := cd_row ac_258 rfl
theorem cd_258_8 : cd 258 8 = some (4, 9, 0, 0, 0, []) := cd_row ac_258 rfl
theorem cd_258_9 : cd 258 9 = some (4, 10, 0, 0, 0, []) := cd_row ac_258 rfl
theorem cd_258_10 : cd 258 10 = some (23, 13, 10, 0, 0, []) := cd_row ac_258 rfl
theorem cd_258_13 : cd 258 13 = some (0, 14, 0, 0, 4, []) := cd_row ac_258 rfl
theorem cd_258_14 : cd 258 14 = some (26, 15, 0, 0, 0, []) := cd_row ac_258 rfl
theorem cd_258_15 : cd 258 15 = some (46, 18, 253, 2, 10, []) := cd_row ac_258 rfl
theorem cd_258_18 : cd 258 18 = some (46, 21, 256, 2, 10, []) := cd_row ac_258 rfl
theorem cd_258_21 : cd 258 21 = some (20, 24, 26, 1, 0, []) := cd_row ac_258 rfl
theorem cd_258_24 : cd 258 24 = some (0, 25, 0, 0, 0, []) := cd_row ac_258 rfl
theorem cd_258_25 : cd 258 25 = some (40, 26, 1, 0, 0, []) := cd_row ac_258 rfl
theorem cd_258_26 : cd 258 26 = some (8, 29, 2, 0, 1, []) := cd_row ac_258 rfl
theorem cd_258_29 : cd 258 29 = some (22, 32, 2, 0, 0, []) := cd_row ac_258 rfl
theorem cd_258_32 : cd 258 32 = some (0, 33, 0, 0, 1, []) := cd_row ac_258 rfl
theorem cd_258_33 : cd 258 33 = some (40, 34, 1, 0, 0, []) := cd_row ac_258 rfl
set_option maxRecDepth 20000 in
theorem ac_259 : allC[259]? = some cl259 := rfl
theorem cd_259_0 : cd 259 0 = some (2, 1, 1, 0, 0, []) := cd_row ac_259 rfl
theorem cd_259_1 : cd 259 1 = some (0, 2, 0, 0, 1, []) := cd_row ac_259 rfl
theorem cd_259_2 : cd 259 2 = some (0, 4, 0, 0, 60, []) := cd_row ac_259 rfl
theorem cd_259_4 : cd 259 4 = some (38, 7, 182, 3, 0, []) := cd_row ac_259 rfl
theorem cd_259_7 : cd 259 7 = some (20, 10, 43, 0, 0, []) := cd_row ac_259 rfl
theorem cd_259_10 : cd 259 10 = some (4, 11, 0, 0, 0, []) := cd_row ac_259 rfl
theorem cd_259_11 : cd 259 11 = some (23, 14, 10, 0, 0, []) := cd_row ac_259 rfl
theorem cd_259_14 : cd 259 14 = some (0, 16, 0, 0, 16, []) := cd_row ac_259 rfl
theorem cd_259_16 : cd 259 16 = some (26, 17, 0, 0, 0, []) := cd_row ac_259 rfl
theorem cd_259_17 : cd 259 17 = some (2, 18, 1, 0, 0, []) := cd_row ac_259 rfl
theorem cd_259_18 : cd 259 18 = some (9, 19, 0, 0, 0, []) := cd_row ac_259 rfl
theorem cd_259_19 : cd 259 19 = some (0, 22, 0, 0, 9999, []) := cd_row ac_259 rfl
theorem cd_259_22 : cd 259 22 = some (21, 25, 43, 4, 0, []) := cd_row ac_259 rfl
theorem cd_259_25 : cd 259 25 = some (4, 26, 0, 0, 0, []) := cd_row ac_259 rfl
theorem cd_259_26 : cd 259 26 = some (2, 27, 1, 0, 0, []) := cd_row ac_259 rfl
theorem cd_259_27 : cd 259 27 = some (46, 30, 258, 2, 10, []) := cd_row ac_259 rfl
theorem cd_259_30 : cd 259 30 = some (20, 33, 43, 0, 0, []) := cd_row ac_259 rfl
theorem cd_259_33 : cd 259 33 = some (4, 34, 0, 0, 0, []) := cd_row ac_259 rfl
theorem cd_259_34 : cd 259 34 = some (23, 37, 10, 0, 0, []) := cd_row ac_259 rfl
theorem cd_259_37 : cd 259 37 = some (0, 39, 0, 0, 8, []) := cd_row ac_259 rfl
theorem cd_259_39 : cd 259 39 = some (26, 40, 0, 0, 0, []) := cd_row ac_259 rfl
theorem cd_259_40 : cd 259 40 = some (22, 43, 44, 0, 0, []) := cd_row ac_259 rfl
theorem cd_259_43 : cd 259 43 = some (0, 44, 0, 0, -1, []) := cd_row ac_259 rfl
theorem cd_259_44 : cd 259 44 = some (40, 45, 0, 0, 0, []) := cd_row ac_259 rfl
set_option maxRecDepth 20000 in
theorem ac_260 : allC[260]? = some cl260 := rfl
theorem cd_260_0 : cd 260 0 = some (2, 1, 1, 0, 0, []) := cd_row ac_260 rfl
theorem cd_260_1 : cd 260 1 = some (0, 2, 0, 0, 1, []) := cd_row ac_260 rfl
theorem cd_260_2 : cd 260 2 = some (0, 4, 0, 0, 24, []) := cd_row ac_260 rfl
theorem cd_260_4 : cd 260 4 = some (38, 7, 182, 3, 0, []) := cd_row ac_260 rfl
theorem cd_260_7 : cd 260 7 = some (20, 10, 21, 0, 0, []) := cd_row ac_260 rfl
theorem cd_260_10 : cd 260 10 = some (4, 11, 0, 0, 0, []) := cd_row ac_260 rfl
theorem cd_260_11 : cd 260 11 = some (23, 14, 10, 0, 0, []) := cd_row ac_260 rfl
theorem cd_260_14 : cd 260 14 = some (0, 16, 0, 0, 12, []) := cd_row ac_260 rfl
theorem cd_260_16 : cd 260 16 = some (26, 17, 0, 0, 0, []) := cd_row ac_260 rfl
theorem cd_260_17 : cd 260 17 = some (2, 18, 1, 0, 0, []) := cd_row ac_260 rfl
theorem cd_260_18 : cd 260 18 = some (21, 21, 23, 1, 0, []) := cd_row ac_260 rfl
theorem cd_260_21 : cd 260 21 = some (0, 22, 0, 0, 0, []) := cd_row ac_260 rfl
theorem cd_260_22 : cd 260 22 = some (40, 23, 1, 0, 0, []) := cd_row ac_260 rfl
theorem cd_260_23 : cd 260 23 = some (4, 24, 0, 0, 0, []) := cd_row ac_260 rfl
theorem cd_260_24 : cd 260 24 = some (46, 27, 254, 1, 10, []) := cd_row ac_260 rfl
theorem cd_260_27 : cd 260 27 = some (4, 28, 0, 0, 0, []) := cd_row ac_260 rfl
theorem cd_260_28 : cd 260 28 = some (23, 31, 10, 0, 0, []) := cd_row ac_260 rfl
theorem cd_260_31 : cd 260 31 = some (0, 33, 0, 0, 12, []) := cd_row ac_260 rfl
theorem cd_260_33 : cd 260 33 = some (2, 34, 1, 0, 0, []) := cd_row ac_260 rfl
theorem cd_260_34 : cd 260 34 = some (30, 35, 0, 0, 0, []) := cd_row ac_260 rfl
theorem cd_260_35 : cd 260 35 = some (0, 36, 0, 0, 1, []) := cd_row ac_260 rfl
theorem cd_260_36 : cd 260 36 = some (40, 37, 1, 0, 0, []) := cd_row ac_260 rfl
set_option maxRecDepth 20000 in
theorem ac_261 : allC[261]? = some cl261 := rfl
theorem cd_261_0 : cd 261 0 = some (2, 1, 1, 0, 0, []) := cd_row ac_261 rfl
theorem cd_261_1 : cd 261 1 = some (0, 2, 0, 0, 0, []) := cd_row ac_261 rfl
theorem cd_261_2 : cd 261 2 = some (0, 5, 0, 0, 600, []) := cd_row ac_261 rfl
theorem cd_261_5 : cd 261 5 = some (38, 8, 182, 3, 0, []) := cd_row ac_261 rfl
theorem cd_261_8 : cd 261 8 = some (20, 11, 22, 0, 0, []) := cd_row ac_261 rfl
theorem cd_261_11 : cd 261 11 = some (4, 12, 0, 0, 0, []) := cd_row ac_261 rfl
theorem cd_261_12 : cd 261 12 = some (23, 15, 10, 0, 0, []) := cd_row ac_261 rfl
theorem cd_261_15 : cd 261 15 = some (0, 17, 0, 0, 15, []) := cd_row ac_261 rfl
theorem cd_261_17 : cd 261 17 = some (26, 18, 0, 0, 0, []) := cd_row ac_261 rfl
theorem cd_261_18 : cd 261 18 = some (2, 19, 1, 0, 0, []) := cd_row ac_261 rfl
theorem cd_261_19 : cd 261 19 = some (21, 22, 24, 1, 0, []) := cd_row ac_261 rfl
theorem cd_261_22 : cd 261 22 = some (0, 23, 0, 0, 0, []) := cd_row ac_261 rfl
theorem cd_261_23 : cd 261 23 = some (40, 24, 1, 0, 0, []) := cd_row ac_261 rfl
theorem cd_261_24 : cd 261 24 = some (4, 25, 0, 0, 0, []) := cd_row ac_261 rfl
theorem cd_261_25 : cd 261 25 = some (46, 28, 254, 1, 10, []) := cd_row ac_261 rfl
theorem cd_261_28 : cd 261 28 = some (4, 29, 0, 0, 0, []) := cd_row ac_261 rfl
theorem cd_261_29 : cd 261 29 = some (23, 32, 10, 0, 0, []) := cd_row ac_261 rfl
theorem cd_261_32 : cd 261 32 = some (0, 34, 0, 0, 15, []) := cd_row ac_261 rfl
theorem cd_261_34 : cd 261 34 = some (2, 35, 1, 0, 0, []) := cd_row ac_261 rfl
theorem cd_261_35 : cd 261 35 = some (30, 36, 0, 0, 0, []) := cd_row ac_261 rfl
theorem cd_261_36 : cd 261 36 = some (0, 37, 0, 0, 1, []) := cd_row ac_261 rfl
theorem cd_261_37 : cd 261 37 = some (40, 38, 1, 0, 0, []) := cd_row ac_261 rfl
set_option maxRecDepth 20000 in
theorem ac_262 : allC[262]? = some cl262 := rfl
theorem cd_262_0 : cd 262 0 = some (4, 1, 0, 0, 0, []) := cd_row ac_262 rfl
theorem cd_262_1 : cd 262 1 = some (2, 2, 1, 0, 0, []) := cd_row ac_262 rfl
theorem cd_262_2 : cd 262 2 = some (46, 5, 187, 2, 10, []) := cd_row ac_262 rfl
theorem cd_262_5 : cd 262 5 = some (20, 8, 29, 0, 0, []) := cd_row ac_262 rfl
theorem cd_262_8 : cd 262 8 = some (4, 9, 0, 0, 0, []) := cd_row ac_262 rfl
theorem cd_262_9 : cd 262 9 = some (23, 12, 10, 0, 0, []) := cd_row ac_262 rfl
theorem cd_262_12 : cd 262 12 = some (0, 14, 0, 0, 17, []) := cd_row ac_262 rfl
theorem cd_262_14 : cd 262 14 = some (26, 15, 0, 0, 0, []) := cd_row ac_262 rfl
theorem cd_262_15 : cd 262 15 = some (0, 16, 0, 0, -1, []) := cd_row ac_262 rfl
theorem cd_262_16 : cd 262 16 = some (21, 19, 29, 1, 0, []) := cd_row ac_262 rfl
theorem cd_262_19 : cd 262 19 = some (4, 20, 0, 0, 0, []) := cd_row ac_262 rfl
theorem cd_262_20 : cd 262 20 = some (2, 21, 1, 0, 0, []) := cd_row ac_262 rfl
theorem cd_262_21 : cd 262 21 = some (0, 22, 0, 0, 5, []) := cd_row ac_262 rfl
theorem cd_262_22 : cd 262 22 = some (46, 25, 188, 3, 10, []) := cd_row ac_262 rfl
theorem cd_262_25 : cd 262 25 = some (0, 26, 0, 0, 1, []) := cd_row ac_262 rfl
theorem cd_262_26 : cd 262 26 = some (21, 29, 31, 1, 0, []) := cd_row ac_262 rfl
theorem cd_262_29 : cd 262 29 = some (0, 30, 0, 0, 0, []) := cd_row ac_262 rfl
theorem cd_262_30 : cd 262 30 = some (40, 31, 1, 0, 0, []) := cd_row ac_262 rfl
theorem cd_262_31 : cd 262 31 = some (4, 32, 0, 0, 0, []) := cd_row ac_262 rfl
theorem cd_262_32 : cd 262 32 = some (46, 35, 254, 1, 10, []) := cd_row ac_262 rfl
theorem cd_262_35 : cd 262 35 = some (4, 36, 0, 0, 0, []) := cd_row ac_262 rfl
theorem cd_262_36 : cd 262 36 = some (23, 39, 10, 0, 0, []) := cd_row ac_262 rfl
theorem cd_262_39 : cd 262 39 = some (0, 41, 0, 0, 17, []) := cd_row ac_262 rfl
theorem cd_262_41 : cd 262 41 = some (2, 42, 1, 0, 0, []) := cd_row ac_262 rfl
theorem cd_262_42 : cd 262 42 = some (30, 43, 0, 0, 0, []) := cd_row ac_262 rfl
theorem cd_262_43 : cd 262 43 = some (4, 44, 0, 0, 0, []) := cd_row ac_262 rfl
theorem cd_262_44 : cd 262 44 = some (23, 47, 10, 0, 0, []) := cd_row ac_262 rfl
theorem cd_262_47 : cd 262 47 = some (0, 49, 0, 0, 13, []) := cd_row ac_262 rfl
theorem cd_262_49 : cd 262 49 = some (4, 50, 0, 0, 0, []) := cd_row ac_262 rfl
theorem cd_262_50 : cd 262 50 = some (2, 51, 1, 0, 0, []) := cd_row ac_262 rfl
theorem cd_262_51 : cd 262 51 = some (0, 52, 0, 0, 0, []) := cd_row ac_262 rfl
theorem cd_262_52 : cd 262 52 = some (46, 55, 188, 3, 10, []) := cd_row ac_262 rfl
theorem cd_262_55 : cd 262 55 = some (30, 56, 0, 0, 0, []) := cd_row ac_262 rfl
theorem cd_262_56 : cd 262 56 = some (4, 57, 0, 0, 0, []) := cd_row ac_262 rfl
theorem cd_262_57 : cd 262 57 = some (23, 60, 10, 0, 0, []) := cd_row ac_262 rfl
theorem cd_262_60 : cd 262 60 = some (0, 62, 0, 0, 15, []) := cd_row ac_262 rfl
theorem cd_262_62 : cd 262 62 = some (0, 64, 0, 0, 10, []) := cd_row ac_262 rfl
theorem cd_262_64 : cd 262 64 = some (4, 65, 0, 0, 0, []) := cd_row ac_262 rfl
theorem cd_262_65 : cd 262 65 = some (2, 66, 1, 0, 0, []) := cd_row ac_262 rfl
theorem cd_262_66 : cd 262 66 = some (0, 67, 0, 0, 1, []) := cd_row ac_262 rfl
theorem cd_262_67 : cd 262 67 = some (46, 70, 188, 3, 10, []) := cd_row ac_262 rfl
theorem cd_262_70 : cd 262 70 = some (9, 71, 0, 2, 0, []) := cd_row ac_262 rfl
theorem cd_262_71 : cd 262 71 = some (30, 72, 0, 0, 0, []) := cd_row ac_262 rfl
theorem cd_262_72 : cd 262 72 = some (0, 73, 0, 0, 1, []) := cd_row ac_262 rfl
theorem cd_262_73 : cd 262 73 = some (40, 74, 1, 0, 0, []) := cd_row ac_262 rfl
/-! the reference's steps -/
abbrev SCM : Type := (Nat → Int) × Int × Int × (Nat → Int) × (Nat → Int)
def Mc (h : AH) (am : Nat → Int) (s : SCM) : AH := hM7 h am s.1 s.2.1 s.2.2.1 s.2.2.2.1 s.2.2.2.2
theorem Mc_k {h : AH} {am : Nat → Int} {s : SCM} : hK (Mc h am s) = hK h := rfl
theorem Mc_v {h : AH} {am : Nat → Int} {s : SCM} {i : Nat} (hi : i < 9834) : hV (Mc h am s) 77 i = vI (am i) := hM7_v hi
theorem Mc_n {h : AH} {am : Nat → Int} {s : SCM} {k i : Nat} (h0 : k ≠ 77) (h1 : k ≠ 82) (h2 : k ≠ 76 ∨ (i ≠ 21 ∧ i ≠ 22)) (h3 : k ≠ 83) (h4 : k ≠ 84) : hV (Mc h am s) k i = hV h k i := hM7_n h0 h1 h2 h3 h4
theorem Mc_s {h : AH} {am : Nat → Int} {s : SCM} {i : Nat} {x : Int} (hi : i < 9834) : hSet (Mc h am s) 77 i (vI x) = Mc h (upF am i x) s := hM7_s hi
theorem PKM_J {h : AH} (hJ : k_H JB h) : PKM h := ⟨⟨⟨F_76_2 hJ, F_76_20 hJ, F_76_23 hJ, F_76_24 hJ⟩, K_76 hJ, K_79 hJ, K_82 hJ, K_83 hJ, K_84 hJ⟩, K_77 hJ, F_76_0 hJ⟩
theorem Mc_0 {h : AH} {am : Nat → Int} {s : SCM} (hJ : k_H JB h) : hV (Mc h am s) 76 0 = vR 77 := (Mc_n (by decide) (by decide) (Or.inr ⟨by decide, by decide⟩) (by decide) (by decide)).trans (F_76_0 hJ)
def hZs (h : AH) (s : SCM) : AH := hZ h s.1 s.2.1 s.2.2.1 s.2.2.2.1 s.2.2.2.2
theorem Mc_A {h : AH} {am : Nat → Int} {s : SCM} : Mc h am s = hA (hZs h s) am := by
  obtain ⟨nm, af, ae, vf, tf⟩ := s
  refine Prod.ext rfl (Prod.ext rfl (Prod.ext rfl ?_))
  funext k j
  show (if k = 83 ∧ j < 330 then vL (vf j) else if k = 84 ∧ j < 330 then vI (tf j) else if k = 82 ∧ j < 8 then vI (nm j) else if k = 76 ∧ j = 21 then vI af else if k = 76 ∧ j = 22 then vI ae else if k = 77 ∧ j < 9834 then vI (am j) else h.2.2.2 k j) = (if k = 77 ∧ j < 9834 then vI (am j) else if k = 83 ∧ j < 330 then vL (vf j) else if k = 84 ∧ j < 330 then vI (tf j) else if k = 82 ∧ j < 8 then vI (nm j) else if k = 76 ∧ j = 21 then vI af else if k = 76 ∧ j = 22 then vI ae else h.2.2.2 k j)
  by_cases z : k = 77 ∧ j < 9834
  · rw [if_neg (by omega), if_neg (by omega), if_neg (by omega), if_neg (by omega), if_neg (by omega), if_pos z, if_pos z]
  · rw [if_neg z, if_neg z]
theorem AO_Z {h : AH} (hJ : k_H JB h) {s : SCM} : AO (hZs h s) := ⟨K_76 (h := h) hJ, (hZ_n (by decide) (Or.inr ⟨by decide, by decide⟩) (by decide) (by decide)).trans (F_76_0 hJ), K_77 (h := h) hJ⟩
/-- keep -/
theorem E_kM {h : AH} {am : Nat → Int} {s : SCM} {d c n : Nat} {b : Int} (hJ : k_H JB h) (h5 : am 5 = (c : Int)) (hc : c ≤ 30) (h0 : am 0 = (n : Int)) (hn : n ≤ 8) (hb : 0 ≤ b) (hbn : b < 2 ^ n) (hb2 : b ≤ 255) (hf : ∀ o, o < n → am (25 + 6 * o) = bitF b o) : ∃ (am' : Nat → Int) (s' : Nat) (t : Bool), LAY am am' s' t ∧ am' (84 + 13 * s' + 12) = b ∧ ∀ Q : Option AV → AH → Prop, XC (d + 2) 254 [vR 76] (Mc h am s) Q = Q none (Mc h am' s) := by
  have q := Y_keep d (hZs h s) am c n b ⟨hb, hb2⟩ hbn hf (AO_Z hJ) h5 hc h0 hn (fun r1 h1 => r1 = none ∧ ∃ (am' : Nat → Int) (s' : Nat) (t : Bool), LAY am am' s' t ∧ am' (84 + 13 * s' + 12) = b ∧ h1 = Mc h am' s) (fun g s' hs' hg => by
    obtain ⟨t, hL⟩ := kp_lay h5 hs' hg (m := b) ⟨by omega, by omega⟩
    exact ⟨rfl, _, s', t, hL, by rw [upF_ne (by omega)]; exact upF_at, Mc_A.symm⟩)
  rw [← Mc_A] at q
  obtain ⟨r, h', ⟨hr, am', s', t, h1, h2, h3⟩, e⟩ := XC_dt q
  subst hr h3
  exact ⟨am', s', t, h1, h2, e⟩
/-- undo -/
theorem E_uM {h : AH} {am : Nat → Int} {s : SCM} {d c n : Nat} {b : Int} (hJ : k_H JB h) (h5 : am 5 = ((c + 1 : Nat) : Int)) (hc : c < 30) (h0 : am 0 = (n : Int)) (hn : n ≤ 8) (hb : am (84 + 13 * c + 12) = b) : ∃ am' : Nat → Int, UNx b am am' c n ∧ ∀ Q : Option AV → AH → Prop, XC (d + 1) 255 [vR 76] (Mc h am s) Q = Q (some (vI (c : Int))) (Mc h am' s) := by
  have q := Y_undo d (hZs h s) am c n b hb (AO_Z hJ) h5 hc h0 hn (fun r1 h1 => r1 = some (vI (c : Int)) ∧ ∃ am' : Nat → Int, UNx b am am' c n ∧ h1 = Mc h am' s) (fun f' hU => ⟨rfl, f', hU, Mc_A.symm⟩)
  rw [← Mc_A] at q
  obtain ⟨r, h', ⟨hr, am', h1, h3⟩, e⟩ := XC_dt q
  subst hr h3
  exact ⟨am', h1, e⟩
theorem E_uM0 {h : AH} {am : Nat → Int} {s : SCM} {d : Nat} (hJ : k_H JB h) (h5 : am 5 = 0) (Q : Option AV → AH → Prop) : XC (d + 1) 255 [vR 76] (Mc h am s) Q = Q (some (vI (-1))) (Mc h am s) := by
  have q := X_undo0 d (hZs h s) am (AO_Z hJ) h5 (fun r1 h1 => r1 = some (vI (-1)) ∧ h1 = Mc h am s) ⟨rfl, Mc_A.symm⟩
  rw [← Mc_A] at q
  obtain ⟨r, h', ⟨hr, h3⟩, e⟩ := XC_dt q
  subst hr h3
  exact e Q
theorem E_gt {h : AH} {am : Nat → Int} {s : SCM} {d o w : Nat} (hJ : k_H JB h) (ho : o < 8) (hw : w < 6) (Q : Option AV → AH → Prop) : XC (d + 1) 188 [vR 76, vI (o : Int), vI (w : Int)] (Mc h am s) Q = Q (some (vI (am (20 + 6 * o + w)))) (Mc h am s) := by
  have q := X_get d (hZs h s) am o w (AO_Z hJ) ho hw Q
  rw [← Mc_A] at q
  exact q
theorem E_sz {d : Nat} {g : AH} {x : Int} (hx : -30000 ≤ x ∧ x ≤ 30000) (Q : Option AV → AH → Prop) : XC (d + 1) 184 [vI x] g Q = Q (some (vI (absF x))) g := by
  refine XC_eq (Nat.le_of_ble_eq_true rfl) ?_ Q
  show XP d 184 0 [some (vI x)] [] g _
  unfold absF
  by_cases z : 0 ≤ x
  · rw [if_pos z]
    refine xpk_sound (stops := []) (n := 9) ?_
    simp only [sk_0, sk_1, sk_2, sk_3, sk_4, sk_5, sk_6, sk_7, sk_8, sk_iadd, sk_isub, sk_imul, sk_iand, sk_ior, sk_ixor, sk_ishl, sk_ishr, sk_iushr, sk_idiv, sk_irem, sk_ineg, sk_ladd, sk_lsub, sk_lmul, sk_land, sk_lor, sk_ldiv, sk_lrem, sk_lneg, sk_lshl, sk_lshr, sk_i2l, sk_l2i, sk_lcmp, sk_dupI, sk_dupR, sk_dup2L, sk_dup2I, sk_popI, sk_ifeq, sk_ifne, sk_iflt, sk_ifge, sk_ifgt, sk_ifle, sk_iceq, sk_icne, sk_iclt, sk_icge, sk_icgt, sk_icle, sk_goto, sk_getf, sk_putf, sk_gets, sk_iald, sk_lald, sk_bald, sk_aald, sk_iast, sk_last, sk_bast, sk_aast, sk_alen, sk_newa, sk_newt, sk_new, sk_cs1, sk_cs2, sk_cs3, sk_cs4, sk_cs5, sk_cs6, sk_cv1, sk_cv2, sk_cv3, sk_cv4, sk_cv5, sk_cv6, sk_ci1, sk_ci2, sk_ci3, sk_ret0, sk_retI, sk_retL, sk_retR, sk_sw, sk_oin, sk_max, sk_min, sk_abs, lI_0, lI_s, lL_0, lL_s, lR_0, lR_s, vIo_e, vLo_e, vOo_e, stW_I, stW_L, stW_R, stW_0, stW_z, okSt_0, okSt_s, hV_eq, hK_eq, okF_0, okF_1, okF_3, is01_0, is01_1, is01_i, Int.toNat_natCast, Int.reduceEq, Int.reduceLE, Int.reduceLT, Int.reduceNeg, Nat.reduceLT, not_true_eq_false, not_false_eq_true, reduceIte, Option.toList, List.cons_append, List.nil_append, List.set_cons_zero, List.set_cons_succ, List.not_mem_nil, List.mem_cons, if_false, if_true, ite_true, ite_false, and_self, and_true, true_and, Nat.reduceAdd, Nat.reduceLeDiff, Nat.reduceEqDiff, Nat.zero_add, Nat.le_refl, Nat.zero_le, or_false, false_or, Int.reduceToNat, or_true, true_or, eq_self, and_false, false_and, inR_d, nc_4, nc_5, nc_6, nc_7, nc_8, nc_16, nc_18, nc_20, nc_24, nc_32, nc_40, nc_64, nc_104, nc_120, nc_160, nc_256, nc_300, nc_330, nc_390, nc_1200, nc_1260, nc_3012, nc_9834, okSt_1i, okSt_1r, okSt_1n, List.length_cons, List.length_nil, xpk_succ cd_184_0, xpk_succ cd_184_1, xpk_succ cd_184_4, xpk_succ cd_184_5, xpk_succ cd_184_6, xpk_succ cd_184_9, xpk_succ cd_184_10, (eq_true z)]
  · rw [if_neg z]
    have w : WE (-x) (-x) := by unfold WE w32; omega
    refine xpk_sound (stops := []) (n := 9) ?_
    simp only [sk_0, sk_1, sk_2, sk_3, sk_4, sk_5, sk_6, sk_7, sk_8, sk_iadd, sk_isub, sk_imul, sk_iand, sk_ior, sk_ixor, sk_ishl, sk_ishr, sk_iushr, sk_idiv, sk_irem, sk_ineg, sk_ladd, sk_lsub, sk_lmul, sk_land, sk_lor, sk_ldiv, sk_lrem, sk_lneg, sk_lshl, sk_lshr, sk_i2l, sk_l2i, sk_lcmp, sk_dupI, sk_dupR, sk_dup2L, sk_dup2I, sk_popI, sk_ifeq, sk_ifne, sk_iflt, sk_ifge, sk_ifgt, sk_ifle, sk_iceq, sk_icne, sk_iclt, sk_icge, sk_icgt, sk_icle, sk_goto, sk_getf, sk_putf, sk_gets, sk_iald, sk_lald, sk_bald, sk_aald, sk_iast, sk_last, sk_bast, sk_aast, sk_alen, sk_newa, sk_newt, sk_new, sk_cs1, sk_cs2, sk_cs3, sk_cs4, sk_cs5, sk_cs6, sk_cv1, sk_cv2, sk_cv3, sk_cv4, sk_cv5, sk_cv6, sk_ci1, sk_ci2, sk_ci3, sk_ret0, sk_retI, sk_retL, sk_retR, sk_sw, sk_oin, sk_max, sk_min, sk_abs, lI_0, lI_s, lL_0, lL_s, lR_0, lR_s, vIo_e, vLo_e, vOo_e, stW_I, stW_L, stW_R, stW_0, stW_z, okSt_0, okSt_s, hV_eq, hK_eq, okF_0, okF_1, okF_3, is01_0, is01_1, is01_i, Int.toNat_natCast, Int.reduceEq, Int.reduceLE, Int.reduceLT, Int.reduceNeg, Nat.reduceLT, not_true_eq_false, not_false_eq_true, reduceIte, Option.toList, List.cons_append, List.nil_append, List.set_cons_zero, List.set_cons_succ, List.not_mem_nil, List.mem_cons, if_false, if_true, ite_true, ite_false, and_self, and_true, true_and, Nat.reduceAdd, Nat.reduceLeDiff, Nat.reduceEqDiff, Nat.zero_add, Nat.le_refl, Nat.zero_le, or_false, false_or, Int.reduceToNat, or_true, true_or, eq_self, and_false, false_and, inR_d, nc_4, nc_5, nc_6, nc_7, nc_8, nc_16, nc_18, nc_20, nc_24, nc_32, nc_40, nc_64, nc_104, nc_120, nc_160, nc_256, nc_300, nc_330, nc_390, nc_1200, nc_1260, nc_3012, nc_9834, okSt_1i, okSt_1r, okSt_1n, List.length_cons, List.length_nil, xpk_succ cd_184_0, xpk_succ cd_184_1, xpk_succ cd_184_4, xpk_succ cd_184_5, xpk_succ cd_184_6, xpk_succ cd_184_9, xpk_succ cd_184_10, z, (WE_e w)]
set_option maxHeartbeats 2000000 in
theorem E_hsM {h : AH} {am : Nat → Int} {s : SCM} {d : Nat} (hJ : k_H JB h) {f : Nat → Int} (ha : AMf am f) (hf : HKr f) {near : Int} (h1 : am 1 = near) (Q : Option AV → AH → Prop) : XC (d + 2) 252 [vR 76] (Mc h am s) Q = Q (some (vI (hsF f near))) (Mc h am s) := by
  refine XC_eq (Nat.le_of_ble_eq_true rfl) ?_ Q
  show XP (d + 1) 252 0 [some (vR 76)] [] (Mc h am s) _
  have ea := fun Q => E_awG (d := d) (nm := s.1) (af := s.2.1) (ae := s.2.2.1) (vf := s.2.2.2.1) (tf := s.2.2.2.2) (PKM_J hJ) ha hf Q
  have ea : ∀ Q : Option AV → AH → Prop, XC (d + 1) 243 [vR 76] (Mc h am s) Q = Q (some (vI (f 1 - f 3))) (Mc h am s) := ea
  have v1 : hV (Mc h am s) 77 8 = vI (f 1) := (Mc_v (by decide)).trans (congrArg vI (ha.1 1 (by decide) (by decide)))
  have v2 : hV (Mc h am s) 77 9 = vI (f 2) := (Mc_v (by decide)).trans (congrArg vI (ha.1 2 (by decide) (by decide)))
  have v4 : hV (Mc h am s) 77 11 = vI (f 4) := (Mc_v (by decide)).trans (congrArg vI (ha.1 4 (by decide) (by decide)))
  have v8 : hV (Mc h am s) 77 15 = vI (f 8) := (Mc_v (by decide)).trans (congrArg vI (ha.1 8 (by decide) (by decide)))
  have vn : hV (Mc h am s) 77 1 = vI near := (Mc_v (by decide)).trans (congrArg vI h1)
  obtain ⟨a1, a2, a3, a4, a5, a6, a7, a8, a9⟩ := hf
  have w1 : WE (f 1 - f 8) (f 1 - f 8) := by unfold WE w32; omega
  have e1 := fun Q => E_sz (d := d) (g := Mc h am s) (x := f 1 - f 8) (by omega) Q
  have e2 := fun Q => E_sz (d := d) (g := Mc h am s) (x := f 1 - f 3) (by omega) Q
  have e3 := fun Q => E_sz (d := d) (g := Mc h am s) (x := f 4) (by omega) Q
  by_cases c1 : f 2 = 0
  · by_cases c2 : near < absF (f 1 - f 8)
    · rw [hsF_0 (fun y => by omega)]
      refine xpk_sound (stops := []) (n := 60) ?_
      simp only [sk_0, sk_1, sk_2, sk_3, sk_4, sk_5, sk_6, sk_7, sk_8, sk_iadd, sk_isub, sk_imul, sk_iand, sk_ior, sk_ixor, sk_ishl, sk_ishr, sk_iushr, sk_idiv, sk_irem, sk_ineg, sk_ladd, sk_lsub, sk_lmul, sk_land, sk_lor, sk_ldiv, sk_lrem, sk_lneg, sk_lshl, sk_lshr, sk_i2l, sk_l2i, sk_lcmp, sk_dupI, sk_dupR, sk_dup2L, sk_dup2I, sk_popI, sk_ifeq, sk_ifne, sk_iflt, sk_ifge, sk_ifgt, sk_ifle, sk_iceq, sk_icne, sk_iclt, sk_icge, sk_icgt, sk_icle, sk_goto, sk_getf, sk_putf, sk_gets, sk_iald, sk_lald, sk_bald, sk_aald, sk_iast, sk_last, sk_bast, sk_aast, sk_alen, sk_newa, sk_newt, sk_new, sk_cs1, sk_cs2, sk_cs3, sk_cs4, sk_cs5, sk_cs6, sk_cv1, sk_cv2, sk_cv3, sk_cv4, sk_cv5, sk_cv6, sk_ci1, sk_ci2, sk_ci3, sk_ret0, sk_retI, sk_retL, sk_retR, sk_sw, sk_oin, sk_max, sk_min, sk_abs, lI_0, lI_s, lL_0, lL_s, lR_0, lR_s, vIo_e, vLo_e, vOo_e, stW_I, stW_L, stW_R, stW_0, stW_z, okSt_0, okSt_s, hV_eq, hK_eq, okF_0, okF_1, okF_3, is01_0, is01_1, is01_i, Int.toNat_natCast, Int.reduceEq, Int.reduceLE, Int.reduceLT, Int.reduceNeg, Nat.reduceLT, not_true_eq_false, not_false_eq_true, reduceIte, Option.toList, List.cons_append, List.nil_append, List.set_cons_zero, List.set_cons_succ, List.not_mem_nil, List.mem_cons, if_false, if_true, ite_true, ite_false, and_self, and_true, true_and, Nat.reduceAdd, Nat.reduceLeDiff, Nat.reduceEqDiff, Nat.zero_add, Nat.le_refl, Nat.zero_le, or_false, false_or, Int.reduceToNat, or_true, true_or, eq_self, and_false, false_and, inR_d, nc_4, nc_5, nc_6, nc_7, nc_8, nc_16, nc_18, nc_20, nc_24, nc_32, nc_40, nc_64, nc_104, nc_120, nc_160, nc_256, nc_300, nc_330, nc_390, nc_1200, nc_1260, nc_3012, nc_9834, okSt_1i, okSt_1r, okSt_1n, List.length_cons, List.length_nil, xpk_succ cd_252_0, xpk_succ cd_252_1, xpk_succ cd_252_4, xpk_succ cd_252_6, xpk_succ cd_252_7, xpk_succ cd_252_10, xpk_succ cd_252_11, xpk_succ cd_252_14, xpk_succ cd_252_16, xpk_succ cd_252_17, xpk_succ cd_252_18, xpk_succ cd_252_21, xpk_succ cd_252_23, xpk_succ cd_252_24, xpk_succ cd_252_25, xpk_succ cd_252_28, xpk_succ cd_252_29, xpk_succ cd_252_32, xpk_succ cd_252_33, xpk_succ cd_252_34, xpk_succ cd_252_37, xpk_succ cd_252_38, xpk_succ cd_252_41, xpk_succ cd_252_44, xpk_succ cd_252_45, xpk_succ cd_252_48, xpk_succ cd_252_49, xpk_succ cd_252_50, xpk_succ cd_252_53, xpk_succ cd_252_54, xpk_succ cd_252_57, xpk_succ cd_252_59, xpk_succ cd_252_60, xpk_succ cd_252_63, xpk_succ cd_252_64, xpk_succ cd_252_67, xpk_succ cd_252_68, xpk_succ cd_252_71, xpk_succ cd_252_72, Mc_k, (K_76 hJ), (K_77 hJ), (Mc_0 hJ), v1, v2, v8, vn, (eq_true c1), (WE_e w1), e1, (eq_true c2)]
    · by_cases c3 : near < absF (f 1 - f 3)
      · rw [hsF_0 (fun y => by omega)]
        refine xpk_sound (stops := []) (n := 60) ?_
        simp only [sk_0, sk_1, sk_2, sk_3, sk_4, sk_5, sk_6, sk_7, sk_8, sk_iadd, sk_isub, sk_imul, sk_iand, sk_ior, sk_ixor, sk_ishl, sk_ishr, sk_iushr, sk_idiv, sk_irem, sk_ineg, sk_ladd, sk_lsub, sk_lmul, sk_land, sk_lor, sk_ldiv, sk_lrem, sk_lneg, sk_lshl, sk_lshr, sk_i2l, sk_l2i, sk_lcmp, sk_dupI, sk_dupR, sk_dup2L, sk_dup2I, sk_popI, sk_ifeq, sk_ifne, sk_iflt, sk_ifge, sk_ifgt, sk_ifle, sk_iceq, sk_icne, sk_iclt, sk_icge, sk_icgt, sk_icle, sk_goto, sk_getf, sk_putf, sk_gets, sk_iald, sk_lald, sk_bald, sk_aald, sk_iast, sk_last, sk_bast, sk_aast, sk_alen, sk_newa, sk_newt, sk_new, sk_cs1, sk_cs2, sk_cs3, sk_cs4, sk_cs5, sk_cs6, sk_cv1, sk_cv2, sk_cv3, sk_cv4, sk_cv5, sk_cv6, sk_ci1, sk_ci2, sk_ci3, sk_ret0, sk_retI, sk_retL, sk_retR, sk_sw, sk_oin, sk_max, sk_min, sk_abs, lI_0, lI_s, lL_0, lL_s, lR_0, lR_s, vIo_e, vLo_e, vOo_e, stW_I, stW_L, stW_R, stW_0, stW_z, okSt_0, okSt_s, hV_eq, hK_eq, okF_0, okF_1, okF_3, is01_0, is01_1, is01_i, Int.toNat_natCast, Int.reduceEq, Int.reduceLE, Int.reduceLT, Int.reduceNeg, Nat.reduceLT, not_true_eq_false, not_false_eq_true, reduceIte, Option.toList, List.cons_append, List.nil_append, List.set_cons_zero, List.set_cons_succ, List.not_mem_nil, List.mem_cons, if_false, if_true, ite_true, ite_false, and_self, and_true, true_and, Nat.reduceAdd, Nat.reduceLeDiff, Nat.reduceEqDiff, Nat.zero_add, Nat.le_refl, Nat.zero_le, or_false, false_or, Int.reduceToNat, or_true, true_or, eq_self, and_false, false_and, inR_d, nc_4, nc_5, nc_6, nc_7, nc_8, nc_16, nc_18, nc_20, nc_24, nc_32, nc_40, nc_64, nc_104, nc_120, nc_160, nc_256, nc_300, nc_330, nc_390, nc_1200, nc_1260, nc_3012, nc_9834, okSt_1i, okSt_1r, okSt_1n, List.length_cons, List.length_nil, xpk_succ cd_252_0, xpk_succ cd_252_1, xpk_succ cd_252_4, xpk_succ cd_252_6, xpk_succ cd_252_7, xpk_succ cd_252_10, xpk_succ cd_252_11, xpk_succ cd_252_14, xpk_succ cd_252_16, xpk_succ cd_252_17, xpk_succ cd_252_18, xpk_succ cd_252_21, xpk_succ cd_252_23, xpk_succ cd_252_24, xpk_succ cd_252_25, xpk_succ cd_252_28, xpk_succ cd_252_29, xpk_succ cd_252_32, xpk_succ cd_252_33, xpk_succ cd_252_34, xpk_succ cd_252_37, xpk_succ cd_252_38, xpk_succ cd_252_41, xpk_succ cd_252_44, xpk_succ cd_252_45, xpk_succ cd_252_48, xpk_succ cd_252_49, xpk_succ cd_252_50, xpk_succ cd_252_53, xpk_succ cd_252_54, xpk_succ cd_252_57, xpk_succ cd_252_59, xpk_succ cd_252_60, xpk_succ cd_252_63, xpk_succ cd_252_64, xpk_succ cd_252_67, xpk_succ cd_252_68, xpk_succ cd_252_71, xpk_succ cd_252_72, Mc_k, (K_76 hJ), (K_77 hJ), (Mc_0 hJ), v1, v2, v8, vn, (eq_true c1), (WE_e w1), e1, c2, ea, e2, (eq_true c3)]
      · by_cases c4 : 1 < absF (f 4)
        · rw [hsF_0 (fun y => by omega)]
          refine xpk_sound (stops := []) (n := 60) ?_
          simp only [sk_0, sk_1, sk_2, sk_3, sk_4, sk_5, sk_6, sk_7, sk_8, sk_iadd, sk_isub, sk_imul, sk_iand, sk_ior, sk_ixor, sk_ishl, sk_ishr, sk_iushr, sk_idiv, sk_irem, sk_ineg, sk_ladd, sk_lsub, sk_lmul, sk_land, sk_lor, sk_ldiv, sk_lrem, sk_lneg, sk_lshl, sk_lshr, sk_i2l, sk_l2i, sk_lcmp, sk_dupI, sk_dupR, sk_dup2L, sk_dup2I, sk_popI, sk_ifeq, sk_ifne, sk_iflt, sk_ifge, sk_ifgt, sk_ifle, sk_iceq, sk_icne, sk_iclt, sk_icge, sk_icgt, sk_icle, sk_goto, sk_getf, sk_putf, sk_gets, sk_iald, sk_lald, sk_bald, sk_aald, sk_iast, sk_last, sk_bast, sk_aast, sk_alen, sk_newa, sk_newt, sk_new, sk_cs1, sk_cs2, sk_cs3, sk_cs4, sk_cs5, sk_cs6, sk_cv1, sk_cv2, sk_cv3, sk_cv4, sk_cv5, sk_cv6, sk_ci1, sk_ci2, sk_ci3, sk_ret0, sk_retI, sk_retL, sk_retR, sk_sw, sk_oin, sk_max, sk_min, sk_abs, lI_0, lI_s, lL_0, lL_s, lR_0, lR_s, vIo_e, vLo_e, vOo_e, stW_I, stW_L, stW_R, stW_0, stW_z, okSt_0, okSt_s, hV_eq, hK_eq, okF_0, okF_1, okF_3, is01_0, is01_1, is01_i, Int.toNat_natCast, Int.reduceEq, Int.reduceLE, Int.reduceLT, Int.reduceNeg, Nat.reduceLT, not_true_eq_false, not_false_eq_true, reduceIte, Option.toList, List.cons_append, List.nil_append, List.set_cons_zero, List.set_cons_succ, List.not_mem_nil, List.mem_cons, if_false, if_true, ite_true, ite_false, and_self, and_true, true_and, Nat.reduceAdd, Nat.reduceLeDiff, Nat.reduceEqDiff, Nat.zero_add, Nat.le_refl, Nat.zero_le, or_false, false_or, Int.reduceToNat, or_true, true_or, eq_self, and_false, false_and, inR_d, nc_4, nc_5, nc_6, nc_7, nc_8, nc_16, nc_18, nc_20, nc_24, nc_32, nc_40, nc_64, nc_104, nc_120, nc_160, nc_256, nc_300, nc_330, nc_390, nc_1200, nc_1260, nc_3012, nc_9834, okSt_1i, okSt_1r, okSt_1n, List.length_cons, List.length_nil, xpk_succ cd_252_0, xpk_succ cd_252_1, xpk_succ cd_252_4, xpk_succ cd_252_6, xpk_succ cd_252_7, xpk_succ cd_252_10, xpk_succ cd_252_11, xpk_succ cd_252_14, xpk_succ cd_252_16, xpk_succ cd_252_17, xpk_succ cd_252_18, xpk_succ cd_252_21, xpk_succ cd_252_23, xpk_succ cd_252_24, xpk_succ cd_252_25, xpk_succ cd_252_28, xpk_succ cd_252_29, xpk_succ cd_252_32, xpk_succ cd_252_33, xpk_succ cd_252_34, xpk_succ cd_252_37, xpk_succ cd_252_38, xpk_succ cd_252_41, xpk_succ cd_252_44, xpk_succ cd_252_45, xpk_succ cd_252_48, xpk_succ cd_252_49, xpk_succ cd_252_50, xpk_succ cd_252_53, xpk_succ cd_252_54, xpk_succ cd_252_57, xpk_succ cd_252_59, xpk_succ cd_252_60, xpk_succ cd_252_63, xpk_succ cd_252_64, xpk_succ cd_252_67, xpk_succ cd_252_68, xpk_succ cd_252_71, xpk_succ cd_252_72, Mc_k, (K_76 hJ), (K_77 hJ), (Mc_0 hJ), v1, v2, v4, v8, vn, (eq_true c1), (WE_e w1), e1, c2, ea, e2, c3, e3, (eq_true c4)]
        · rw [hsF_1 ⟨c1, by omega, by omega, by omega⟩]
          refine xpk_sound (stops := []) (n := 60) ?_
          simp only [sk_0, sk_1, sk_2, sk_3, sk_4, sk_5, sk_6, sk_7, sk_8, sk_iadd, sk_isub, sk_imul, sk_iand, sk_ior, sk_ixor, sk_ishl, sk_ishr, sk_iushr, sk_idiv, sk_irem, sk_ineg, sk_ladd, sk_lsub, sk_lmul, sk_land, sk_lor, sk_ldiv, sk_lrem, sk_lneg, sk_lshl, sk_lshr, sk_i2l, sk_l2i, sk_lcmp, sk_dupI, sk_dupR, sk_dup2L, sk_dup2I, sk_popI, sk_ifeq, sk_ifne, sk_iflt, sk_ifge, sk_ifgt, sk_ifle, sk_iceq, sk_icne, sk_iclt, sk_icge, sk_icgt, sk_icle, sk_goto, sk_getf, sk_putf, sk_gets, sk_iald, sk_lald, sk_bald, sk_aald, sk_iast, sk_last, sk_bast, sk_aast, sk_alen, sk_newa, sk_newt, sk_new, sk_cs1, sk_cs2, sk_cs3, sk_cs4, sk_cs5, sk_cs6, sk_cv1, sk_cv2, sk_cv3, sk_cv4, sk_cv5, sk_cv6, sk_ci1, sk_ci2, sk_ci3, sk_ret0, sk_retI, sk_retL, sk_retR, sk_sw, sk_oin, sk_max, sk_min, sk_abs, lI_0, lI_s, lL_0, lL_s, lR_0, lR_s, vIo_e, vLo_e, vOo_e, stW_I, stW_L, stW_R, stW_0, stW_z, okSt_0, okSt_s, hV_eq, hK_eq, okF_0, okF_1, okF_3, is01_0, is01_1, is01_i, Int.toNat_natCast, Int.reduceEq, Int.reduceLE, Int.reduceLT, Int.reduceNeg, Nat.reduceLT, not_true_eq_false, not_false_eq_true, reduceIte, Option.toList, List.cons_append, List.nil_append, List.set_cons_zero, List.set_cons_succ, List.not_mem_nil, List.mem_cons, if_false, if_true, ite_true, ite_false, and_self, and_true, true_and, Nat.reduceAdd, Nat.reduceLeDiff, Nat.reduceEqDiff, Nat.zero_add, Nat.le_refl, Nat.zero_le, or_false, false_or, Int.reduceToNat, or_true, true_or, eq_self, and_false, false_and, inR_d, nc_4, nc_5, nc_6, nc_7, nc_8, nc_16, nc_18, nc_20, nc_24, nc_32, nc_40, nc_64, nc_104, nc_120, nc_160, nc_256, nc_300, nc_330, nc_390, nc_1200, nc_1260, nc_3012, nc_9834, okSt_1i, okSt_1r, okSt_1n, List.length_cons, List.length_nil, xpk_succ cd_252_0, xpk_succ cd_252_1, xpk_succ cd_252_4, xpk_succ cd_252_6, xpk_succ cd_252_7, xpk_succ cd_252_10, xpk_succ cd_252_11, xpk_succ cd_252_14, xpk_succ cd_252_16, xpk_succ cd_252_17, xpk_succ cd_252_18, xpk_succ cd_252_21, xpk_succ cd_252_23, xpk_succ cd_252_24, xpk_succ cd_252_25, xpk_succ cd_252_28, xpk_succ cd_252_29, xpk_succ cd_252_32, xpk_succ cd_252_33, xpk_succ cd_252_34, xpk_succ cd_252_37, xpk_succ cd_252_38, xpk_succ cd_252_41, xpk_succ cd_252_44, xpk_succ cd_252_45, xpk_succ cd_252_48, xpk_succ cd_252_49, xpk_succ cd_252_50, xpk_succ cd_252_53, xpk_succ cd_252_54, xpk_succ cd_252_57, xpk_succ cd_252_59, xpk_succ cd_252_60, xpk_succ cd_252_63, xpk_succ cd_252_64, xpk_succ cd_252_67, xpk_succ cd_252_68, xpk_succ cd_252_71, xpk_succ cd_252_72, Mc_k, (K_76 hJ), (K_77 hJ), (Mc_0 hJ), v1, v2, v4, v8, vn, (eq_true c1), (WE_e w1), e1, c2, ea, e2, c3, e3, c4]
  · rw [hsF_0 (fun y => c1 y.1)]
    refine xpk_sound (stops := []) (n := 60) ?_
    simp only [sk_0, sk_1, sk_2, sk_3, sk_4, sk_5, sk_6, sk_7, sk_8, sk_iadd, sk_isub, sk_imul, sk_iand, sk_ior, sk_ixor, sk_ishl, sk_ishr, sk_iushr, sk_idiv, sk_irem, sk_ineg, sk_ladd, sk_lsub, sk_lmul, sk_land, sk_lor, sk_ldiv, sk_lrem, sk_lneg, sk_lshl, sk_lshr, sk_i2l, sk_l2i, sk_lcmp, sk_dupI, sk_dupR, sk_dup2L, sk_dup2I, sk_popI, sk_ifeq, sk_ifne, sk_iflt, sk_ifge, sk_ifgt, sk_ifle, sk_iceq, sk_icne, sk_iclt, sk_icge, sk_icgt, sk_icle, sk_goto, sk_getf, sk_putf, sk_gets, sk_iald, sk_lald, sk_bald, sk_aald, sk_iast, sk_last, sk_bast, sk_aast, sk_alen, sk_newa, sk_newt, sk_new, sk_cs1, sk_cs2, sk_cs3, sk_cs4, sk_cs5, sk_cs6, sk_cv1, sk_cv2, sk_cv3, sk_cv4, sk_cv5, sk_cv6, sk_ci1, sk_ci2, sk_ci3, sk_ret0, sk_retI, sk_retL, sk_retR, sk_sw, sk_oin, sk_max, sk_min, sk_abs, lI_0, lI_s, lL_0, lL_s, lR_0, lR_s, vIo_e, vLo_e, vOo_e, stW_I, stW_L, stW_R, stW_0, stW_z, okSt_0, okSt_s, hV_eq, hK_eq, okF_0, okF_1, okF_3, is01_0, is01_1, is01_i, Int.toNat_natCast, Int.reduceEq, Int.reduceLE, Int.reduceLT, Int.reduceNeg, Nat.reduceLT, not_true_eq_false, not_false_eq_true, reduceIte, Option.toList, List.cons_append, List.nil_append, List.set_cons_zero, List.set_cons_succ, List.not_mem_nil, List.mem_cons, if_false, if_true, ite_true, ite_false, and_self, and_true, true_and, Nat.reduceAdd, Nat.reduceLeDiff, Nat.reduceEqDiff, Nat.zero_add, Nat.le_refl, Nat.zero_le, or_false, false_or, Int.reduceToNat, or_true, true_or, eq_self, and_false, false_and, inR_d, nc_4, nc_5, nc_6, nc_7, nc_8, nc_16, nc_18, nc_20, nc_24, nc_32, nc_40, nc_64, nc_104, nc_120, nc_160, nc_256, nc_300, nc_330, nc_390, nc_1200, nc_1260, nc_3012, nc_9834, okSt_1i, okSt_1r, okSt_1n, List.length_cons, List.length_nil, xpk_succ cd_252_0, xpk_succ cd_252_1, xpk_succ cd_252_4, xpk_succ cd_252_6, xpk_succ cd_252_7, xpk_succ cd_252_10, xpk_succ cd_252_11, xpk_succ cd_252_14, xpk_succ cd_252_16, xpk_succ cd_252_17, xpk_succ cd_252_18, xpk_succ cd_252_21, xpk_succ cd_252_23, xpk_succ cd_252_24, xpk_succ cd_252_25, xpk_succ cd_252_28, xpk_succ cd_252_29, xpk_succ cd_252_32, xpk_succ cd_252_33, xpk_succ cd_252_34, xpk_succ cd_252_37, xpk_succ cd_252_38, xpk_succ cd_252_41, xpk_succ cd_252_44, xpk_succ cd_252_45, xpk_succ cd_252_48, xpk_succ cd_252_49, xpk_succ cd_252_50, xpk_succ cd_252_53, xpk_succ cd_252_54, xpk_succ cd_252_57, xpk_succ cd_252_59, xpk_succ cd_252_60, xpk_succ cd_252_63, xpk_succ cd_252_64, xpk_succ cd_252_67, xpk_succ cd_252_68, xpk_succ cd_252_71, xpk_succ cd_252_72, Mc_k, (K_76 hJ), (K_77 hJ), (Mc_0 hJ), v2, c1]
theorem E_iOM {h : AH} {am : Nat → Int} {s : SCM} {d n : Nat} (hJ : k_H JB h) (h0 : am 0 = (n : Int)) (hn : n ≤ 8) {v : Int} (Q : Option AV → AH → Prop) : XC (d + 2) 187 [vR 76, vI v] (Mc h am s) Q = Q (some (vI (b01 (decide (0 ≤ v ∧ v ≤ (n : Int) - 1))))) (Mc h am s) := by
  refine XC_eq (Nat.le_of_ble_eq_true rfl) ?_ Q
  show XP (d + 1) 187 0 [some (vR 76), some (vI v)] [] (Mc h am s) _
  have v0 : hV (Mc h am s) 77 0 = vI (n : Int) := (Mc_v (by decide)).trans (congrArg vI h0)
  have w : WE ((n : Int) - 1) ((n : Int) - 1) := by unfold WE w32; omega
  have e := fun Q => X_im (d := d) (x := v) (u := 0) (v := (n : Int) - 1) (g := Mc h am s) Q
  have bi := b01_i (decide (0 ≤ v ∧ v ≤ (n : Int) - 1))
  refine xpk_sound (stops := []) (n := 20) ?_
  simp only [sk_0, sk_1, sk_2, sk_3, sk_4, sk_5, sk_6, sk_7, sk_8, sk_iadd, sk_isub, sk_imul, sk_iand, sk_ior, sk_ixor, sk_ishl, sk_ishr, sk_iushr, sk_idiv, sk_irem, sk_ineg, sk_ladd, sk_lsub, sk_lmul, sk_land, sk_lor, sk_ldiv, sk_lrem, sk_lneg, sk_lshl, sk_lshr, sk_i2l, sk_l2i, sk_lcmp, sk_dupI, sk_dupR, sk_dup2L, sk_dup2I, sk_popI, sk_ifeq, sk_ifne, sk_iflt, sk_ifge, sk_ifgt, sk_ifle, sk_iceq, sk_icne, sk_iclt, sk_icge, sk_icgt, sk_icle, sk_goto, sk_getf, sk_putf, sk_gets, sk_iald, sk_lald, sk_bald, sk_aald, sk_iast, sk_last, sk_bast, sk_aast, sk_alen, sk_newa, sk_newt, sk_new, sk_cs1, sk_cs2, sk_cs3, sk_cs4, sk_cs5, sk_cs6, sk_cv1, sk_cv2, sk_cv3, sk_cv4, sk_cv5, sk_cv6, sk_ci1, sk_ci2, sk_ci3, sk_ret0, sk_retI, sk_retL, sk_retR, sk_sw, sk_oin, sk_max, sk_min, sk_abs, lI_0, lI_s, lL_0, lL_s, lR_0, lR_s, vIo_e, vLo_e, vOo_e, stW_I, stW_L, stW_R, stW_0, stW_z, okSt_0, okSt_s, hV_eq, hK_eq, okF_0, okF_1, okF_3, is01_0, is01_1, is01_i, Int.toNat_natCast, Int.reduceEq, Int.reduceLE, Int.reduceLT, Int.reduceNeg, Nat.reduceLT, not_true_eq_false, not_false_eq_true, reduceIte, Option.toList, List.cons_append, List.nil_append, List.set_cons_zero, List.set_cons_succ, List.not_mem_nil, List.mem_cons, if_false, if_true, ite_true, ite_false, and_self, and_true, true_and, Nat.reduceAdd, Nat.reduceLeDiff, Nat.reduceEqDiff, Nat.zero_add, Nat.le_refl, Nat.zero_le, or_false, false_or, Int.reduceToNat, or_true, true_or, eq_self, and_false, false_and, inR_d, nc_4, nc_5, nc_6, nc_7, nc_8, nc_16, nc_18, nc_20, nc_24, nc_32, nc_40, nc_64, nc_104, nc_120, nc_160, nc_256, nc_300, nc_330, nc_390, nc_1200, nc_1260, nc_3012, nc_9834, okSt_1i, okSt_1r, okSt_1n, List.length_cons, List.length_nil, xpk_succ cd_187_0, xpk_succ cd_187_1, xpk_succ cd_187_2, xpk_succ cd_187_3, xpk_succ cd_187_6, xpk_succ cd_187_7, xpk_succ cd_187_8, xpk_succ cd_187_9, xpk_succ cd_187_10, xpk_succ cd_187_13, Mc_k, (K_76 hJ), (K_77 hJ), (Mc_0 hJ), v0, (WE_e w), e, bi]
