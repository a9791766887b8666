set_option maxRecDepth 20000 in
theorem ac_321 : allC[321]? = some cl321 := rfl
set_option maxRecDepth 20000 in
theorem cd_321_0 : cd 321 0 = some (37, 3, 9, 0, 0, []) := cd_row ac_321 rfl
set_option maxRecDepth 20000 in
theorem cd_321_3 : cd 321 3 = some (17, 4, 0, 0, 0, []) := cd_row ac_321 rfl
set_option maxRecDepth 20000 in
theorem cd_321_4 : cd 321 4 = some (47, 7, 117, 1, 0, []) := cd_row ac_321 rfl
set_option maxRecDepth 20000 in
theorem cd_321_7 : cd 321 7 = some (7, 8, 1, 0, 0, []) := cd_row ac_321 rfl
set_option maxRecDepth 20000 in
theorem cd_321_8 : cd 321 8 = some (37, 11, 10, 0, 0, []) := cd_row ac_321 rfl
set_option maxRecDepth 20000 in
theorem cd_321_11 : cd 321 11 = some (17, 12, 0, 0, 0, []) := cd_row ac_321 rfl
set_option maxRecDepth 20000 in
theorem cd_321_12 : cd 321 12 = some (47, 15, 180, 1, 0, []) := cd_row ac_321 rfl
set_option maxRecDepth 20000 in
theorem cd_321_15 : cd 321 15 = some (7, 16, 2, 0, 0, []) := cd_row ac_321 rfl
set_option maxRecDepth 20000 in
theorem cd_321_16 : cd 321 16 = some (0, 17, 0, 0, 0, []) := cd_row ac_321 rfl
set_option maxRecDepth 20000 in
theorem cd_321_17 : cd 321 17 = some (5, 18, 3, 0, 0, []) := cd_row ac_321 rfl
set_option maxRecDepth 20000 in
theorem cd_321_18 : cd 321 18 = some (2, 19, 3, 0, 0, []) := cd_row ac_321 rfl
set_option maxRecDepth 20000 in
theorem cd_321_19 : cd 321 19 = some (4, 20, 0, 0, 0, []) := cd_row ac_321 rfl
set_option maxRecDepth 20000 in
theorem cd_321_20 : cd 321 20 = some (34, 21, 0, 0, 0, []) := cd_row ac_321 rfl
set_option maxRecDepth 20000 in
theorem cd_321_21 : cd 321 21 = some (0, 23, 0, 0, 6, []) := cd_row ac_321 rfl
set_option maxRecDepth 20000 in
theorem cd_321_23 : cd 321 23 = some (9, 24, 0, 1, 0, []) := cd_row ac_321 rfl
set_option maxRecDepth 20000 in
theorem cd_321_24 : cd 321 24 = some (21, 27, 1545, 4, 0, []) := cd_row ac_321 rfl
set_option maxRecDepth 20000 in
theorem cd_321_27 : cd 321 27 = some (4, 28, 0, 0, 0, []) := cd_row ac_321 rfl
set_option maxRecDepth 20000 in
theorem cd_321_28 : cd 321 28 = some (2, 29, 3, 0, 0, []) := cd_row ac_321 rfl
set_option maxRecDepth 20000 in
theorem cd_321_29 : cd 321 29 = some (26, 30, 0, 0, 0, []) := cd_row ac_321 rfl
set_option maxRecDepth 20000 in
theorem cd_321_30 : cd 321 30 = some (0, 32, 0, 0, 63, []) := cd_row ac_321 rfl
set_option maxRecDepth 20000 in
theorem cd_321_32 : cd 321 32 = some (9, 33, 0, 3, 0, []) := cd_row ac_321 rfl
set_option maxRecDepth 20000 in
theorem cd_321_33 : cd 321 33 = some (43, 228, 1539, 0, 0, [(0, 228), (1, 291), (2, 314), (3, 377), (4, 400), (5, 413), (6, 436), (7, 459), (8, 482), (9, 505), (10, 528), (11, 551), (12, 574), (13, 587), (14, 610), (15, 643), (16, 656), (17, 679), (18, 712), (19, 745), (20, 804), (21, 827), (22, 850), (23, 873), (24, 932), (25, 965), (26, 988), (27, 1001), (28, 1034), (29, 1077), (30, 1090), (31, 1103), (32, 1156), (33, 1205), (34, 1228), (35, 1241), (36, 1274), (37, 1307), (38, 1356), (39, 1395), (40, 1428), (41, 1451), (42, 1490), (43, 1503), (44, 1516)]) := cd_row ac_321 rfl
set_option maxRecDepth 20000 in
theorem cd_321_228 : cd 321 228 = some (4, 229, 1, 0, 0, []) := cd_row ac_321 rfl
set_option maxRecDepth 20000 in
theorem cd_321_229 : cd 321 229 = some (4, 230, 0, 0, 0, []) := cd_row ac_321 rfl
set_option maxRecDepth 20000 in
theorem cd_321_230 : cd 321 230 = some (2, 231, 3, 0, 0, []) := cd_row ac_321 rfl
set_option maxRecDepth 20000 in
theorem cd_321_231 : cd 321 231 = some (0, 232, 0, 0, 1, []) := cd_row ac_321 rfl
set_option maxRecDepth 20000 in
theorem cd_321_232 : cd 321 232 = some (9, 233, 0, 0, 0, []) := cd_row ac_321 rfl
set_option maxRecDepth 20000 in
theorem cd_321_233 : cd 321 233 = some (26, 234, 0, 0, 0, []) := cd_row ac_321 rfl
set_option maxRecDepth 20000 in
theorem cd_321_234 : cd 321 234 = some (4, 235, 0, 0, 0, []) := cd_row ac_321 rfl
set_option maxRecDepth 20000 in
theorem cd_321_235 : cd 321 235 = some (2, 236, 3, 0, 0, []) := cd_row ac_321 rfl
set_option maxRecDepth 20000 in
theorem cd_321_236 : cd 321 236 = some (0, 237, 0, 0, 2, []) := cd_row ac_321 rfl
set_option maxRecDepth 20000 in
theorem cd_321_237 : cd 321 237 = some (9, 238, 0, 0, 0, []) := cd_row ac_321 rfl
set_option maxRecDepth 20000 in
theorem cd_321_238 : cd 321 238 = some (26, 239, 0, 0, 0, []) := cd_row ac_321 rfl
set_option maxRecDepth 20000 in
theorem cd_321_239 : cd 321 239 = some (4, 240, 0, 0, 0, []) := cd_row ac_321 rfl
set_option maxRecDepth 20000 in
theorem cd_321_240 : cd 321 240 = some (2, 241, 3, 0, 0, []) := cd_row ac_321 rfl
set_option maxRecDepth 20000 in
theorem cd_321_241 : cd 321 241 = some (0, 242, 0, 0, 3, []) := cd_row ac_321 rfl
set_option maxRecDepth 20000 in
theorem cd_321_242 : cd 321 242 = some (9, 243, 0, 0, 0, []) := cd_row ac_321 rfl
set_option maxRecDepth 20000 in
theorem cd_321_243 : cd 321 243 = some (26, 244, 0, 0, 0, []) := cd_row ac_321 rfl
set_option maxRecDepth 20000 in
theorem cd_321_244 : cd 321 244 = some (4, 245, 0, 0, 0, []) := cd_row ac_321 rfl
set_option maxRecDepth 20000 in
theorem cd_321_245 : cd 321 245 = some (2, 246, 3, 0, 0, []) := cd_row ac_321 rfl
set_option maxRecDepth 20000 in
theorem cd_321_246 : cd 321 246 = some (0, 247, 0, 0, 4, []) := cd_row ac_321 rfl
set_option maxRecDepth 20000 in
theorem cd_321_247 : cd 321 247 = some (9, 248, 0, 0, 0, []) := cd_row ac_321 rfl
set_option maxRecDepth 20000 in
theorem cd_321_248 : cd 321 248 = some (26, 249, 0, 0, 0, []) := cd_row ac_321 rfl
set_option maxRecDepth 20000 in
theorem cd_321_249 : cd 321 249 = some (4, 250, 0, 0, 0, []) := cd_row ac_321 rfl
set_option maxRecDepth 20000 in
theorem cd_321_250 : cd 321 250 = some (2, 251, 3, 0, 0, []) := cd_row ac_321 rfl
set_option maxRecDepth 20000 in
theorem cd_321_251 : cd 321 251 = some (0, 252, 0, 0, 5, []) := cd_row ac_321 rfl
set_option maxRecDepth 20000 in
theorem cd_321_252 : cd 321 252 = some (9, 253, 0, 0, 0, []) := cd_row ac_321 rfl
set_option maxRecDepth 20000 in
theorem cd_321_253 : cd 321 253 = some (26, 254, 0, 0, 0, []) := cd_row ac_321 rfl
set_option maxRecDepth 20000 in
theorem cd_321_254 : cd 321 254 = some (46, 257, 118, 6, 9, []) := cd_row ac_321 rfl
set_option maxRecDepth 20000 in
theorem cd_321_257 : cd 321 257 = some (19, 258, 0, 0, 0, []) := cd_row ac_321 rfl
set_option maxRecDepth 20000 in
theorem cd_321_258 : cd 321 258 = some (4, 259, 2, 0, 0, []) := cd_row ac_321 rfl
set_option maxRecDepth 20000 in
theorem cd_321_259 : cd 321 259 = some (4, 260, 0, 0, 0, []) := cd_row ac_321 rfl
set_option maxRecDepth 20000 in
theorem cd_321_260 : cd 321 260 = some (2, 261, 3, 0, 0, []) := cd_row ac_321 rfl
set_option maxRecDepth 20000 in
theorem cd_321_261 : cd 321 261 = some (0, 262, 0, 0, 1, []) := cd_row ac_321 rfl
set_option maxRecDepth 20000 in
theorem cd_321_262 : cd 321 262 = some (9, 263, 0, 0, 0, []) := cd_row ac_321 rfl
set_option maxRecDepth 20000 in
theorem cd_321_263 : cd 321 263 = some (26, 264, 0, 0, 0, []) := cd_row ac_321 rfl
set_option maxRecDepth 20000 in
theorem cd_321_264 : cd 321 264 = some (4, 265, 0, 0, 0, []) := cd_row ac_321 rfl
set_option maxRecDepth 20000 in
theorem cd_321_265 : cd 321 265 = some (2, 266, 3, 0, 0, []) := cd_row ac_321 rfl
set_option maxRecDepth 20000 in
theorem cd_321_266 : cd 321 266 = some (0, 267, 0, 0, 2, []) := cd_row ac_321 rfl
set_option maxRecDepth 20000 in
theorem cd_321_267 : cd 321 267 = some (9, 268, 0, 0, 0, []) := cd_row ac_321 rfl
set_option maxRecDepth 20000 in
theorem cd_321_268 : cd 321 268 = some (26, 269, 0, 0, 0, []) := cd_row ac_321 rfl
set_option maxRecDepth 20000 in
theorem cd_321_269 : cd 321 269 = some (4, 270, 0, 0, 0, []) := cd_row ac_321 rfl
set_option maxRecDepth 20000 in
theorem cd_321_270 : cd 321 270 = some (2, 271, 3, 0, 0, []) := cd_row ac_321 rfl
set_option maxRecDepth 20000 in
theorem cd_321_271 : cd 321 271 = some (0, 272, 0, 0, 3, []) := cd_row ac_321 rfl
set_option maxRecDepth 20000 in
theorem cd_321_272 : cd 321 272 = some (9, 273, 0, 0, 0, []) := cd_row ac_321 rfl
set_option maxRecDepth 20000 in
theorem cd_321_273 : cd 321 273 = some (26, 274, 0, 0, 0, []) := cd_row ac_321 rfl
set_option maxRecDepth 20000 in
theorem cd_321_274 : cd 321 274 = some (4, 275, 0, 0, 0, []) := cd_row ac_321 rfl
set_option maxRecDepth 20000 in
theorem cd_321_275 : cd 321 275 = some (2, 276, 3, 0, 0, []) := cd_row ac_321 rfl
set_option maxRecDepth 20000 in
theorem cd_321_276 : cd 321 276 = some (0, 277, 0, 0, 4, []) := cd_row ac_321 rfl
set_option maxRecDepth 20000 in
theorem cd_321_277 : cd 321 277 = some (9, 278, 0, 0, 0, []) := cd_row ac_321 rfl
set_option maxRecDepth 20000 in
theorem cd_321_278 : cd 321 278 = some (26, 279, 0, 0, 0, []) := cd_row ac_321 rfl
set_option maxRecDepth 20000 in
theorem cd_321_279 : cd 321 279 = some (4, 280, 0, 0, 0, []) := cd_row ac_321 rfl
set_option maxRecDepth 20000 in
theorem cd_321_280 : cd 321 280 = some (2, 281, 3, 0, 0, []) := cd_row ac_321 rfl
set_option maxRecDepth 20000 in
theorem cd_321_281 : cd 321 281 = some (0, 282, 0, 0, 5, []) := cd_row ac_321 rfl
set_option maxRecDepth 20000 in
theorem cd_321_282 : cd 321 282 = some (9, 283, 0, 0, 0, []) := cd_row ac_321 rfl
set_option maxRecDepth 20000 in
theorem cd_321_283 : cd 321 283 = some (26, 284, 0, 0, 0, []) := cd_row ac_321 rfl
set_option maxRecDepth 20000 in
theorem cd_321_284 : cd 321 284 = some (46, 287, 189, 6, 10, []) := cd_row ac_321 rfl
set_option maxRecDepth 20000 in
theorem cd_321_287 : cd 321 287 = some (19, 288, 0, 0, 0, []) := cd_row ac_321 rfl
set_option maxRecDepth 20000 in
theorem cd_321_288 : cd 321 288 = some (22, 291, 1539, 0, 0, []) := cd_row ac_321 rfl
set_option maxRecDepth 20000 in
theorem cd_321_291 : cd 321 291 = some (4, 292, 1, 0, 0, []) := cd_row ac_321 rfl
set_option maxRecDepth 20000 in
theorem cd_321_292 : cd 321 292 = some (4, 293, 0, 0, 0, []) := cd_row ac_321 rfl
set_option maxRecDepth 20000 in
theorem cd_321_293 : cd 321 293 = some (2, 294, 3, 0, 0, []) := cd_row ac_321 rfl
set_option maxRecDepth 20000 in
theorem cd_321_294 : cd 321 294 = some (0, 295, 0, 0, 1, []) := cd_row ac_321 rfl
set_option maxRecDepth 20000 in
theorem cd_321_295 : cd 321 295 = some (9, 296, 0, 0, 0, []) := cd_row ac_321 rfl
set_option maxRecDepth 20000 in
theorem cd_321_296 : cd 321 296 = some (26, 297, 0, 0, 0, []) := cd_row ac_321 rfl
set_option maxRecDepth 20000 in
theorem cd_321_297 : cd 321 297 = some (46, 300, 119, 2, 9, []) := cd_row ac_321 rfl
set_option maxRecDepth 20000 in
theorem cd_321_300 : cd 321 300 = some (19, 301, 0, 0, 0, []) := cd_row ac_321 rfl
set_option maxRecDepth 20000 in
theorem cd_321_301 : cd 321 301 = some (4, 302, 2, 0, 0, []) := cd_row ac_321 rfl
set_option maxRecDepth 20000 in
theorem cd_321_302 : cd 321 302 = some (4, 303, 0, 0, 0, []) := cd_row ac_321 rfl
set_option maxRecDepth 20000 in
theorem cd_321_303 : cd 321 303 = some (2, 304, 3, 0, 0, []) := cd_row ac_321 rfl
set_option maxRecDepth 20000 in
theorem cd_321_304 : cd 321 304 = some (0, 305, 0, 0, 1, []) := cd_row ac_321 rfl
set_option maxRecDepth 20000 in
theorem cd_321_305 : cd 321 305 = some (9, 306, 0, 0, 0, []) := cd_row ac_321 rfl
set_option maxRecDepth 20000 in
theorem cd_321_306 : cd 321 306 = some (26, 307, 0, 0, 0, []) := cd_row ac_321 rfl
set_option maxRecDepth 20000 in
theorem cd_321_307 : cd 321 307 = some (46, 310, 190, 2, 10, []) := cd_row ac_321 rfl
set_option maxRecDepth 20000 in
theorem cd_321_310 : cd 321 310 = some (19, 311, 0, 0, 0, []) := cd_row ac_321 rfl
set_option maxRecDepth 20000 in
theorem cd_321_311 : cd 321 311 = some (22, 314, 1539, 0, 0, []) := cd_row ac_321 rfl
set_option maxRecDepth 20000 in
theorem cd_321_314 : cd 321 314 = some (4, 315, 1, 0, 0, []) := cd_row ac_321 rfl
set_option maxRecDepth 20000 in
theorem cd_321_315 : cd 321 315 = some (4, 316, 0, 0, 0, []) := cd_row ac_321 rfl
set_option maxRecDepth 20000 in
theorem cd_321_316 : cd 321 316 = some (2, 317, 3, 0, 0, []) := cd_row ac_321 rfl
set_option maxRecDepth 20000 in
theorem cd_321_317 : cd 321 317 = some (0, 318, 0, 0, 1, []) := cd_row ac_321 rfl
set_option maxRecDepth 20000 in
theorem cd_321_318 : cd 321 318 = some (9, 319, 0, 0, 0, []) := cd_row ac_321 rfl
set_option maxRecDepth 20000 in
theorem cd_321_319 : cd 321 319 = some (26, 320, 0, 0, 0, []) := cd_row ac_321 rfl
set_option maxRecDepth 20000 in
theorem cd_321_320 : cd 321 320 = some (4, 321, 0, 0, 0, []) := cd_row ac_321 rfl
set_option maxRecDepth 20000 in
theorem cd_321_321 : cd 321 321 = some (2, 322, 3, 0, 0, []) := cd_row ac_321 rfl
set_option maxRecDepth 20000 in
theorem cd_321_322 : cd 321 322 = some (0, 323, 0, 0, 2, []) := cd_row ac_321 rfl
set_option maxRecDepth 20000 in
theorem cd_321_323 : cd 321 323 = some (9, 324, 0, 0, 0, []) := cd_row ac_321 rfl
set_option maxRecDepth 20000 in
theorem cd_321_324 : cd 321 324 = some (26, 325, 0, 0, 0, []) := cd_row ac_321 rfl
set_option maxRecDepth 20000 in
theorem cd_321_325 : cd 321 325 = some (4, 326, 0, 0, 0, []) := cd_row ac_321 rfl
set_option maxRecDepth 20000 in
theorem cd_321_326 : cd 321 326 = some (2, 327, 3, 0, 0, []) := cd_row ac_321 rfl
set_option maxRecDepth 20000 in
theorem cd_321_327 : cd 321 327 = some (0, 328, 0, 0, 3, []) := cd_row ac_321 rfl
set_option maxRecDepth 20000 in
theorem cd_321_328 : cd 321 328 = some (9, 329, 0, 0, 0, []) := cd_row ac_321 rfl
set_option maxRecDepth 20000 in
theorem cd_321_329 : cd 321 329 = some (26, 330, 0, 0, 0, []) := cd_row ac_321 rfl
set_option maxRecDepth 20000 in
theorem cd_321_330 : cd 321 330 = some (4, 331, 0, 0, 0, []) := cd_row ac_321 rfl
set_option maxRecDepth 20000 in
theorem cd_321_331 : cd 321 331 = some (2, 332, 3, 0, 0, []) := cd_row ac_321 rfl
set_option maxRecDepth 20000 in
theorem cd_321_332 : cd 321 332 = some (0, 333, 0, 0, 4, []) := cd_row ac_321 rfl
set_option maxRecDepth 20000 in
theorem cd_321_333 : cd 321 333 = some (9, 334, 0, 0, 0, []) := cd_row ac_321 rfl
set_option maxRecDepth 20000 in
theorem cd_321_334 : cd 321 334 = some (26, 335, 0, 0, 0, []) := cd_row ac_321 rfl
set_option maxRecDepth 20000 in
theorem cd_321_335 : cd 321 335 = some (4, 336, 0, 0, 0, []) := cd_row ac_321 rfl
set_option maxRecDepth 20000 in
theorem cd_321_336 : cd 321 336 = some (2, 337, 3, 0, 0, []) := cd_row ac_321 rfl
set_option maxRecDepth 20000 in
theorem cd_321_337 : cd 321 337 = some (0, 338, 0, 0, 5, []) := cd_row ac_321 rfl
set_option maxRecDepth 20000 in
theorem cd_321_338 : cd 321 338 = some (9, 339, 0, 0, 0, []) := cd_row ac_321 rfl
set_option maxRecDepth 20000 in
theorem cd_321_339 : cd 321 339 = some (26, 340, 0, 0, 0, []) := cd_row ac_321 rfl
set_option maxRecDepth 20000 in
theorem cd_321_340 : cd 321 340 = some (46, 343, 120, 6, 9, []) := cd_row ac_321 rfl
set_option maxRecDepth 20000 in
theorem cd_321_343 : cd 321 343 = some (19, 344, 0, 0, 0, []) := cd_row ac_321 rfl
set_option maxRecDepth 20000 in
theorem cd_321_344 : cd 321 344 = some (4, 345, 2, 0, 0, []) := cd_row ac_321 rfl
set_option maxRecDepth 20000 in
theorem cd_321_345 : cd 321 345 = some (4, 346, 0, 0, 0, []) := cd_row ac_321 rfl
set_option maxRecDepth 20000 in
theorem cd_321_346 : cd 321 346 = some (2, 347, 3, 0, 0, []) := cd_row ac_321 rfl
set_option maxRecDepth 20000 in
theorem cd_321_347 : cd 321 347 = some (0, 348, 0, 0, 1, []) := cd_row ac_321 rfl
set_option maxRecDepth 20000 in
theorem cd_321_348 : cd 321 348 = some (9, 349, 0, 0, 0, []) := cd_row ac_321 rfl
set_option maxRecDepth 20000 in
theorem cd_321_349 : cd 321 349 = some (26, 350, 0, 0, 0, []) := cd_row ac_321 rfl
set_option maxRecDepth 20000 in
theorem cd_321_350 : cd 321 350 = some (4, 351, 0, 0, 0, []) := cd_row ac_321 rfl
set_option maxRecDepth 20000 in
theorem cd_321_351 : cd 321 351 = some (2, 352, 3, 0, 0, []) := cd_row ac_321 rfl
set_option maxRecDepth 20000 in
theorem cd_321_352 : cd 321 352 = some (0, 353, 0, 0, 2, []) := cd_row ac_321 rfl
set_option maxRecDepth 20000 in
theorem cd_321_353 : cd 321 353 = some (9, 354, 0, 0, 0, []) := cd_row ac_321 rfl
set_option maxRecDepth 20000 in
theorem cd_321_354 : cd 321 354 = some (26, 355, 0, 0, 0, []) := cd_row ac_321 rfl
set_option maxRecDepth 20000 in
theorem cd_321_355 : cd 321 355 = some (4, 356, 0, 0, 0, []) := cd_row ac_321 rfl
set_option maxRecDepth 20000 in
theorem cd_321_356 : cd 321 356 = some (2, 357, 3, 0, 0, []) := cd_row ac_321 rfl
set_option maxRecDepth 20000 in
theorem cd_321_357 : cd 321 357 = some (0, 358, 0, 0, 3, []) := cd_row ac_321 rfl
set_option maxRecDepth 20000 in
theorem cd_321_358 : cd 321 358 = some (9, 359, 0, 0, 0, []) := cd_row ac_321 rfl
set_option maxRecDepth 20000 in
theorem cd_321_359 : cd 321 359 = some (26, 360, 0, 0, 0, []) := cd_row ac_321 rfl
set_option maxRecDepth 20000 in
theorem cd_321_360 : cd 321 360 = some (4, 361, 0, 0, 0, []) := cd_row ac_321 rfl
set_option maxRecDepth 20000 in
theorem cd_321_361 : cd 321 361 = some (2, 362, 3, 0, 0, []) := cd_row ac_321 rfl
set_option maxRecDepth 20000 in
theorem cd_321_362 : cd 321 362 = some (0, 363, 0, 0, 4, []) := cd_row ac_321 rfl
set_option maxRecDepth 20000 in
theorem cd_321_363 : cd 321 363 = some (9, 364, 0, 0, 0, []) := cd_row ac_321 rfl
set_option maxRecDepth 20000 in
theorem cd_321_364 : cd 321 364 = some (26, 365, 0, 0, 0, []) := cd_row ac_321 rfl
set_option maxRecDepth 20000 in
theorem cd_321_365 : cd 321 365 = some (4, 366, 0, 0, 0, []) := cd_row ac_321 rfl
set_option maxRecDepth 20000 in
theorem cd_321_366 : cd 321 366 = some (2, 367, 3, 0, 0, []) := cd_row ac_321 rfl
set_option maxRecDepth 20000 in
theorem cd_321_367 : cd 321 367 = some (0, 368, 0, 0, 5, []) := cd_row ac_321 rfl
set_option maxRecDepth 20000 in
theorem cd_321_368 : cd 321 368 = some (9, 369, 0, 0, 0, []) := cd_row ac_321 rfl
set_option maxRecDepth 20000 in
theorem cd_321_369 : cd 321 369 = some (26, 370, 0, 0, 0, []) := cd_row ac_321 rfl
set_option maxRecDepth 20000 in
theorem cd_321_370 : cd 321 370 = some (46, 373, 192, 6, 10, []) := cd_row ac_321 rfl
set_option maxRecDepth 20000 in
theorem cd_321_373 : cd 321 373 = some (19, 374, 0, 0, 0, []) := cd_row ac_321 rfl
set_option maxRecDepth 20000 in
theorem cd_321_374 : cd 321 374 = some (22, 377, 1539, 0, 0, []) := cd_row ac_321 rfl
set_option maxRecDepth 20000 in
theorem cd_321_377 : cd 321 377 = some (4, 378, 1, 0, 0, []) := cd_row ac_321 rfl
set_option maxRecDepth 20000 in
theorem cd_321_378 : cd 321 378 = some (4, 379, 0, 0, 0, []) := cd_row ac_321 rfl
set_option maxRecDepth 20000 in
theorem cd_321_379 : cd 321 379 = some (2, 380, 3, 0, 0, []) := cd_row ac_321 rfl
set_option maxRecDepth 20000 in
theorem cd_321_380 : cd 321 380 = some (0, 381, 0, 0, 1, []) := cd_row ac_321 rfl
set_option maxRecDepth 20000 in
theorem cd_321_381 : cd 321 381 = some (9, 382, 0, 0, 0, []) := cd_row ac_321 rfl
set_option maxRecDepth 20000 in
theorem cd_321_382 : cd 321 382 = some (26, 383, 0, 0, 0, []) := cd_row ac_321 rfl
set_option maxRecDepth 20000 in
theorem cd_321_383 : cd 321 383 = some (46, 386, 122, 2, 9, []) := cd_row ac_321 rfl
set_option maxRecDepth 20000 in
theorem cd_321_386 : cd 321 386 = some (19, 387, 0, 0, 0, []) := cd_row ac_321 rfl
set_option maxRecDepth 20000 in
theorem cd_321_387 : cd 321 387 = some (4, 388, 2, 0, 0, []) := cd_row ac_321 rfl
set_option maxRecDepth 20000 in
theorem cd_321_388 : cd 321 388 = some (4, 389, 0, 0, 0, []) := cd_row ac_321 rfl
set_option maxRecDepth 20000 in
theorem cd_321_389 : cd 321 389 = some (2, 390, 3, 0, 0, []) := cd_row ac_321 rfl
set_option maxRecDepth 20000 in
theorem cd_321_390 : cd 321 390 = some (0, 391, 0, 0, 1, []) := cd_row ac_321 rfl
set_option maxRecDepth 20000 in
theorem cd_321_391 : cd 321 391 = some (9, 392, 0, 0, 0, []) := cd_row ac_321 rfl
set_option maxRecDepth 20000 in
theorem cd_321_392 : cd 321 392 = some (26, 393, 0, 0, 0, []) := cd_row ac_321 rfl
set_option maxRecDepth 20000 in
theorem cd_321_393 : cd 321 393 = some (46, 396, 193, 2, 10, []) := cd_row ac_321 rfl
set_option maxRecDepth 20000 in
theorem cd_321_396 : cd 321 396 = some (19, 397, 0, 0, 0, []) := cd_row ac_321 rfl
set_option maxRecDepth 20000 in
theorem cd_321_397 : cd 321 397 = some (22, 400, 1539, 0, 0, []) := cd_row ac_321 rfl
set_option maxRecDepth 20000 in
theorem cd_321_400 : cd 321 400 = some (4, 401, 1, 0, 0, []) := cd_row ac_321 rfl
set_option maxRecDepth 20000 in
theorem cd_321_401 : cd 321 401 = some (46, 404, 123, 1, 9, []) := cd_row ac_321 rfl
set_option maxRecDepth 20000 in
theorem cd_321_404 : cd 321 404 = some (19, 405, 0, 0, 0, []) := cd_row ac_321 rfl
set_option maxRecDepth 20000 in
theorem cd_321_405 : cd 321 405 = some (4, 406, 2, 0, 0, []) := cd_row ac_321 rfl
set_option maxRecDepth 20000 in
theorem cd_321_406 : cd 321 406 = some (46, 409, 232, 1, 10, []) := cd_row ac_321 rfl
set_option maxRecDepth 20000 in
theorem cd_321_409 : cd 321 409 = some (19, 410, 0, 0, 0, []) := cd_row ac_321 rfl
set_option maxRecDepth 20000 in
theorem cd_321_410 : cd 321 410 = some (22, 413, 1539, 0, 0, []) := cd_row ac_321 rfl
set_option maxRecDepth 20000 in
theorem cd_321_413 : cd 321 413 = some (4, 414, 1, 0, 0, []) := cd_row ac_321 rfl
set_option maxRecDepth 20000 in
theorem cd_321_414 : cd 321 414 = some (4, 415, 0, 0, 0, []) := cd_row ac_321 rfl
set_option maxRecDepth 20000 in
theorem cd_321_415 : cd 321 415 = some (2, 416, 3, 0, 0, []) := cd_row ac_321 rfl
set_option maxRecDepth 20000 in
theorem cd_321_416 : cd 321 416 = some (0, 417, 0, 0, 1, []) := cd_row ac_321 rfl
set_option maxRecDepth 20000 in
theorem cd_321_417 : cd 321 417 = some (9, 418, 0, 0, 0, []) := cd_row ac_321 rfl
set_option maxRecDepth 20000 in
theorem cd_321_418 : cd 321 418 = some (26, 419, 0, 0, 0, []) := cd_row ac_321 rfl
set_option maxRecDepth 20000 in
theorem cd_321_419 : cd 321 419 = some (46, 422, 124, 2, 9, []) := cd_row ac_321 rfl
set_option maxRecDepth 20000 in
theorem cd_321_422 : cd 321 422 = some (4, 423, 2, 0, 0, []) := cd_row ac_321 rfl
set_option maxRecDepth 20000 in
theorem cd_321_423 : cd 321 423 = some (4, 424, 0, 0, 0, []) := cd_row ac_321 rfl
set_option maxRecDepth 20000 in
theorem cd_321_424 : cd 321 424 = some (2, 425, 3, 0, 0, []) := cd_row ac_321 rfl
set_option maxRecDepth 20000 in
theorem cd_321_425 : cd 321 425 = some (0, 426, 0, 0, 1, []) := cd_row ac_321 rfl
set_option maxRecDepth 20000 in
theorem cd_321_426 : cd 321 426 = some (9, 427, 0, 0, 0, []) := cd_row ac_321 rfl
set_option maxRecDepth 20000 in
theorem cd_321_427 : cd 321 427 = some (26, 428, 0, 0, 0, []) := cd_row ac_321 rfl
set_option maxRecDepth 20000 in
theorem cd_321_428 : cd 321 428 = some (46, 431, 233, 2, 10, []) := cd_row ac_321 rfl
set_option maxRecDepth 20000 in
theorem cd_321_431 : cd 321 431 = some (21, 434, 1539, 0, 0, []) := cd_row ac_321 rfl
set_option maxRecDepth 20000 in
theorem cd_321_434 : cd 321 434 = some (0, 435, 0, 0, 0, []) := cd_row ac_321 rfl
set_option maxRecDepth 20000 in
theorem cd_321_435 : cd 321 435 = some (40, 436, 1, 0, 0, []) := cd_row ac_321 rfl
set_option maxRecDepth 20000 in
theorem cd_321_436 : cd 321 436 = some (4, 437, 1, 0, 0, []) := cd_row ac_321 rfl
set_option maxRecDepth 20000 in
theorem cd_321_437 : cd 321 437 = some (4, 438, 0, 0, 0, []) := cd_row ac_321 rfl
set_option maxRecDepth 20000 in
theorem cd_321_438 : cd 321 438 = some (2, 439, 3, 0, 0, []) := cd_row ac_321 rfl
set_option maxRecDepth 20000 in
theorem cd_321_439 : cd 321 439 = some (0, 440, 0, 0, 1, []) := cd_row ac_321 rfl
set_option maxRecDepth 20000 in
theorem cd_321_440 : cd 321 440 = some (9, 441, 0, 0, 0, []) := cd_row ac_321 rfl
set_option maxRecDepth 20000 in
theorem cd_321_441 : cd 321 441 = some (26, 442, 0, 0, 0, []) := cd_row ac_321 rfl
set_option maxRecDepth 20000 in
theorem cd_321_442 : cd 321 442 = some (46, 445, 125, 2, 9, []) := cd_row ac_321 rfl
set_option maxRecDepth 20000 in
theorem cd_321_445 : cd 321 445 = some (19, 446, 0, 0, 0, []) := cd_row ac_321 rfl
set_option maxRecDepth 20000 in
theorem cd_321_446 : cd 321 446 = some (4, 447, 2, 0, 0, []) := cd_row ac_321 rfl
set_option maxRecDepth 20000 in
theorem cd_321_447 : cd 321 447 = some (4, 448, 0, 0, 0, []) := cd_row ac_321 rfl
set_option maxRecDepth 20000 in
theorem cd_321_448 : cd 321 448 = some (2, 449, 3, 0, 0, []) := cd_row ac_321 rfl
set_option maxRecDepth 20000 in
theorem cd_321_449 : cd 321 449 = some (0, 450, 0, 0, 1, []) := cd_row ac_321 rfl
set_option maxRecDepth 20000 in
theorem cd_321_450 : cd 321 450 = some (9, 451, 0, 0, 0, []) := cd_row ac_321 rfl
set_option maxRecDepth 20000 in
theorem cd_321_451 : cd 321 451 = some (26, 452, 0, 0, 0, []) := cd_row ac_321 rfl
set_option maxRecDepth 20000 in
theorem cd_321_452 : cd 321 452 = some (46, 455, 234, 2, 10, []) := cd_row ac_321 rfl
set_option maxRecDepth 20000 in
theorem cd_321_455 : cd 321 455 = some (19, 456, 0, 0, 0, []) := cd_row ac_321 rfl
set_option maxRecDepth 20000 in
theorem cd_321_456 : cd 321 456 = some (22, 459, 1539, 0, 0, []) := cd_row ac_321 rfl
set_option maxRecDepth 20000 in
theorem cd_321_459 : cd 321 459 = some (4, 460, 1, 0, 0, []) := cd_row ac_321 rfl
set_option maxRecDepth 20000 in
theorem cd_321_460 : cd 321 460 = some (4, 461, 0, 0, 0, []) := cd_row ac_321 rfl
set_option maxRecDepth 20000 in
theorem cd_321_461 : cd 321 461 = some (2, 462, 3, 0, 0, []) := cd_row ac_321 rfl
set_option maxRecDepth 20000 in
theorem cd_321_462 : cd 321 462 = some (0, 463, 0, 0, 1, []) := cd_row ac_321 rfl
set_option maxRecDepth 20000 in
theorem cd_321_463 : cd 321 463 = some (9, 464, 0, 0, 0, []) := cd_row ac_321 rfl
set_option maxRecDepth 20000 in
theorem cd_321_464 : cd 321 464 = some (26, 465, 0, 0, 0, []) := cd_row ac_321 rfl
set_option maxRecDepth 20000 in
theorem cd_321_465 : cd 321 465 = some (46, 468, 126, 2, 9, []) := cd_row ac_321 rfl
set_option maxRecDepth 20000 in
theorem cd_321_468 : cd 321 468 = some (19, 469, 0, 0, 0, []) := cd_row ac_321 rfl
set_option maxRecDepth 20000 in
theorem cd_321_469 : cd 321 469 = some (4, 470, 2, 0, 0, []) := cd_row ac_321 rfl
set_option maxRecDepth 20000 in
theorem cd_321_470 : cd 321 470 = some (4, 471, 0, 0, 0, []) := cd_row ac_321 rfl
set_option maxRecDepth 20000 in
theorem cd_321_471 : cd 321 471 = some (2, 472, 3, 0, 0, []) := cd_row ac_321 rfl
set_option maxRecDepth 20000 in
theorem cd_321_472 : cd 321 472 = some (0, 473, 0, 0, 1, []) := cd_row ac_321 rfl
set_option maxRecDepth 20000 in
theorem cd_321_473 : cd 321 473 = some (9, 474, 0, 0, 0, []) := cd_row ac_321 rfl
set_option maxRecDepth 20000 in
theorem cd_321_474 : cd 321 474 = some (26, 475, 0, 0, 0, []) := cd_row ac_321 rfl
set_option maxRecDepth 20000 in
theorem cd_321_475 : cd 321 475 = some (46, 478, 257, 2, 10, []) := cd_row ac_321 rfl
set_option maxRecDepth 20000 in
theorem cd_321_478 : cd 321 478 = some (19, 479, 0, 0, 0, []) := cd_row ac_321 rfl
set_option maxRecDepth 20000 in
theorem cd_321_479 : cd 321 479 = some (22, 482, 1539, 0, 0, []) := cd_row ac_321 rfl
set_option maxRecDepth 20000 in
theorem cd_321_482 : cd 321 482 = some (4, 483, 1, 0, 0, []) := cd_row ac_321 rfl
set_option maxRecDepth 20000 in
theorem cd_321_483 : cd 321 483 = some (4, 484, 0, 0, 0, []) := cd_row ac_321 rfl
set_option maxRecDepth 20000 in
theorem cd_321_484 : cd 321 484 = some (2, 485, 3, 0, 0, []) := cd_row ac_321 rfl
set_option maxRecDepth 20000 in
theorem cd_321_485 : cd 321 485 = some (0, 486, 0, 0, 1, []) := cd_row ac_321 rfl
set_option maxRecDepth 20000 in
theorem cd_321_486 : cd 321 486 = some (9, 487, 0, 0, 0, []) := cd_row ac_321 rfl
set_option maxRecDepth 20000 in
theorem cd_321_487 : cd 321 487 = some (26, 488, 0, 0, 0, []) := cd_row ac_321 rfl
set_option maxRecDepth 20000 in
theorem cd_321_488 : cd 321 488 = some (46, 491, 127, 2, 9, []) := cd_row ac_321 rfl
set_option maxRecDepth 20000 in
theorem cd_321_491 : cd 321 491 = some (19, 492, 0, 0, 0, []) := cd_row ac_321 rfl
set_option maxRecDepth 20000 in
theorem cd_321_492 : cd 321 492 = some (4, 493, 2, 0, 0, []) := cd_row ac_321 rfl
set_option maxRecDepth 20000 in
theorem cd_321_493 : cd 321 493 = some (4, 494, 0, 0, 0, []) := cd_row ac_321 rfl
set_option maxRecDepth 20000 in
theorem cd_321_494 : cd 321 494 = some (2, 495, 3, 0, 0, []) := cd_row ac_321 rfl
set_option maxRecDepth 20000 in
theorem cd_321_495 : cd 321 495 = some (0, 496, 0, 0, 1, []) := cd_row ac_321 rfl
set_option maxRecDepth 20000 in
theorem cd_321_496 : cd 321 496 = some (9, 497, 0, 0, 0, []) := cd_row ac_321 rfl
set_option maxRecDepth 20000 in
theorem cd_321_497 : cd 321 497 = some (26, 498, 0, 0, 0, []) := cd_row ac_321 rfl
set_option maxRecDepth 20000 in
theorem cd_321_498 : cd 321 498 = some (46, 501, 259, 2, 10, []) := cd_row ac_321 rfl
set_option maxRecDepth 20000 in
theorem cd_321_501 : cd 321 501 = some (19, 502, 0, 0, 0, []) := cd_row ac_321 rfl
set_option maxRecDepth 20000 in
theorem cd_321_502 : cd 321 502 = some (22, 505, 1539, 0, 0, []) := cd_row ac_321 rfl
set_option maxRecDepth 20000 in
theorem cd_321_505 : cd 321 505 = some (4, 506, 1, 0, 0, []) := cd_row ac_321 rfl
set_option maxRecDepth 20000 in
theorem cd_321_506 : cd 321 506 = some (4, 507, 0, 0, 0, []) := cd_row ac_321 rfl
set_option maxRecDepth 20000 in
theorem cd_321_507 : cd 321 507 = some (2, 508, 3, 0, 0, []) := cd_row ac_321 rfl
set_option maxRecDepth 20000 in
theorem cd_321_508 : cd 321 508 = some (0, 509, 0, 0, 1, []) := cd_row ac_321 rfl
set_option maxRecDepth 20000 in
theorem cd_321_509 : cd 321 509 = some (9, 510, 0, 0, 0, []) := cd_row ac_321 rfl
set_option maxRecDepth 20000 in
theorem cd_321_510 : cd 321 510 = some (26, 511, 0, 0, 0, []) := cd_row ac_321 rfl
set_option maxRecDepth 20000 in
theorem cd_321_511 : cd 321 511 = some (46, 514, 130, 2, 9, []) := cd_row ac_321 rfl
set_option maxRecDepth 20000 in
theorem cd_321_514 : cd 321 514 = some (19, 515, 0, 0, 0, []) := cd_row ac_321 rfl
set_option maxRecDepth 20000 in
theorem cd_321_515 : cd 321 515 = some (4, 516, 2, 0, 0, []) := cd_row ac_321 rfl
set_option maxRecDepth 20000 in
theorem cd_321_516 : cd 321 516 = some (4, 517, 0, 0, 0, []) := cd_row ac_321 rfl
set_option maxRecDepth 20000 in
theorem cd_321_517 : cd 321 517 = some (2, 518, 3, 0, 0, []) := cd_row ac_321 rfl
set_option maxRecDepth 20000 in
theorem cd_321_518 : cd 321 518 = some (0, 519, 0, 0, 1, []) := cd_row ac_321 rfl
set_option maxRecDepth 20000 in
theorem cd_321_519 : cd 321 519 = some (9, 520, 0, 0, 0, []) := cd_row ac_321 rfl
set_option maxRecDepth 20000 in
theorem cd_321_520 : cd 321 520 = some (26, 521, 0, 0, 0, []) := cd_row ac_321 rfl
set_option maxRecDepth 20000 in
theorem cd_321_521 : cd 321 521 = some (46, 524, 260, 2, 10, []) := cd_row ac_321 rfl
set_option maxRecDepth 20000 in
theorem cd_321_524 : cd 321 524 = some (19, 525, 0, 0, 0, []) := cd_row ac_321 rfl
set_option maxRecDepth 20000 in
theorem cd_321_525 : cd 321 525 = some (22, 528, 1539, 0, 0, []) := cd_row ac_321 rfl
set_option maxRecDepth 20000 in
theorem cd_321_528 : cd 321 528 = some (4, 529, 1, 0, 0, []) := cd_row ac_321 rfl
set_option maxRecDepth 20000 in
theorem cd_321_529 : cd 321 529 = some (4, 530, 0, 0, 0, []) := cd_row ac_321 rfl
set_option maxRecDepth 20000 in
theorem cd_321_530 : cd 321 530 = some (2, 531, 3, 0, 0, []) := cd_row ac_321 rfl
set_option maxRecDepth 20000 in
theorem cd_321_531 : cd 321 531 = some (0, 532, 0, 0, 1, []) := cd_row ac_321 rfl
set_option maxRecDepth 20000 in
theorem cd_321_532 : cd 321 532 = some (9, 533, 0, 0, 0, []) := cd_row ac_321 rfl
set_option maxRecDepth 20000 in
theorem cd_321_533 : cd 321 533 = some (26, 534, 0, 0, 0, []) := cd_row ac_321 rfl
set_option maxRecDepth 20000 in
theorem cd_321_534 : cd 321 534 = some (46, 537, 131, 2, 9, []) := cd_row ac_321 rfl
set_option maxRecDepth 20000 in
theorem cd_321_537 : cd 321 537 = some (19, 538, 0, 0, 0, []) := cd_row ac_321 rfl
set_option maxRecDepth 20000 in
theorem cd_321_538 : cd 321 538 = some (4, 539, 2, 0, 0, []) := cd_row ac_321 rfl
set_option maxRecDepth 20000 in
theorem cd_321_539 : cd 321 539 = some (4, 540, 0, 0, 0, []) := cd_row ac_321 rfl
set_option maxRecDepth 20000 in
theorem cd_321_540 : cd 321 540 = some (2, 541, 3, 0, 0, []) := cd_row ac_321 rfl
set_option maxRecDepth 20000 in
theorem cd_321_541 : cd 321 541 = some (0, 542, 0, 0, 1, []) := cd_row ac_321 rfl
set_option maxRecDepth 20000 in
theorem cd_321_542 : cd 321 542 = some (9, 543, 0, 0, 0, []) := cd_row ac_321 rfl
set_option maxRecDepth 20000 in
theorem cd_321_543 : cd 321 543 = some (26, 544, 0, 0, 0, []) := cd_row ac_321 rfl
set_option maxRecDepth 20000 in
theorem cd_321_544 : cd 321 544 = some (46, 547, 261, 2, 10, []) := cd_row ac_321 rfl
set_option maxRecDepth 20000 in
theorem cd_321_547 : cd 321 547 = some (19, 548, 0, 0, 0, []) := cd_row ac_321 rfl
set_option maxRecDepth 20000 in
theorem cd_321_548 : cd 321 548 = some (22, 551, 1539, 0, 0, []) := cd_row ac_321 rfl
set_option maxRecDepth 20000 in
theorem cd_321_551 : cd 321 551 = some (4, 552, 1, 0, 0, []) := cd_row ac_321 rfl
set_option maxRecDepth 20000 in
theorem cd_321_552 : cd 321 552 = some (4, 553, 0, 0, 0, []) := cd_row ac_321 rfl
set_option maxRecDepth 20000 in
theorem cd_321_553 : cd 321 553 = some (2, 554, 3, 0, 0, []) := cd_row ac_321 rfl
set_option maxRecDepth 20000 in
theorem cd_321_554 : cd 321 554 = some (0, 555, 0, 0, 1, []) := cd_row ac_321 rfl
set_option maxRecDepth 20000 in
theorem cd_321_555 : cd 321 555 = some (9, 556, 0, 0, 0, []) := cd_row ac_321 rfl
set_option maxRecDepth 20000 in
theorem cd_321_556 : cd 321 556 = some (26, 557, 0, 0, 0, []) := cd_row ac_321 rfl
set_option maxRecDepth 20000 in
theorem cd_321_557 : cd 321 557 = some (46, 560, 132, 2, 9, []) := cd_row ac_321 rfl
set_option maxRecDepth 20000 in
theorem cd_321_560 : cd 321 560 = some (19, 561, 0, 0, 0, []) := cd_row ac_321 rfl
set_option maxRecDepth 20000 in
theorem cd_321_561 : cd 321 561 = some (4, 562, 2, 0, 0, []) := cd_row ac_321 rfl
set_option maxRecDepth 20000 in
theorem cd_321_562 : cd 321 562 = some (4, 563, 0, 0, 0, []) := cd_row ac_321 rfl
set_option maxRecDepth 20000 in
theorem cd_321_563 : cd 321 563 = some (2, 564, 3, 0, 0, []) := cd_row ac_321 rfl
set_option maxRecDepth 20000 in
theorem cd_321_564 : cd 321 564 = some (0, 565, 0, 0, 1, []) := cd_row ac_321 rfl
set_option maxRecDepth 20000 in
theorem cd_321_565 : cd 321 565 = some (9, 566, 0, 0, 0, []) := cd_row ac_321 rfl
set_option maxRecDepth 20000 in
theorem cd_321_566 : cd 321 566 = some (26, 567, 0, 0, 0, []) := cd_row ac_321 rfl
set_option maxRecDepth 20000 in
theorem cd_321_567 : cd 321 567 = some (46, 570, 262, 2, 10, []) := cd_row ac_321 rfl
set_option maxRecDepth 20000 in
theorem cd_321_570 : cd 321 570 = some (19, 571, 0, 0, 0, []) := cd_row ac_321 rfl
set_option maxRecDepth 20000 in
theorem cd_321_571 : cd 321 571 = some (22, 574, 1539, 0, 0, []) := cd_row ac_321 rfl
set_option maxRecDepth 20000 in
theorem cd_321_574 : cd 321 574 = some (4, 575, 1, 0, 0, []) := cd_row ac_321 rfl
set_option maxRecDepth 20000 in
theorem cd_321_575 : cd 321 575 = some (46, 578, 133, 1, 9, []) := cd_row ac_321 rfl
set_option maxRecDepth 20000 in
theorem cd_321_578 : cd 321 578 = some (19, 579, 0, 0, 0, []) := cd_row ac_321 rfl
set_option maxRecDepth 20000 in
theorem cd_321_579 : cd 321 579 = some (4, 580, 2, 0, 0, []) := cd_row ac_321 rfl
set_option maxRecDepth 20000 in
theorem cd_321_580 : cd 321 580 = some (46, 583, 263, 1, 10, []) := cd_row ac_321 rfl
set_option maxRecDepth 20000 in
theorem cd_321_583 : cd 321 583 = some (19, 584, 0, 0, 0, []) := cd_row ac_321 rfl
set_option maxRecDepth 20000 in
theorem cd_321_584 : cd 321 584 = some (22, 587, 1539, 0, 0, []) := cd_row ac_321 rfl
set_option maxRecDepth 20000 in
theorem cd_321_587 : cd 321 587 = some (4, 588, 1, 0, 0, []) := cd_row ac_321 rfl
set_option maxRecDepth 20000 in
theorem cd_321_588 : cd 321 588 = some (4, 589, 0, 0, 0, []) := cd_row ac_321 rfl
set_option maxRecDepth 20000 in
theorem cd_321_589 : cd 321 589 = some (2, 590, 3, 0, 0, []) := cd_row ac_321 rfl
set_option maxRecDepth 20000 in
theorem cd_321_590 : cd 321 590 = some (0, 591, 0, 0, 1, []) := cd_row ac_321 rfl
set_option maxRecDepth 20000 in
theorem cd_321_591 : cd 321 591 = some (9, 592, 0, 0, 0, []) := cd_row ac_321 rfl
set_option maxRecDepth 20000 in
theorem cd_321_592 : cd 321 592 = some (26, 593, 0, 0, 0, []) := cd_row ac_321 rfl
set_option maxRecDepth 20000 in
theorem cd_321_593 : cd 321 593 = some (46, 596, 134, 2, 9, []) := cd_row ac_321 rfl
set_option maxRecDepth 20000 in
theorem cd_321_596 : cd 321 596 = some (19, 597, 0, 0, 0, []) := cd_row ac_321 rfl
set_option maxRecDepth 20000 in
theorem cd_321_597 : cd 321 597 = some (4, 598, 2, 0, 0, []) := cd_row ac_321 rfl
set_option maxRecDepth 20000 in
theorem cd_321_598 : cd 321 598 = some (4, 599, 0, 0, 0, []) := cd_row ac_321 rfl
set_option maxRecDepth 20000 in
theorem cd_321_599 : cd 321 599 = some (2, 600, 3, 0, 0, []) := cd_row ac_321 rfl
set_option maxRecDepth 20000 in
theorem cd_321_600 : cd 321 600 = some (0, 601, 0, 0, 1, []) := cd_row ac_321 rfl
set_option maxRecDepth 20000 in
theorem cd_321_601 : cd 321 601 = some (9, 602, 0, 0, 0, []) := cd_row ac_321 rfl
set_option maxRecDepth 20000 in
theorem cd_321_602 : cd 321 602 = some (26, 603, 0, 0, 0, []) := cd_row ac_321 rfl
set_option maxRecDepth 20000 in
theorem cd_321_603 : cd 321 603 = some (46, 606, 265, 2, 10, []) := cd_row ac_321 rfl
set_option maxRecDepth 20000 in
theorem cd_321_606 : cd 321 606 = some (19, 607, 0, 0, 0, []) := cd_row ac_321 rfl
set_option maxRecDepth 20000 in
theorem cd_321_607 : cd 321 607 = some (22, 610, 1539, 0, 0, []) := cd_row ac_321 rfl
set_option maxRecDepth 20000 in
theorem cd_321_610 : cd 321 610 = some (4, 611, 1, 0, 0, []) := cd_row ac_321 rfl
set_option maxRecDepth 20000 in
theorem cd_321_611 : cd 321 611 = some (4, 612, 0, 0, 0, []) := cd_row ac_321 rfl
set_option maxRecDepth 20000 in
theorem cd_321_612 : cd 321 612 = some (2, 613, 3, 0, 0, []) := cd_row ac_321 rfl
set_option maxRecDepth 20000 in
theorem cd_321_613 : cd 321 613 = some (0, 614, 0, 0, 1, []) := cd_row ac_321 rfl
set_option maxRecDepth 20000 in
theorem cd_321_614 : cd 321 614 = some (9, 615, 0, 0, 0, []) := cd_row ac_321 rfl
set_option maxRecDepth 20000 in
theorem cd_321_615 : cd 321 615 = some (26, 616, 0, 0, 0, []) := cd_row ac_321 rfl
set_option maxRecDepth 20000 in
theorem cd_321_616 : cd 321 616 = some (4, 617, 0, 0, 0, []) := cd_row ac_321 rfl
set_option maxRecDepth 20000 in
theorem cd_321_617 : cd 321 617 = some (2, 618, 3, 0, 0, []) := cd_row ac_321 rfl
set_option maxRecDepth 20000 in
theorem cd_321_618 : cd 321 618 = some (0, 619, 0, 0, 2, []) := cd_row ac_321 rfl
set_option maxRecDepth 20000 in
theorem cd_321_619 : cd 321 619 = some (9, 620, 0, 0, 0, []) := cd_row ac_321 rfl
set_option maxRecDepth 20000 in
theorem cd_321_620 : cd 321 620 = some (26, 621, 0, 0, 0, []) := cd_row ac_321 rfl
set_option maxRecDepth 20000 in
theorem cd_321_621 : cd 321 621 = some (46, 624, 136, 3, 9, []) := cd_row ac_321 rfl
set_option maxRecDepth 20000 in
theorem cd_321_624 : cd 321 624 = some (19, 625, 0, 0, 0, []) := cd_row ac_321 rfl
set_option maxRecDepth 20000 in
theorem cd_321_625 : cd 321 625 = some (4, 626, 2, 0, 0, []) := cd_row ac_321 rfl
set_option maxRecDepth 20000 in
theorem cd_321_626 : cd 321 626 = some (4, 627, 0, 0, 0, []) := cd_row ac_321 rfl
set_option maxRecDepth 20000 in
theorem cd_321_627 : cd 321 627 = some (2, 628, 3, 0, 0, []) := cd_row ac_321 rfl
set_option maxRecDepth 20000 in
theorem cd_321_628 : cd 321 628 = some (0, 629, 0, 0, 1, []) := cd_row ac_321 rfl
set_option maxRecDepth 20000 in
theorem cd_321_629 : cd 321 629 = some (9, 630, 0, 0, 0, []) := cd_row ac_321 rfl
set_option maxRecDepth 20000 in
theorem cd_321_630 : cd 321 630 = some (26, 631, 0, 0, 0, []) := cd_row ac_321 rfl
set_option maxRecDepth 20000 in
theorem cd_321_631 : cd 321 631 = some (4, 632, 0, 0, 0, []) := cd_row ac_321 rfl
set_option maxRecDepth 20000 in
theorem cd_321_632 : cd 321 632 = some (2, 633, 3, 0, 0, []) := cd_row ac_321 rfl
set_option maxRecDepth 20000 in
theorem cd_321_633 : cd 321 633 = some (0, 634, 0, 0, 2, []) := cd_row ac_321 rfl
set_option maxRecDepth 20000 in
theorem cd_321_634 : cd 321 634 = some (9, 635, 0, 0, 0, []) := cd_row ac_321 rfl
set_option maxRecDepth 20000 in
theorem cd_321_635 : cd 321 635 = some (26, 636, 0, 0, 0, []) := cd_row ac_321 rfl
set_option maxRecDepth 20000 in
theorem cd_321_636 : cd 321 636 = some (46, 639, 266, 3, 10, []) := cd_row ac_321 rfl
set_option maxRecDepth 20000 in
theorem cd_321_639 : cd 321 639 = some (19, 640, 0, 0, 0, []) := cd_row ac_321 rfl
set_option maxRecDepth 20000 in
theorem cd_321_640 : cd 321 640 = some (22, 643, 1539, 0, 0, []) := cd_row ac_321 rfl
set_option maxRecDepth 20000 in
theorem cd_321_643 : cd 321 643 = some (4, 644, 1, 0, 0, []) := cd_row ac_321 rfl
set_option maxRecDepth 20000 in
theorem cd_321_644 : cd 321 644 = some (46, 647, 137, 1, 9, []) := cd_row ac_321 rfl
set_option maxRecDepth 20000 in
theorem cd_321_647 : cd 321 647 = some (19, 648, 0, 0, 0, []) := cd_row ac_321 rfl
set_option maxRecDepth 20000 in
theorem cd_321_648 : cd 321 648 = some (4, 649, 2, 0, 0, []) := cd_row ac_321 rfl
set_option maxRecDepth 20000 in
theorem cd_321_649 : cd 321 649 = some (46, 652, 255, 1, 10, []) := cd_row ac_321 rfl
set_option maxRecDepth 20000 in
theorem cd_321_652 : cd 321 652 = some (19, 653, 0, 0, 0, []) := cd_row ac_321 rfl
set_option maxRecDepth 20000 in
theorem cd_321_653 : cd 321 653 = some (22, 656, 1539, 0, 0, []) := cd_row ac_321 rfl
set_option maxRecDepth 20000 in
theorem cd_321_656 : cd 321 656 = some (4, 657, 1, 0, 0, []) := cd_row ac_321 rfl
set_option maxRecDepth 20000 in
theorem cd_321_657 : cd 321 657 = some (4, 658, 0, 0, 0, []) := cd_row ac_321 rfl
set_option maxRecDepth 20000 in
theorem cd_321_658 : cd 321 658 = some (2, 659, 3, 0, 0, []) := cd_row ac_321 rfl
set_option maxRecDepth 20000 in
theorem cd_321_659 : cd 321 659 = some (0, 660, 0, 0, 1, []) := cd_row ac_321 rfl
set_option maxRecDepth 20000 in
theorem cd_321_660 : cd 321 660 = some (9, 661, 0, 0, 0, []) := cd_row ac_321 rfl
set_option maxRecDepth 20000 in
theorem cd_321_661 : cd 321 661 = some (26, 662, 0, 0, 0, []) := cd_row ac_321 rfl
set_option maxRecDepth 20000 in
theorem cd_321_662 : cd 321 662 = some (46, 665, 138, 2, 9, []) := cd_row ac_321 rfl
set_option maxRecDepth 20000 in
theorem cd_321_665 : cd 321 665 = some (19, 666, 0, 0, 0, []) := cd_row ac_321 rfl
set_option maxRecDepth 20000 in
theorem cd_321_666 : cd 321 666 = some (4, 667, 2, 0, 0, []) := cd_row ac_321 rfl
set_option maxRecDepth 20000 in
theorem cd_321_667 : cd 321 667 = some (4, 668, 0, 0, 0, []) := cd_row ac_321 rfl
set_option maxRecDepth 20000 in
theorem cd_321_668 : cd 321 668 = some (2, 669, 3, 0, 0, []) := cd_row ac_321 rfl
set_option maxRecDepth 20000 in
theorem cd_321_669 : cd 321 669 = some (0, 670, 0, 0, 1, []) := cd_row ac_321 rfl
set_option maxRecDepth 20000 in
theorem cd_321_670 : cd 321 670 = some (9, 671, 0, 0, 0, []) := cd_row ac_321 rfl
set_option maxRecDepth 20000 in
theorem cd_321_671 : cd 321 671 = some (26, 672, 0, 0, 0, []) := cd_row ac_321 rfl
set_option maxRecDepth 20000 in
theorem cd_321_672 : cd 321 672 = some (46, 675, 267, 2, 10, []) := cd_row ac_321 rfl
set_option maxRecDepth 20000 in
theorem cd_321_675 : cd 321 675 = some (19, 676, 0, 0, 0, []) := cd_row ac_321 rfl
set_option maxRecDepth 20000 in
theorem cd_321_676 : cd 321 676 = some (22, 679, 1539, 0, 0, []) := cd_row ac_321 rfl
set_option maxRecDepth 20000 in
theorem cd_321_679 : cd 321 679 = some (4, 680, 1, 0, 0, []) := cd_row ac_321 rfl
set_option maxRecDepth 20000 in
theorem cd_321_680 : cd 321 680 = some (4, 681, 0, 0, 0, []) := cd_row ac_321 rfl
set_option maxRecDepth 20000 in
theorem cd_321_681 : cd 321 681 = some (2, 682, 3, 0, 0, []) := cd_row ac_321 rfl
set_option maxRecDepth 20000 in
theorem cd_321_682 : cd 321 682 = some (0, 683, 0, 0, 1, []) := cd_row ac_321 rfl
set_option maxRecDepth 20000 in
theorem cd_321_683 : cd 321 683 = some (9, 684, 0, 0, 0, []) := cd_row ac_321 rfl
set_option maxRecDepth 20000 in
theorem cd_321_684 : cd 321 684 = some (26, 685, 0, 0, 0, []) := cd_row ac_321 rfl
set_option maxRecDepth 20000 in
theorem cd_321_685 : cd 321 685 = some (4, 686, 0, 0, 0, []) := cd_row ac_321 rfl
set_option maxRecDepth 20000 in
theorem cd_321_686 : cd 321 686 = some (2, 687, 3, 0, 0, []) := cd_row ac_321 rfl
set_option maxRecDepth 20000 in
theorem cd_321_687 : cd 321 687 = some (0, 688, 0, 0, 2, []) := cd_row ac_321 rfl
set_option maxRecDepth 20000 in
theorem cd_321_688 : cd 321 688 = some (9, 689, 0, 0, 0, []) := cd_row ac_321 rfl
set_option maxRecDepth 20000 in
theorem cd_321_689 : cd 321 689 = some (26, 690, 0, 0, 0, []) := cd_row ac_321 rfl
set_option maxRecDepth 20000 in
theorem cd_321_690 : cd 321 690 = some (46, 693, 139, 3, 9, []) := cd_row ac_321 rfl
set_option maxRecDepth 20000 in
theorem cd_321_693 : cd 321 693 = some (19, 694, 0, 0, 0, []) := cd_row ac_321 rfl
set_option maxRecDepth 20000 in
theorem cd_321_694 : cd 321 694 = some (4, 695, 2, 0, 0, []) := cd_row ac_321 rfl
set_option maxRecDepth 20000 in
theorem cd_321_695 : cd 321 695 = some (4, 696, 0, 0, 0, []) := cd_row ac_321 rfl
set_option maxRecDepth 20000 in
theorem cd_321_696 : cd 321 696 = some (2, 697, 3, 0, 0, []) := cd_row ac_321 rfl
set_option maxRecDepth 20000 in
theorem cd_321_697 : cd 321 697 = some (0, 698, 0, 0, 1, []) := cd_row ac_321 rfl
set_option maxRecDepth 20000 in
theorem cd_321_698 : cd 321 698 = some (9, 699, 0, 0, 0, []) := cd_row ac_321 rfl
set_option maxRecDepth 20000 in
theorem cd_321_699 : cd 321 699 = some (26, 700, 0, 0, 0, []) := cd_row ac_321 rfl
set_option maxRecDepth 20000 in
theorem cd_321_700 : cd 321 700 = some (4, 701, 0, 0, 0, []) := cd_row ac_321 rfl
set_option maxRecDepth 20000 in
theorem cd_321_701 : cd 321 701 = some (2, 702, 3, 0, 0, []) := cd_row ac_321 rfl
set_option maxRecDepth 20000 in
theorem cd_321_702 : cd 321 702 = some (0, 703, 0, 0, 2, []) := cd_row ac_321 rfl
set_option maxRecDepth 20000 in
theorem cd_321_703 : cd 321 703 = some (9, 704, 0, 0, 0, []) := cd_row ac_321 rfl
set_option maxRecDepth 20000 in
theorem cd_321_704 : cd 321 704 = some (26, 705, 0, 0, 0, []) := cd_row ac_321 rfl
set_option maxRecDepth 20000 in
theorem cd_321_705 : cd 321 705 = some (46, 708, 268, 3, 10, []) := cd_row ac_321 rfl
set_option maxRecDepth 20000 in
theorem cd_321_708 : cd 321 708 = some (19, 709, 0, 0, 0, []) := cd_row ac_321 rfl
set_option maxRecDepth 20000 in
theorem cd_321_709 : cd 321 709 = some (22, 712, 1539, 0, 0, []) := cd_row ac_321 rfl
set_option maxRecDepth 20000 in
theorem cd_321_712 : cd 321 712 = some (4, 713, 1, 0, 0, []) := cd_row ac_321 rfl
set_option maxRecDepth 20000 in
theorem cd_321_713 : cd 321 713 = some (4, 714, 0, 0, 0, []) := cd_row ac_321 rfl
set_option maxRecDepth 20000 in
theorem cd_321_714 : cd 321 714 = some (2, 715, 3, 0, 0, []) := cd_row ac_321 rfl
set_option maxRecDepth 20000 in
theorem cd_321_715 : cd 321 715 = some (0, 716, 0, 0, 1, []) := cd_row ac_321 rfl
set_option maxRecDepth 20000 in
theorem cd_321_716 : cd 321 716 = some (9, 717, 0, 0, 0, []) := cd_row ac_321 rfl
set_option maxRecDepth 20000 in
theorem cd_321_717 : cd 321 717 = some (26, 718, 0, 0, 0, []) := cd_row ac_321 rfl
set_option maxRecDepth 20000 in
theorem cd_321_718 : cd 321 718 = some (4, 719, 0, 0, 0, []) := cd_row ac_321 rfl
set_option maxRecDepth 20000 in
theorem cd_321_719 : cd 321 719 = some (2, 720, 3, 0, 0, []) := cd_row ac_321 rfl
set_option maxRecDepth 20000 in
theorem cd_321_720 : cd 321 720 = some (0, 721, 0, 0, 2, []) := cd_row ac_321 rfl
set_option maxRecDepth 20000 in
theorem cd_321_721 : cd 321 721 = some (9, 722, 0, 0, 0, []) := cd_row ac_321 rfl
set_option maxRecDepth 20000 in
theorem cd_321_722 : cd 321 722 = some (26, 723, 0, 0, 0, []) := cd_row ac_321 rfl
set_option maxRecDepth 20000 in
theorem cd_321_723 : cd 321 723 = some (46, 726, 141, 3, 9, []) := cd_row ac_321 rfl
set_option maxRecDepth 20000 in
theorem cd_321_726 : cd 321 726 = some (19, 727, 0, 0, 0, []) := cd_row ac_321 rfl
set_option maxRecDepth 20000 in
theorem cd_321_727 : cd 321 727 = some (4, 728, 2, 0, 0, []) := cd_row ac_321 rfl
set_option maxRecDepth 20000 in
theorem cd_321_728 : cd 321 728 = some (4, 729, 0, 0, 0, []) := cd_row ac_321 rfl
set_option maxRecDepth 20000 in
theorem cd_321_729 : cd 321 729 = some (2, 730, 3, 0, 0, []) := cd_row ac_321 rfl
set_option maxRecDepth 20000 in
theorem cd_321_730 : cd 321 730 = some (0, 731, 0, 0, 1, []) := cd_row ac_321 rfl
set_option maxRecDepth 20000 in
theorem cd_321_731 : cd 321 731 = some (9, 732, 0, 0, 0, []) := cd_row ac_321 rfl
set_option maxRecDepth 20000 in
theorem cd_321_732 : cd 321 732 = some (26, 733, 0, 0, 0, []) := cd_row ac_321 rfl
set_option maxRecDepth 20000 in
theorem cd_321_733 : cd 321 733 = some (4, 734, 0, 0, 0, []) := cd_row ac_321 rfl
set_option maxRecDepth 20000 in
theorem cd_321_734 : cd 321 734 = some (2, 735, 3, 0, 0, []) := cd_row ac_321 rfl
set_option maxRecDepth 20000 in
theorem cd_321_735 : cd 321 735 = some (0, 736, 0, 0, 2, []) := cd_row ac_321 rfl
set_option maxRecDepth 20000 in
theorem cd_321_736 : cd 321 736 = some (9, 737, 0, 0, 0, []) := cd_row ac_321 rfl
set_option maxRecDepth 20000 in
theorem cd_321_737 : cd 321 737 = some (26, 738, 0, 0, 0, []) := cd_row ac_321 rfl
set_option maxRecDepth 20000 in
theorem cd_321_738 : cd 321 738 = some (46, 741, 270, 3, 10, []) := cd_row ac_321 rfl
set_option maxRecDepth 20000 in
theorem cd_321_741 : cd 321 741 = some (19, 742, 0, 0, 0, []) := cd_row ac_321 rfl
set_option maxRecDepth 20000 in
theorem cd_321_742 : cd 321 742 = some (22, 745, 1539, 0, 0, []) := cd_row ac_321 rfl
set_option maxRecDepth 20000 in
theorem cd_321_745 : cd 321 745 = some (4, 746, 1, 0, 0, []) := cd_row ac_321 rfl
set_option maxRecDepth 20000 in
theorem cd_321_746 : cd 321 746 = some (4, 747, 0, 0, 0, []) := cd_row ac_321 rfl
set_option maxRecDepth 20000 in
theorem cd_321_747 : cd 321 747 = some (2, 748, 3, 0, 0, []) := cd_row ac_321 rfl
set_option maxRecDepth 20000 in
theorem cd_321_748 : cd 321 748 = some (0, 749, 0, 0, 1, []) := cd_row ac_321 rfl
set_option maxRecDepth 20000 in
theorem cd_321_749 : cd 321 749 = some (9, 750, 0, 0, 0, []) := cd_row ac_321 rfl
set_option maxRecDepth 20000 in
theorem cd_321_750 : cd 321 750 = some (26, 751, 0, 0, 0, []) := cd_row ac_321 rfl
set_option maxRecDepth 20000 in
theorem cd_321_751 : cd 321 751 = some (4, 752, 0, 0, 0, []) := cd_row ac_321 rfl
set_option maxRecDepth 20000 in
theorem cd_321_752 : cd 321 752 = some (2, 753, 3, 0, 0, []) := cd_row ac_321 rfl
set_option maxRecDepth 20000 in
theorem cd_321_753 : cd 321 753 = some (0, 754, 0, 0, 2, []) := cd_row ac_321 rfl
set_option maxRecDepth 20000 in
theorem cd_321_754 : cd 321 754 = some (9, 755, 0, 0, 0, []) := cd_row ac_321 rfl
set_option maxRecDepth 20000 in
theorem cd_321_755 : cd 321 755 = some (26, 756, 0, 0, 0, []) := cd_row ac_321 rfl
set_option maxRecDepth 20000 in
theorem cd_321_756 : cd 321 756 = some (20, 759, 763, 0, 0, []) := cd_row ac_321 rfl
set_option maxRecDepth 20000 in
theorem cd_321_759 : cd 321 759 = some (0, 760, 0, 0, 1, []) := cd_row ac_321 rfl
set_option maxRecDepth 20000 in
theorem cd_321_760 : cd 321 760 = some (22, 763, 764, 0, 0, []) := cd_row ac_321 rfl
set_option maxRecDepth 20000 in
theorem cd_321_763 : cd 321 763 = some (0, 764, 0, 0, 0, []) := cd_row ac_321 rfl
set_option maxRecDepth 20000 in
theorem cd_321_764 : cd 321 764 = some (4, 765, 0, 0, 0, []) := cd_row ac_321 rfl
set_option maxRecDepth 20000 in
theorem cd_321_765 : cd 321 765 = some (2, 766, 3, 0, 0, []) := cd_row ac_321 rfl
set_option maxRecDepth 20000 in
theorem cd_321_766 : cd 321 766 = some (0, 767, 0, 0, 3, []) := cd_row ac_321 rfl
set_option maxRecDepth 20000 in
theorem cd_321_767 : cd 321 767 = some (9, 768, 0, 0, 0, []) := cd_row ac_321 rfl
set_option maxRecDepth 20000 in
theorem cd_321_768 : cd 321 768 = some (26, 769, 0, 0, 0, []) := cd_row ac_321 rfl
set_option maxRecDepth 20000 in
theorem cd_321_769 : cd 321 769 = some (46, 772, 142, 4, 9, []) := cd_row ac_321 rfl
set_option maxRecDepth 20000 in
theorem cd_321_772 : cd 321 772 = some (19, 773, 0, 0, 0, []) := cd_row ac_321 rfl
set_option maxRecDepth 20000 in
theorem cd_321_773 : cd 321 773 = some (4, 774, 2, 0, 0, []) := cd_row ac_321 rfl
set_option maxRecDepth 20000 in
theorem cd_321_774 : cd 321 774 = some (4, 775, 0, 0, 0, []) := cd_row ac_321 rfl
set_option maxRecDepth 20000 in
theorem cd_321_775 : cd 321 775 = some (2, 776, 3, 0, 0, []) := cd_row ac_321 rfl
set_option maxRecDepth 20000 in
theorem cd_321_776 : cd 321 776 = some (0, 777, 0, 0, 1, []) := cd_row ac_321 rfl
set_option maxRecDepth 20000 in
theorem cd_321_777 : cd 321 777 = some (9, 778, 0, 0, 0, []) := cd_row ac_321 rfl
set_option maxRecDepth 20000 in
theorem cd_321_778 : cd 321 778 = some (26, 779, 0, 0, 0, []) := cd_row ac_321 rfl
set_option maxRecDepth 20000 in
theorem cd_321_779 : cd 321 779 = some (4, 780, 0, 0, 0, []) := cd_row ac_321 rfl
set_option maxRecDepth 20000 in
theorem cd_321_780 : cd 321 780 = some (2, 781, 3, 0, 0, []) := cd_row ac_321 rfl
set_option maxRecDepth 20000 in
theorem cd_321_781 : cd 321 781 = some (0, 782, 0, 0, 2, []) := cd_row ac_321 rfl
set_option maxRecDepth 20000 in
theorem cd_321_782 : cd 321 782 = some (9, 783, 0, 0, 0, []) := cd_row ac_321 rfl
set_option maxRecDepth 20000 in
theorem cd_321_783 : cd 321 783 = some (26, 784, 0, 0, 0, []) := cd_row ac_321 rfl
set_option maxRecDepth 20000 in
theorem cd_321_784 : cd 321 784 = some (20, 787, 791, 0, 0, []) := cd_row ac_321 rfl
set_option maxRecDepth 20000 in
theorem cd_321_787 : cd 321 787 = some (0, 788, 0, 0, 1, []) := cd_row ac_321 rfl
set_option maxRecDepth 20000 in
theorem cd_321_788 : cd 321 788 = some (22, 791, 792, 0, 0, []) := cd_row ac_321 rfl
set_option maxRecDepth 20000 in
theorem cd_321_791 : cd 321 791 = some (0, 792, 0, 0, 0, []) := cd_row ac_321 rfl
set_option maxRecDepth 20000 in
theorem cd_321_792 : cd 321 792 = some (4, 793, 0, 0, 0, []) := cd_row ac_321 rfl
set_option maxRecDepth 20000 in
theorem cd_321_793 : cd 321 793 = some (2, 794, 3, 0, 0, []) := cd_row ac_321 rfl
set_option maxRecDepth 20000 in
theorem cd_321_794 : cd 321 794 = some (0, 795, 0, 0, 3, []) := cd_row ac_321 rfl
set_option maxRecDepth 20000 in
theorem cd_321_795 : cd 321 795 = some (9, 796, 0, 0, 0, []) := cd_row ac_321 rfl
set_option maxRecDepth 20000 in
theorem cd_321_796 : cd 321 796 = some (26, 797, 0, 0, 0, []) := cd_row ac_321 rfl
set_option maxRecDepth 20000 in
theorem cd_321_797 : cd 321 797 = some (46, 800, 273, 4, 10, []) := cd_row ac_321 rfl
set_option maxRecDepth 20000 in
theorem cd_321_800 : cd 321 800 = some (19, 801, 0, 0, 0, []) := cd_row ac_321 rfl
set_option maxRecDepth 20000 in
theorem cd_321_801 : cd 321 801 = some (22, 804, 1539, 0, 0, []) := cd_row ac_321 rfl
set_option maxRecDepth 20000 in
theorem cd_321_804 : cd 321 804 = some (4, 805, 1, 0, 0, []) := cd_row ac_321 rfl
set_option maxRecDepth 20000 in
theorem cd_321_805 : cd 321 805 = some (4, 806, 0, 0, 0, []) := cd_row ac_321 rfl
set_option maxRecDepth 20000 in
theorem cd_321_806 : cd 321 806 = some (2, 807, 3, 0, 0, []) := cd_row ac_321 rfl
set_option maxRecDepth 20000 in
theorem cd_321_807 : cd 321 807 = some (0, 808, 0, 0, 1, []) := cd_row ac_321 rfl
set_option maxRecDepth 20000 in
theorem cd_321_808 : cd 321 808 = some (9, 809, 0, 0, 0, []) := cd_row ac_321 rfl
set_option maxRecDepth 20000 in
theorem cd_321_809 : cd 321 809 = some (26, 810, 0, 0, 0, []) := cd_row ac_321 rfl
set_option maxRecDepth 20000 in
theorem cd_321_810 : cd 321 810 = some (46, 813, 143, 2, 9, []) := cd_row ac_321 rfl
set_option maxRecDepth 20000 in
theorem cd_321_813 : cd 321 813 = some (19, 814, 0, 0, 0, []) := cd_row ac_321 rfl
set_option maxRecDepth 20000 in
theorem cd_321_814 : cd 321 814 = some (4, 815, 2, 0, 0, []) := cd_row ac_321 rfl
set_option maxRecDepth 20000 in
theorem cd_321_815 : cd 321 815 = some (4, 816, 0, 0, 0, []) := cd_row ac_321 rfl
set_option maxRecDepth 20000 in
theorem cd_321_816 : cd 321 816 = some (2, 817, 3, 0, 0, []) := cd_row ac_321 rfl
set_option maxRecDepth 20000 in
theorem cd_321_817 : cd 321 817 = some (0, 818, 0, 0, 1, []) := cd_row ac_321 rfl
set_option maxRecDepth 20000 in
theorem cd_321_818 : cd 321 818 = some (9, 819, 0, 0, 0, []) := cd_row ac_321 rfl
set_option maxRecDepth 20000 in
theorem cd_321_819 : cd 321 819 = some (26, 820, 0, 0, 0, []) := cd_row ac_321 rfl
set_option maxRecDepth 20000 in
theorem cd_321_820 : cd 321 820 = some (46, 823, 276, 2, 10, []) := cd_row ac_321 rfl
set_option maxRecDepth 20000 in
theorem cd_321_823 : cd 321 823 = some (19, 824, 0, 0, 0, []) := cd_row ac_321 rfl
set_option maxRecDepth 20000 in
theorem cd_321_824 : cd 321 824 = some (22, 827, 1539, 0, 0, []) := cd_row ac_321 rfl
set_option maxRecDepth 20000 in
theorem cd_321_827 : cd 321 827 = some (4, 828, 1, 0, 0, []) := cd_row ac_321 rfl
set_option maxRecDepth 20000 in
theorem cd_321_828 : cd 321 828 = some (4, 829, 0, 0, 0, []) := cd_row ac_321 rfl
set_option maxRecDepth 20000 in
theorem cd_321_829 : cd 321 829 = some (2, 830, 3, 0, 0, []) := cd_row ac_321 rfl
set_option maxRecDepth 20000 in
theorem cd_321_830 : cd 321 830 = some (0, 831, 0, 0, 1, []) := cd_row ac_321 rfl
set_option maxRecDepth 20000 in
theorem cd_321_831 : cd 321 831 = some (9, 832, 0, 0, 0, []) := cd_row ac_321 rfl
set_option maxRecDepth 20000 in
theorem cd_321_832 : cd 321 832 = some (26, 833, 0, 0, 0, []) := cd_row ac_321 rfl
set_option maxRecDepth 20000 in
theorem cd_321_833 : cd 321 833 = some (46, 836, 144, 2, 9, []) := cd_row ac_321 rfl
set_option maxRecDepth 20000 in
theorem cd_321_836 : cd 321 836 = some (19, 837, 0, 0, 0, []) := cd_row ac_321 rfl
set_option maxRecDepth 20000 in
theorem cd_321_837 : cd 321 837 = some (4, 838, 2, 0, 0, []) := cd_row ac_321 rfl
set_option maxRecDepth 20000 in
theorem cd_321_838 : cd 321 838 = some (4, 839, 0, 0, 0, []) := cd_row ac_321 rfl
set_option maxRecDepth 20000 in
theorem cd_321_839 : cd 321 839 = some (2, 840, 3, 0, 0, []) := cd_row ac_321 rfl
set_option maxRecDepth 20000 in
theorem cd_321_840 : cd 321 840 = some (0, 841, 0, 0, 1, []) := cd_row ac_321 rfl
set_option maxRecDepth 20000 in
theorem cd_321_841 : cd 321 841 = some (9, 842, 0, 0, 0, []) := cd_row ac_321 rfl
set_option maxRecDepth 20000 in
theorem cd_321_842 : cd 321 842 = some (26, 843, 0, 0, 0, []) := cd_row ac_321 rfl
set_option maxRecDepth 20000 in
theorem cd_321_843 : cd 321 843 = some (46, 846, 278, 2, 10, []) := cd_row ac_321 rfl
set_option maxRecDepth 20000 in
theorem cd_321_846 : cd 321 846 = some (19, 847, 0, 0, 0, []) := cd_row ac_321 rfl
set_option maxRecDepth 20000 in
theorem cd_321_847 : cd 321 847 = some (22, 850, 1539, 0, 0, []) := cd_row ac_321 rfl
set_option maxRecDepth 20000 in
theorem cd_321_850 : cd 321 850 = some (4, 851, 1, 0, 0, []) := cd_row ac_321 rfl
set_option maxRecDepth 20000 in
theorem cd_321_851 : cd 321 851 = some (4, 852, 0, 0, 0, []) := cd_row ac_321 rfl
set_option maxRecDepth 20000 in
theorem cd_321_852 : cd 321 852 = some (2, 853, 3, 0, 0, []) := cd_row ac_321 rfl
set_option maxRecDepth 20000 in
theorem cd_321_853 : cd 321 853 = some (0, 854, 0, 0, 1, []) := cd_row ac_321 rfl
set_option maxRecDepth 20000 in
theorem cd_321_854 : cd 321 854 = some (9, 855, 0, 0, 0, []) := cd_row ac_321 rfl
set_option maxRecDepth 20000 in
theorem cd_321_855 : cd 321 855 = some (26, 856, 0, 0, 0, []) := cd_row ac_321 rfl
set_option maxRecDepth 20000 in
theorem cd_321_856 : cd 321 856 = some (46, 859, 145, 2, 9, []) := cd_row ac_321 rfl
set_option maxRecDepth 20000 in
theorem cd_321_859 : cd 321 859 = some (19, 860, 0, 0, 0, []) := cd_row ac_321 rfl
set_option maxRecDepth 20000 in
theorem cd_321_860 : cd 321 860 = some (4, 861, 2, 0, 0, []) := cd_row ac_321 rfl
set_option maxRecDepth 20000 in
theorem cd_321_861 : cd 321 861 = some (4, 862, 0, 0, 0, []) := cd_row ac_321 rfl
set_option maxRecDepth 20000 in
theorem cd_321_862 : cd 321 862 = some (2, 863, 3, 0, 0, []) := cd_row ac_321 rfl
set_option maxRecDepth 20000 in
theorem cd_321_863 : cd 321 863 = some (0, 864, 0, 0, 1, []) := cd_row ac_321 rfl
set_option maxRecDepth 20000 in
theorem cd_321_864 : cd 321 864 = some (9, 865, 0, 0, 0, []) := cd_row ac_321 rfl
set_option maxRecDepth 20000 in
theorem cd_321_865 : cd 321 865 = some (26, 866, 0, 0, 0, []) := cd_row ac_321 rfl
set_option maxRecDepth 20000 in
theorem cd_321_866 : cd 321 866 = some (46, 869, 279, 2, 10, []) := cd_row ac_321 rfl
set_option maxRecDepth 20000 in
theorem cd_321_869 : cd 321 869 = some (19, 870, 0, 0, 0, []) := cd_row ac_321 rfl
set_option maxRecDepth 20000 in
theorem cd_321_870 : cd 321 870 = some (22, 873, 1539, 0, 0, []) := cd_row ac_321 rfl
set_option maxRecDepth 20000 in
theorem cd_321_873 : cd 321 873 = some (4, 874, 1, 0, 0, []) := cd_row ac_321 rfl
set_option maxRecDepth 20000 in
theorem cd_321_874 : cd 321 874 = some (4, 875, 0, 0, 0, []) := cd_row ac_321 rfl
set_option maxRecDepth 20000 in
theorem cd_321_875 : cd 321 875 = some (2, 876, 3, 0, 0, []) := cd_row ac_321 rfl
set_option maxRecDepth 20000 in
theorem cd_321_876 : cd 321 876 = some (0, 877, 0, 0, 1, []) := cd_row ac_321 rfl
set_option maxRecDepth 20000 in
theorem cd_321_877 : cd 321 877 = some (9, 878, 0, 0, 0, []) := cd_row ac_321 rfl
set_option maxRecDepth 20000 in
theorem cd_321_878 : cd 321 878 = some (26, 879, 0, 0, 0, []) := cd_row ac_321 rfl
set_option maxRecDepth 20000 in
theorem cd_321_879 : cd 321 879 = some (4, 880, 0, 0, 0, []) := cd_row ac_321 rfl
set_option maxRecDepth 20000 in
theorem cd_321_880 : cd 321 880 = some (2, 881, 3, 0, 0, []) := cd_row ac_321 rfl
set_option maxRecDepth 20000 in
theorem cd_321_881 : cd 321 881 = some (0, 882, 0, 0, 2, []) := cd_row ac_321 rfl
set_option maxRecDepth 20000 in
theorem cd_321_882 : cd 321 882 = some (9, 883, 0, 0, 0, []) := cd_row ac_321 rfl
set_option maxRecDepth 20000 in
theorem cd_321_883 : cd 321 883 = some (26, 884, 0, 0, 0, []) := cd_row ac_321 rfl
set_option maxRecDepth 20000 in
theorem cd_321_884 : cd 321 884 = some (4, 885, 0, 0, 0, []) := cd_row ac_321 rfl
set_option maxRecDepth 20000 in
theorem cd_321_885 : cd 321 885 = some (2, 886, 3, 0, 0, []) := cd_row ac_321 rfl
set_option maxRecDepth 20000 in
theorem cd_321_886 : cd 321 886 = some (0, 887, 0, 0, 3, []) := cd_row ac_321 rfl
set_option maxRecDepth 20000 in
theorem cd_321_887 : cd 321 887 = some (9, 888, 0, 0, 0, []) := cd_row ac_321 rfl
set_option maxRecDepth 20000 in
theorem cd_321_888 : cd 321 888 = some (26, 889, 0, 0, 0, []) := cd_row ac_321 rfl
set_option maxRecDepth 20000 in
theorem cd_321_889 : cd 321 889 = some (20, 892, 896, 0, 0, []) := cd_row ac_321 rfl
set_option maxRecDepth 20000 in
theorem cd_321_892 : cd 321 892 = some (0, 893, 0, 0, 1, []) := cd_row ac_321 rfl
set_option maxRecDepth 20000 in
theorem cd_321_893 : cd 321 893 = some (22, 896, 897, 0, 0, []) := cd_row ac_321 rfl
set_option maxRecDepth 20000 in
theorem cd_321_896 : cd 321 896 = some (0, 897, 0, 0, 0, []) := cd_row ac_321 rfl
set_option maxRecDepth 20000 in
theorem cd_321_897 : cd 321 897 = some (46, 900, 146, 4, 9, []) := cd_row ac_321 rfl
set_option maxRecDepth 20000 in
theorem cd_321_900 : cd 321 900 = some (55, 901, 0, 0, 0, []) := cd_row ac_321 rfl
set_option maxRecDepth 20000 in
theorem cd_321_901 : cd 321 901 = some (4, 902, 2, 0, 0, []) := cd_row ac_321 rfl
set_option maxRecDepth 20000 in
theorem cd_321_902 : cd 321 902 = some (4, 903, 0, 0, 0, []) := cd_row ac_321 rfl
set_option maxRecDepth 20000 in
theorem cd_321_903 : cd 321 903 = some (2, 904, 3, 0, 0, []) := cd_row ac_321 rfl
set_option maxRecDepth 20000 in
theorem cd_321_904 : cd 321 904 = some (0, 905, 0, 0, 1, []) := cd_row ac_321 rfl
set_option maxRecDepth 20000 in
theorem cd_321_905 : cd 321 905 = some (9, 906, 0, 0, 0, []) := cd_row ac_321 rfl
set_option maxRecDepth 20000 in
theorem cd_321_906 : cd 321 906 = some (26, 907, 0, 0, 0, []) := cd_row ac_321 rfl
set_option maxRecDepth 20000 in
theorem cd_321_907 : cd 321 907 = some (4, 908, 0, 0, 0, []) := cd_row ac_321 rfl
set_option maxRecDepth 20000 in
theorem cd_321_908 : cd 321 908 = some (2, 909, 3, 0, 0, []) := cd_row ac_321 rfl
set_option maxRecDepth 20000 in
theorem cd_321_909 : cd 321 909 = some (0, 910, 0, 0, 2, []) := cd_row ac_321 rfl
set_option maxRecDepth 20000 in
theorem cd_321_910 : cd 321 910 = some (9, 911, 0, 0, 0, []) := cd_row ac_321 rfl
set_option maxRecDepth 20000 in
theorem cd_321_911 : cd 321 911 = some (26, 912, 0, 0, 0, []) := cd_row ac_321 rfl
set_option maxRecDepth 20000 in
theorem cd_321_912 : cd 321 912 = some (4, 913, 0, 0, 0, []) := cd_row ac_321 rfl
set_option maxRecDepth 20000 in
theorem cd_321_913 : cd 321 913 = some (2, 914, 3, 0, 0, []) := cd_row ac_321 rfl
set_option maxRecDepth 20000 in
theorem cd_321_914 : cd 321 914 = some (0, 915, 0, 0, 3, []) := cd_row ac_321 rfl
set_option maxRecDepth 20000 in
theorem cd_321_915 : cd 321 915 = some (9, 916, 0, 0, 0, []) := cd_row ac_321 rfl
set_option maxRecDepth 20000 in
theorem cd_321_916 : cd 321 916 = some (26, 917, 0, 0, 0, []) := cd_row ac_321 rfl
set_option maxRecDepth 20000 in
theorem cd_321_917 : cd 321 917 = some (20, 920, 924, 0, 0, []) := cd_row ac_321 rfl
set_option maxRecDepth 20000 in
theorem cd_321_920 : cd 321 920 = some (0, 921, 0, 0, 1, []) := cd_row ac_321 rfl
set_option maxRecDepth 20000 in
theorem cd_321_921 : cd 321 921 = some (22, 924, 925, 0, 0, []) := cd_row ac_321 rfl
set_option maxRecDepth 20000 in
theorem cd_321_924 : cd 321 924 = some (0, 925, 0, 0, 0, []) := cd_row ac_321 rfl
set_option maxRecDepth 20000 in
theorem cd_321_925 : cd 321 925 = some (46, 928, 280, 4, 10, []) := cd_row ac_321 rfl
set_option maxRecDepth 20000 in
theorem cd_321_928 : cd 321 928 = some (55, 929, 0, 0, 0, []) := cd_row ac_321 rfl
set_option maxRecDepth 20000 in
theorem cd_321_929 : cd 321 929 = some (22, 932, 1539, 0, 0, []) := cd_row ac_321 rfl
set_option maxRecDepth 20000 in
theorem cd_321_932 : cd 321 932 = some (4, 933, 1, 0, 0, []) := cd_row ac_321 rfl
set_option maxRecDepth 20000 in
theorem cd_321_933 : cd 321 933 = some (4, 934, 0, 0, 0, []) := cd_row ac_321 rfl
set_option maxRecDepth 20000 in
theorem cd_321_934 : cd 321 934 = some (2, 935, 3, 0, 0, []) := cd_row ac_321 rfl
set_option maxRecDepth 20000 in
theorem cd_321_935 : cd 321 935 = some (0, 936, 0, 0, 1, []) := cd_row ac_321 rfl
set_option maxRecDepth 20000 in
theorem cd_321_936 : cd 321 936 = some (9, 937, 0, 0, 0, []) := cd_row ac_321 rfl
set_option maxRecDepth 20000 in
theorem cd_321_937 : cd 321 937 = some (26, 938, 0, 0, 0, []) := cd_row ac_321 rfl
set_option maxRecDepth 20000 in
theorem cd_321_938 : cd 321 938 = some (4, 939, 0, 0, 0, []) := cd_row ac_321 rfl
set_option maxRecDepth 20000 in
theorem cd_321_939 : cd 321 939 = some (2, 940, 3, 0, 0, []) := cd_row ac_321 rfl
set_option maxRecDepth 20000 in
theorem cd_321_940 : cd 321 940 = some (0, 941, 0, 0, 2, []) := cd_row ac_321 rfl
set_option maxRecDepth 20000 in
theorem cd_321_941 : cd 321 941 = some (9, 942, 0, 0, 0, []) := cd_row ac_321 rfl
set_option maxRecDepth 20000 in
theorem cd_321_942 : cd 321 942 = some (26, 943, 0, 0, 0, []) := cd_row ac_321 rfl
set_option maxRecDepth 20000 in
theorem cd_321_943 : cd 321 943 = some (46, 946, 147, 3, 9, []) := cd_row ac_321 rfl
set_option maxRecDepth 20000 in
theorem cd_321_946 : cd 321 946 = some (19, 947, 0, 0, 0, []) := cd_row ac_321 rfl
set_option maxRecDepth 20000 in
theorem cd_321_947 : cd 321 947 = some (4, 948, 2, 0, 0, []) := cd_row ac_321 rfl
set_option maxRecDepth 20000 in
theorem cd_321_948 : cd 321 948 = some (4, 949, 0, 0, 0, []) := cd_row ac_321 rfl
set_option maxRecDepth 20000 in
theorem cd_321_949 : cd 321 949 = some (2, 950, 3, 0, 0, []) := cd_row ac_321 rfl
set_option maxRecDepth 20000 in
theorem cd_321_950 : cd 321 950 = some (0, 951, 0, 0, 1, []) := cd_row ac_321 rfl
set_option maxRecDepth 20000 in
theorem cd_321_951 : cd 321 951 = some (9, 952, 0, 0, 0, []) := cd_row ac_321 rfl
set_option maxRecDepth 20000 in
theorem cd_321_952 : cd 321 952 = some (26, 953, 0, 0, 0, []) := cd_row ac_321 rfl
set_option maxRecDepth 20000 in
theorem cd_321_953 : cd 321 953 = some (4, 954, 0, 0, 0, []) := cd_row ac_321 rfl
set_option maxRecDepth 20000 in
theorem cd_321_954 : cd 321 954 = some (2, 955, 3, 0, 0, []) := cd_row ac_321 rfl
set_option maxRecDepth 20000 in
theorem cd_321_955 : cd 321 955 = some (0, 956, 0, 0, 2, []) := cd_row ac_321 rfl
set_option maxRecDepth 20000 in
theorem cd_321_956 : cd 321 956 = some (9, 957, 0, 0, 0, []) := cd_row ac_321 rfl
set_option maxRecDepth 20000 in
theorem cd_321_957 : cd 321 957 = some (26, 958, 0, 0, 0, []) := cd_row ac_321 rfl
set_option maxRecDepth 20000 in
theorem cd_321_958 : cd 321 958 = some (46, 961, 283, 3, 10, []) := cd_row ac_321 rfl
set_option maxRecDepth 20000 in
theorem cd_321_961 : cd 321 961 = some (19, 962, 0, 0, 0, []) := cd_row ac_321 rfl
set_option maxRecDepth 20000 in
theorem cd_321_962 : cd 321 962 = some (22, 965, 1539, 0, 0, []) := cd_row ac_321 rfl
set_option maxRecDepth 20000 in
theorem cd_321_965 : cd 321 965 = some (4, 966, 1, 0, 0, []) := cd_row ac_321 rfl
set_option maxRecDepth 20000 in
theorem cd_321_966 : cd 321 966 = some (4, 967, 0, 0, 0, []) := cd_row ac_321 rfl
set_option maxRecDepth 20000 in
theorem cd_321_967 : cd 321 967 = some (2, 968, 3, 0, 0, []) := cd_row ac_321 rfl
set_option maxRecDepth 20000 in
theorem cd_321_968 : cd 321 968 = some (0, 969, 0, 0, 1, []) := cd_row ac_321 rfl
set_option maxRecDepth 20000 in
theorem cd_321_969 : cd 321 969 = some (9, 970, 0, 0, 0, []) := cd_row ac_321 rfl
set_option maxRecDepth 20000 in
theorem cd_321_970 : cd 321 970 = some (26, 971, 0, 0, 0, []) := cd_row ac_321 rfl
set_option maxRecDepth 20000 in
theorem cd_321_971 : cd 321 971 = some (46, 974, 148, 2, 9, []) := cd_row ac_321 rfl
set_option maxRecDepth 20000 in
theorem cd_321_974 : cd 321 974 = some (19, 975, 0, 0, 0, []) := cd_row ac_321 rfl
set_option maxRecDepth 20000 in
theorem cd_321_975 : cd 321 975 = some (4, 976, 2, 0, 0, []) := cd_row ac_321 rfl
set_option maxRecDepth 20000 in
theorem cd_321_976 : cd 321 976 = some (4, 977, 0, 0, 0, []) := cd_row ac_321 rfl
set_option maxRecDepth 20000 in
theorem cd_321_977 : cd 321 977 = some (2, 978, 3, 0, 0, []) := cd_row ac_321 rfl
set_option maxRecDepth 20000 in
theorem cd_321_978 : cd 321 978 = some (0, 979, 0, 0, 1, []) := cd_row ac_321 rfl
set_option maxRecDepth 20000 in
theorem cd_321_979 : cd 321 979 = some (9, 980, 0, 0, 0, []) := cd_row ac_321 rfl
set_option maxRecDepth 20000 in
theorem cd_321_980 : cd 321 980 = some (26, 981, 0, 0, 0, []) := cd_row ac_321 rfl
set_option maxRecDepth 20000 in
theorem cd_321_981 : cd 321 981 = some (46, 984, 284, 2, 10, []) := cd_row ac_321 rfl
set_option maxRecDepth 20000 in
theorem cd_321_984 : cd 321 984 = some (19, 985, 0, 0, 0, []) := cd_row ac_321 rfl
set_option maxRecDepth 20000 in
theorem cd_321_985 : cd 321 985 = some (22, 988, 1539, 0, 0, []) := cd_row ac_321 rfl
set_option maxRecDepth 20000 in
theorem cd_321_988 : cd 321 988 = some (4, 989, 1, 0, 0, []) := cd_row ac_321 rfl
set_option maxRecDepth 20000 in
theorem cd_321_989 : cd 321 989 = some (46, 992, 150, 1, 9, []) := cd_row ac_321 rfl
set_option maxRecDepth 20000 in
theorem cd_321_992 : cd 321 992 = some (19, 993, 0, 0, 0, []) := cd_row ac_321 rfl
set_option maxRecDepth 20000 in
theorem cd_321_993 : cd 321 993 = some (4, 994, 2, 0, 0, []) := cd_row ac_321 rfl
set_option maxRecDepth 20000 in
theorem cd_321_994 : cd 321 994 = some (46, 997, 286, 1, 10, []) := cd_row ac_321 rfl
set_option maxRecDepth 20000 in
theorem cd_321_997 : cd 321 997 = some (19, 998, 0, 0, 0, []) := cd_row ac_321 rfl
set_option maxRecDepth 20000 in
theorem cd_321_998 : cd 321 998 = some (22, 1001, 1539, 0, 0, []) := cd_row ac_321 rfl
set_option maxRecDepth 20000 in
theorem cd_321_1001 : cd 321 1001 = some (4, 1002, 1, 0, 0, []) := cd_row ac_321 rfl
set_option maxRecDepth 20000 in
theorem cd_321_1002 : cd 321 1002 = some (4, 1003, 0, 0, 0, []) := cd_row ac_321 rfl
set_option maxRecDepth 20000 in
theorem cd_321_1003 : cd 321 1003 = some (2, 1004, 3, 0, 0, []) := cd_row ac_321 rfl
set_option maxRecDepth 20000 in
theorem cd_321_1004 : cd 321 1004 = some (0, 1005, 0, 0, 1, []) := cd_row ac_321 rfl
set_option maxRecDepth 20000 in
theorem cd_321_1005 : cd 321 1005 = some (9, 1006, 0, 0, 0, []) := cd_row ac_321 rfl
set_option maxRecDepth 20000 in
theorem cd_321_1006 : cd 321 1006 = some (26, 1007, 0, 0, 0, []) := cd_row ac_321 rfl
set_option maxRecDepth 20000 in
theorem cd_321_1007 : cd 321 1007 = some (4, 1008, 0, 0, 0, []) := cd_row ac_321 rfl
set_option maxRecDepth 20000 in
theorem cd_321_1008 : cd 321 1008 = some (2, 1009, 3, 0, 0, []) := cd_row ac_321 rfl
set_option maxRecDepth 20000 in
theorem cd_321_1009 : cd 321 1009 = some (0, 1010, 0, 0, 2, []) := cd_row ac_321 rfl
set_option maxRecDepth 20000 in
theorem cd_321_1010 : cd 321 1010 = some (9, 1011, 0, 0, 0, []) := cd_row ac_321 rfl
set_option maxRecDepth 20000 in
theorem cd_321_1011 : cd 321 1011 = some (26, 1012, 0, 0, 0, []) := cd_row ac_321 rfl
set_option maxRecDepth 20000 in
theorem cd_321_1012 : cd 321 1012 = some (46, 1015, 152, 3, 9, []) := cd_row ac_321 rfl
set_option maxRecDepth 20000 in
theorem cd_321_1015 : cd 321 1015 = some (19, 1016, 0, 0, 0, []) := cd_row ac_321 rfl
set_option maxRecDepth 20000 in
theorem cd_321_1016 : cd 321 1016 = some (4, 1017, 2, 0, 0, []) := cd_row ac_321 rfl
set_option maxRecDepth 20000 in
theorem cd_321_1017 : cd 321 1017 = some (4, 1018, 0, 0, 0, []) := cd_row ac_321 rfl
set_option maxRecDepth 20000 in
theorem cd_321_1018 : cd 321 1018 = some (2, 1019, 3, 0, 0, []) := cd_row ac_321 rfl
set_option maxRecDepth 20000 in
theorem cd_321_1019 : cd 321 1019 = some (0, 1020, 0, 0, 1, []) := cd_row ac_321 rfl
set_option maxRecDepth 20000 in
theorem cd_321_1020 : cd 321 1020 = some (9, 1021, 0, 0, 0, []) := cd_row ac_321 rfl
set_option maxRecDepth 20000 in
theorem cd_321_1021 : cd 321 1021 = some (26, 1022, 0, 0, 0, []) := cd_row ac_321 rfl
set_option maxRecDepth 20000 in
theorem cd_321_1022 : cd 321 1022 = some (4, 1023, 0, 0, 0, []) := cd_row ac_321 rfl
set_option maxRecDepth 20000 in
theorem cd_321_1023 : cd 321 1023 = some (2, 1024, 3, 0, 0, []) := cd_row ac_321 rfl
set_option maxRecDepth 20000 in
theorem cd_321_1024 : cd 321 1024 = some (0, 1025, 0, 0, 2, []) := cd_row ac_321 rfl
set_option maxRecDepth 20000 in
theorem cd_321_1025 : cd 321 1025 = some (9, 1026, 0, 0, 0, []) := cd_row ac_321 rfl
set_option maxRecDepth 20000 in
theorem cd_321_1026 : cd 321 1026 = some (26, 1027, 0, 0, 0, []) := cd_row ac_321 rfl
set_option maxRecDepth 20000 in
theorem cd_321_1027 : cd 321 1027 = some (46, 1030, 299, 3, 10, []) := cd_row ac_321 rfl
set_option maxRecDepth 20000 in
theorem cd_321_1030 : cd 321 1030 = some (19, 1031, 0, 0, 0, []) := cd_row ac_321 rfl
set_option maxRecDepth 20000 in
theorem cd_321_1031 : cd 321 1031 = some (22, 1034, 1539, 0, 0, []) := cd_row ac_321 rfl
set_option maxRecDepth 20000 in
theorem cd_321_1034 : cd 321 1034 = some (4, 1035, 1, 0, 0, []) := cd_row ac_321 rfl
set_option maxRecDepth 20000 in
theorem cd_321_1035 : cd 321 1035 = some (4, 1036, 0, 0, 0, []) := cd_row ac_321 rfl
set_option maxRecDepth 20000 in
theorem cd_321_1036 : cd 321 1036 = some (2, 1037, 3, 0, 0, []) := cd_row ac_321 rfl
set_option maxRecDepth 20000 in
theorem cd_321_1037 : cd 321 1037 = some (0, 1038, 0, 0, 1, []) := cd_row ac_321 rfl
set_option maxRecDepth 20000 in
theorem cd_321_1038 : cd 321 1038 = some (9, 1039, 0, 0, 0, []) := cd_row ac_321 rfl
set_option maxRecDepth 20000 in
theorem cd_321_1039 : cd 321 1039 = some (26, 1040, 0, 0, 0, []) := cd_row ac_321 rfl
set_option maxRecDepth 20000 in
theorem cd_321_1040 : cd 321 1040 = some (4, 1041, 0, 0, 0, []) := cd_row ac_321 rfl
set_option maxRecDepth 20000 in
theorem cd_321_1041 : cd 321 1041 = some (2, 1042, 3, 0, 0, []) := cd_row ac_321 rfl
set_option maxRecDepth 20000 in
theorem cd_321_1042 : cd 321 1042 = some (0, 1043, 0, 0, 2, []) := cd_row ac_321 rfl
set_option maxRecDepth 20000 in
theorem cd_321_1043 : cd 321 1043 = some (9, 1044, 0, 0, 0, []) := cd_row ac_321 rfl
set_option maxRecDepth 20000 in
theorem cd_321_1044 : cd 321 1044 = some (26, 1045, 0, 0, 0, []) := cd_row ac_321 rfl
set_option maxRecDepth 20000 in
theorem cd_321_1045 : cd 321 1045 = some (4, 1046, 0, 0, 0, []) := cd_row ac_321 rfl
set_option maxRecDepth 20000 in
theorem cd_321_1046 : cd 321 1046 = some (2, 1047, 3, 0, 0, []) := cd_row ac_321 rfl
set_option maxRecDepth 20000 in
theorem cd_321_1047 : cd 321 1047 = some (0, 1048, 0, 0, 3, []) := cd_row ac_321 rfl
set_option maxRecDepth 20000 in
theorem cd_321_1048 : cd 321 1048 = some (9, 1049, 0, 0, 0, []) := cd_row ac_321 rfl
set_option maxRecDepth 20000 in
theorem cd_321_1049 : cd 321 1049 = some (26, 1050, 0, 0, 0, []) := cd_row ac_321 rfl
set_option maxRecDepth 20000 in
theorem cd_321_1050 : cd 321 1050 = some (46, 1053, 153, 4, 9, []) := cd_row ac_321 rfl
set_option maxRecDepth 20000 in
theorem cd_321_1053 : cd 321 1053 = some (19, 1054, 0, 0, 0, []) := cd_row ac_321 rfl
set_option maxRecDepth 20000 in
theorem cd_321_1054 : cd 321 1054 = some (4, 1055, 2, 0, 0, []) := cd_row ac_321 rfl
set_option maxRecDepth 20000 in
theorem cd_321_1055 : cd 321 1055 = some (4, 1056, 0, 0, 0, []) := cd_row ac_321 rfl
set_option maxRecDepth 20000 in
theorem cd_321_1056 : cd 321 1056 = some (2, 1057, 3, 0, 0, []) := cd_row ac_321 rfl
set_option maxRecDepth 20000 in
theorem cd_321_1057 : cd 321 1057 = some (0, 1058, 0, 0, 1, []) := cd_row ac_321 rfl
set_option maxRecDepth 20000 in
theorem cd_321_1058 : cd 321 1058 = some (9, 1059, 0, 0, 0, []) := cd_row ac_321 rfl
set_option maxRecDepth 20000 in
theorem cd_321_1059 : cd 321 1059 = some (26, 1060, 0, 0, 0, []) := cd_row ac_321 rfl
set_option maxRecDepth 20000 in
theorem cd_321_1060 : cd 321 1060 = some (4, 1061, 0, 0, 0, []) := cd_row ac_321 rfl
set_option maxRecDepth 20000 in
theorem cd_321_1061 : cd 321 1061 = some (2, 1062, 3, 0, 0, []) := cd_row ac_321 rfl
set_option maxRecDepth 20000 in
theorem cd_321_1062 : cd 321 1062 = some (0, 1063, 0, 0, 2, []) := cd_row ac_321 rfl
set_option maxRecDepth 20000 in
theorem cd_321_1063 : cd 321 1063 = some (9, 1064, 0, 0, 0, []) := cd_row ac_321 rfl
set_option maxRecDepth 20000 in
theorem cd_321_1064 : cd 321 1064 = some (26, 1065, 0, 0, 0, []) := cd_row ac_321 rfl
set_option maxRecDepth 20000 in
theorem cd_321_1065 : cd 321 1065 = some (4, 1066, 0, 0, 0, []) := cd_row ac_321 rfl
set_option maxRecDepth 20000 in
theorem cd_321_1066 : cd 321 1066 = some (2, 1067, 3, 0, 0, []) := cd_row ac_321 rfl
set_option maxRecDepth 20000 in
theorem cd_321_1067 : cd 321 1067 = some (0, 1068, 0, 0, 3, []) := cd_row ac_321 rfl
set_option maxRecDepth 20000 in
theorem cd_321_1068 : cd 321 1068 = some (9, 1069, 0, 0, 0, []) := cd_row ac_321 rfl
set_option maxRecDepth 20000 in
theorem cd_321_1069 : cd 321 1069 = some (26, 1070, 0, 0, 0, []) := cd_row ac_321 rfl
set_option maxRecDepth 20000 in
theorem cd_321_1070 : cd 321 1070 = some (46, 1073, 292, 4, 10, []) := cd_row ac_321 rfl
set_option maxRecDepth 20000 in
theorem cd_321_1073 : cd 321 1073 = some (19, 1074, 0, 0, 0, []) := cd_row ac_321 rfl
set_option maxRecDepth 20000 in
theorem cd_321_1074 : cd 321 1074 = some (22, 1077, 1539, 0, 0, []) := cd_row ac_321 rfl
set_option maxRecDepth 20000 in
theorem cd_321_1077 : cd 321 1077 = some (4, 1078, 1, 0, 0, []) := cd_row ac_321 rfl
set_option maxRecDepth 20000 in
theorem cd_321_1078 : cd 321 1078 = some (46, 1081, 155, 1, 9, []) := cd_row ac_321 rfl
set_option maxRecDepth 20000 in
theorem cd_321_1081 : cd 321 1081 = some (19, 1082, 0, 0, 0, []) := cd_row ac_321 rfl
set_option maxRecDepth 20000 in
theorem cd_321_1082 : cd 321 1082 = some (4, 1083, 2, 0, 0, []) := cd_row ac_321 rfl
set_option maxRecDepth 20000 in
theorem cd_321_1083 : cd 321 1083 = some (46, 1086, 294, 1, 10, []) := cd_row ac_321 rfl
set_option maxRecDepth 20000 in
theorem cd_321_1086 : cd 321 1086 = some (19, 1087, 0, 0, 0, []) := cd_row ac_321 rfl
set_option maxRecDepth 20000 in
theorem cd_321_1087 : cd 321 1087 = some (22, 1090, 1539, 0, 0, []) := cd_row ac_321 rfl
set_option maxRecDepth 20000 in
theorem cd_321_1090 : cd 321 1090 = some (4, 1091, 1, 0, 0, []) := cd_row ac_321 rfl
set_option maxRecDepth 20000 in
theorem cd_321_1091 : cd 321 1091 = some (46, 1094, 156, 1, 9, []) := cd_row ac_321 rfl
set_option maxRecDepth 20000 in
theorem cd_321_1094 : cd 321 1094 = some (19, 1095, 0, 0, 0, []) := cd_row ac_321 rfl
set_option maxRecDepth 20000 in
theorem cd_321_1095 : cd 321 1095 = some (4, 1096, 2, 0, 0, []) := cd_row ac_321 rfl
set_option maxRecDepth 20000 in
theorem cd_321_1096 : cd 321 1096 = some (46, 1099, 295, 1, 10, []) := cd_row ac_321 rfl
set_option maxRecDepth 20000 in
theorem cd_321_1099 : cd 321 1099 = some (19, 1100, 0, 0, 0, []) := cd_row ac_321 rfl
set_option maxRecDepth 20000 in
theorem cd_321_1100 : cd 321 1100 = some (22, 1103, 1539, 0, 0, []) := cd_row ac_321 rfl
set_option maxRecDepth 20000 in
theorem cd_321_1103 : cd 321 1103 = some (4, 1104, 1, 0, 0, []) := cd_row ac_321 rfl
set_option maxRecDepth 20000 in
theorem cd_321_1104 : cd 321 1104 = some (4, 1105, 0, 0, 0, []) := cd_row ac_321 rfl
set_option maxRecDepth 20000 in
theorem cd_321_1105 : cd 321 1105 = some (2, 1106, 3, 0, 0, []) := cd_row ac_321 rfl
set_option maxRecDepth 20000 in
theorem cd_321_1106 : cd 321 1106 = some (0, 1107, 0, 0, 1, []) := cd_row ac_321 rfl
set_option maxRecDepth 20000 in
theorem cd_321_1107 : cd 321 1107 = some (9, 1108, 0, 0, 0, []) := cd_row ac_321 rfl
set_option maxRecDepth 20000 in
theorem cd_321_1108 : cd 321 1108 = some (26, 1109, 0, 0, 0, []) := cd_row ac_321 rfl
set_option maxRecDepth 20000 in
theorem cd_321_1109 : cd 321 1109 = some (4, 1110, 0, 0, 0, []) := cd_row ac_321 rfl
set_option maxRecDepth 20000 in
theorem cd_321_1110 : cd 321 1110 = some (2, 1111, 3, 0, 0, []) := cd_row ac_321 rfl
set_option maxRecDepth 20000 in
theorem cd_321_1111 : cd 321 1111 = some (0, 1112, 0, 0, 2, []) := cd_row ac_321 rfl
set_option maxRecDepth 20000 in
theorem cd_321_1112 : cd 321 1112 = some (9, 1113, 0, 0, 0, []) := cd_row ac_321 rfl
set_option maxRecDepth 20000 in
theorem cd_321_1113 : cd 321 1113 = some (26, 1114, 0, 0, 0, []) := cd_row ac_321 rfl
set_option maxRecDepth 20000 in
theorem cd_321_1114 : cd 321 1114 = some (4, 1115, 0, 0, 0, []) := cd_row ac_321 rfl
set_option maxRecDepth 20000 in
theorem cd_321_1115 : cd 321 1115 = some (2, 1116, 3, 0, 0, []) := cd_row ac_321 rfl
set_option maxRecDepth 20000 in
theorem cd_321_1116 : cd 321 1116 = some (0, 1117, 0, 0, 3, []) := cd_row ac_321 rfl
set_option maxRecDepth 20000 in
theorem cd_321_1117 : cd 321 1117 = some (9, 1118, 0, 0, 0, []) := cd_row ac_321 rfl
set_option maxRecDepth 20000 in
theorem cd_321_1118 : cd 321 1118 = some (26, 1119, 0, 0, 0, []) := cd_row ac_321 rfl
set_option maxRecDepth 20000 in
theorem cd_321_1119 : cd 321 1119 = some (4, 1120, 0, 0, 0, []) := cd_row ac_321 rfl
set_option maxRecDepth 20000 in
theorem cd_321_1120 : cd 321 1120 = some (2, 1121, 3, 0, 0, []) := cd_row ac_321 rfl
set_option maxRecDepth 20000 in
theorem cd_321_1121 : cd 321 1121 = some (0, 1122, 0, 0, 4, []) := cd_row ac_321 rfl
set_option maxRecDepth 20000 in
theorem cd_321_1122 : cd 321 1122 = some (9, 1123, 0, 0, 0, []) := cd_row ac_321 rfl
set_option maxRecDepth 20000 in
theorem cd_321_1123 : cd 321 1123 = some (26, 1124, 0, 0, 0, []) := cd_row ac_321 rfl
set_option maxRecDepth 20000 in
theorem cd_321_1124 : cd 321 1124 = some (46, 1127, 157, 5, 9, []) := cd_row ac_321 rfl
set_option maxRecDepth 20000 in
theorem cd_321_1127 : cd 321 1127 = some (19, 1128, 0, 0, 0, []) := cd_row ac_321 rfl
set_option maxRecDepth 20000 in
theorem cd_321_1128 : cd 321 1128 = some (4, 1129, 2, 0, 0, []) := cd_row ac_321 rfl
set_option maxRecDepth 20000 in
theorem cd_321_1129 : cd 321 1129 = some (4, 1130, 0, 0, 0, []) := cd_row ac_321 rfl
set_option maxRecDepth 20000 in
theorem cd_321_1130 : cd 321 1130 = some (2, 1131, 3, 0, 0, []) := cd_row ac_321 rfl
set_option maxRecDepth 20000 in
theorem cd_321_1131 : cd 321 1131 = some (0, 1132, 0, 0, 1, []) := cd_row ac_321 rfl
set_option maxRecDepth 20000 in
theorem cd_321_1132 : cd 321 1132 = some (9, 1133, 0, 0, 0, []) := cd_row ac_321 rfl
set_option maxRecDepth 20000 in
theorem cd_321_1133 : cd 321 1133 = some (26, 1134, 0, 0, 0, []) := cd_row ac_321 rfl
set_option maxRecDepth 20000 in
theorem cd_321_1134 : cd 321 1134 = some (4, 1135, 0, 0, 0, []) := cd_row ac_321 rfl
set_option maxRecDepth 20000 in
theorem cd_321_1135 : cd 321 1135 = some (2, 1136, 3, 0, 0, []) := cd_row ac_321 rfl
set_option maxRecDepth 20000 in
theorem cd_321_1136 : cd 321 1136 = some (0, 1137, 0, 0, 2, []) := cd_row ac_321 rfl
set_option maxRecDepth 20000 in
theorem cd_321_1137 : cd 321 1137 = some (9, 1138, 0, 0, 0, []) := cd_row ac_321 rfl
set_option maxRecDepth 20000 in
theorem cd_321_1138 : cd 321 1138 = some (26, 1139, 0, 0, 0, []) := cd_row ac_321 rfl
set_option maxRecDepth 20000 in
theorem cd_321_1139 : cd 321 1139 = some (4, 1140, 0, 0, 0, []) := cd_row ac_321 rfl
set_option maxRecDepth 20000 in
theorem cd_321_1140 : cd 321 1140 = some (2, 1141, 3, 0, 0, []) := cd_row ac_321 rfl
set_option maxRecDepth 20000 in
theorem cd_321_1141 : cd 321 1141 = some (0, 1142, 0, 0, 3, []) := cd_row ac_321 rfl
set_option maxRecDepth 20000 in
theorem cd_321_1142 : cd 321 1142 = some (9, 1143, 0, 0, 0, []) := cd_row ac_321 rfl
set_option maxRecDepth 20000 in
theorem cd_321_1143 : cd 321 1143 = some (26, 1144, 0, 0, 0, []) := cd_row ac_321 rfl
set_option maxRecDepth 20000 in
theorem cd_321_1144 : cd 321 1144 = some (4, 1145, 0, 0, 0, []) := cd_row ac_321 rfl
set_option maxRecDepth 20000 in
theorem cd_321_1145 : cd 321 1145 = some (2, 1146, 3, 0, 0, []) := cd_row ac_321 rfl
set_option maxRecDepth 20000 in
theorem cd_321_1146 : cd 321 1146 = some (0, 1147, 0, 0, 4, []) := cd_row ac_321 rfl
set_option maxRecDepth 20000 in
theorem cd_321_1147 : cd 321 1147 = some (9, 1148, 0, 0, 0, []) := cd_row ac_321 rfl
set_option maxRecDepth 20000 in
theorem cd_321_1148 : cd 321 1148 = some (26, 1149, 0, 0, 0, []) := cd_row ac_321 rfl
set_option maxRecDepth 20000 in
theorem cd_321_1149 : cd 321 1149 = some (46, 1152, 296, 5, 10, []) := cd_row ac_321 rfl
set_option maxRecDepth 20000 in
theorem cd_321_1152 : cd 321 1152 = some (19, 1153, 0, 0, 0, []) := cd_row ac_321 rfl
set_option maxRecDepth 20000 in
theorem cd_321_1153 : cd 321 1153 = some (22, 1156, 1539, 0, 0, []) := cd_row ac_321 rfl
set_option maxRecDepth 20000 in
theorem cd_321_1156 : cd 321 1156 = some (4, 1157, 1, 0, 0, []) := cd_row ac_321 rfl
set_option maxRecDepth 20000 in
theorem cd_321_1157 : cd 321 1157 = some (4, 1158, 0, 0, 0, []) := cd_row ac_321 rfl
set_option maxRecDepth 20000 in
theorem cd_321_1158 : cd 321 1158 = some (2, 1159, 3, 0, 0, []) := cd_row ac_321 rfl
set_option maxRecDepth 20000 in
theorem cd_321_1159 : cd 321 1159 = some (0, 1160, 0, 0, 1, []) := cd_row ac_321 rfl
set_option maxRecDepth 20000 in
theorem cd_321_1160 : cd 321 1160 = some (9, 1161, 0, 0, 0, []) := cd_row ac_321 rfl
set_option maxRecDepth 20000 in
theorem cd_321_1161 : cd 321 1161 = some (26, 1162, 0, 0, 0, []) := cd_row ac_321 rfl
set_option maxRecDepth 20000 in
theorem cd_321_1162 : cd 321 1162 = some (4, 1163, 0, 0, 0, []) := cd_row ac_321 rfl
set_option maxRecDepth 20000 in
theorem cd_321_1163 : cd 321 1163 = some (2, 1164, 3, 0, 0, []) := cd_row ac_321 rfl
set_option maxRecDepth 20000 in
theorem cd_321_1164 : cd 321 1164 = some (0, 1165, 0, 0, 2, []) := cd_row ac_321 rfl
set_option maxRecDepth 20000 in
theorem cd_321_1165 : cd 321 1165 = some (9, 1166, 0, 0, 0, []) := cd_row ac_321 rfl
set_option maxRecDepth 20000 in
theorem cd_321_1166 : cd 321 1166 = some (26, 1167, 0, 0, 0, []) := cd_row ac_321 rfl
set_option maxRecDepth 20000 in
theorem cd_321_1167 : cd 321 1167 = some (20, 1170, 1174, 0, 0, []) := cd_row ac_321 rfl
set_option maxRecDepth 20000 in
theorem cd_321_1170 : cd 321 1170 = some (0, 1171, 0, 0, 1, []) := cd_row ac_321 rfl
set_option maxRecDepth 20000 in
theorem cd_321_1171 : cd 321 1171 = some (22, 1174, 1175, 0, 0, []) := cd_row ac_321 rfl
set_option maxRecDepth 20000 in
theorem cd_321_1174 : cd 321 1174 = some (0, 1175, 0, 0, 0, []) := cd_row ac_321 rfl
set_option maxRecDepth 20000 in
theorem cd_321_1175 : cd 321 1175 = some (46, 1178, 158, 3, 9, []) := cd_row ac_321 rfl
set_option maxRecDepth 20000 in
theorem cd_321_1178 : cd 321 1178 = some (19, 1179, 0, 0, 0, []) := cd_row ac_321 rfl
set_option maxRecDepth 20000 in
theorem cd_321_1179 : cd 321 1179 = some (4, 1180, 2, 0, 0, []) := cd_row ac_321 rfl
set_option maxRecDepth 20000 in
theorem cd_321_1180 : cd 321 1180 = some (4, 1181, 0, 0, 0, []) := cd_row ac_321 rfl
set_option maxRecDepth 20000 in
theorem cd_321_1181 : cd 321 1181 = some (2, 1182, 3, 0, 0, []) := cd_row ac_321 rfl
set_option maxRecDepth 20000 in
theorem cd_321_1182 : cd 321 1182 = some (0, 1183, 0, 0, 1, []) := cd_row ac_321 rfl
set_option maxRecDepth 20000 in
theorem cd_321_1183 : cd 321 1183 = some (9, 1184, 0, 0, 0, []) := cd_row ac_321 rfl
set_option maxRecDepth 20000 in
theorem cd_321_1184 : cd 321 1184 = some (26, 1185, 0, 0, 0, []) := cd_row ac_321 rfl
set_option maxRecDepth 20000 in
theorem cd_321_1185 : cd 321 1185 = some (4, 1186, 0, 0, 0, []) := cd_row ac_321 rfl
set_option maxRecDepth 20000 in
theorem cd_321_1186 : cd 321 1186 = some (2, 1187, 3, 0, 0, []) := cd_row ac_321 rfl
set_option maxRecDepth 20000 in
theorem cd_321_1187 : cd 321 1187 = some (0, 1188, 0, 0, 2, []) := cd_row ac_321 rfl
set_option maxRecDepth 20000 in
theorem cd_321_1188 : cd 321 1188 = some (9, 1189, 0, 0, 0, []) := cd_row ac_321 rfl
set_option maxRecDepth 20000 in
theorem cd_321_1189 : cd 321 1189 = some (26, 1190, 0, 0, 0, []) := cd_row ac_321 rfl
set_option maxRecDepth 20000 in
theorem cd_321_1190 : cd 321 1190 = some (20, 1193, 1197, 0, 0, []) := cd_row ac_321 rfl
set_option maxRecDepth 20000 in
theorem cd_321_1193 : cd 321 1193 = some (0, 1194, 0, 0, 1, []) := cd_row ac_321 rfl
set_option maxRecDepth 20000 in
theorem cd_321_1194 : cd 321 1194 = some (22, 1197, 1198, 0, 0, []) := cd_row ac_321 rfl
set_option maxRecDepth 20000 in
theorem cd_321_1197 : cd 321 1197 = some (0, 1198, 0, 0, 0, []) := cd_row ac_321 rfl
set_option maxRecDepth 20000 in
theorem cd_321_1198 : cd 321 1198 = some (46, 1201, 298, 3, 10, []) := cd_row ac_321 rfl
set_option maxRecDepth 20000 in
theorem cd_321_1201 : cd 321 1201 = some (19, 1202, 0, 0, 0, []) := cd_row ac_321 rfl
set_option maxRecDepth 20000 in
theorem cd_321_1202 : cd 321 1202 = some (22, 1205, 1539, 0, 0, []) := cd_row ac_321 rfl
set_option maxRecDepth 20000 in
theorem cd_321_1205 : cd 321 1205 = some (4, 1206, 1, 0, 0, []) := cd_row ac_321 rfl
set_option maxRecDepth 20000 in
theorem cd_321_1206 : cd 321 1206 = some (4, 1207, 0, 0, 0, []) := cd_row ac_321 rfl
set_option maxRecDepth 20000 in
theorem cd_321_1207 : cd 321 1207 = some (2, 1208, 3, 0, 0, []) := cd_row ac_321 rfl
set_option maxRecDepth 20000 in
theorem cd_321_1208 : cd 321 1208 = some (0, 1209, 0, 0, 1, []) := cd_row ac_321 rfl
set_option maxRecDepth 20000 in
theorem cd_321_1209 : cd 321 1209 = some (9, 1210, 0, 0, 0, []) := cd_row ac_321 rfl
set_option maxRecDepth 20000 in
theorem cd_321_1210 : cd 321 1210 = some (26, 1211, 0, 0, 0, []) := cd_row ac_321 rfl
set_option maxRecDepth 20000 in
theorem cd_321_1211 : cd 321 1211 = some (46, 1214, 159, 2, 9, []) := cd_row ac_321 rfl
set_option maxRecDepth 20000 in
theorem cd_321_1214 : cd 321 1214 = some (19, 1215, 0, 0, 0, []) := cd_row ac_321 rfl
set_option maxRecDepth 20000 in
theorem cd_321_1215 : cd 321 1215 = some (4, 1216, 2, 0, 0, []) := cd_row ac_321 rfl
set_option maxRecDepth 20000 in
theorem cd_321_1216 : cd 321 1216 = some (4, 1217, 0, 0, 0, []) := cd_row ac_321 rfl
set_option maxRecDepth 20000 in
theorem cd_321_1217 : cd 321 1217 = some (2, 1218, 3, 0, 0, []) := cd_row ac_321 rfl
set_option maxRecDepth 20000 in
theorem cd_321_1218 : cd 321 1218 = some (0, 1219, 0, 0, 1, []) := cd_row ac_321 rfl
set_option maxRecDepth 20000 in
theorem cd_321_1219 : cd 321 1219 = some (9, 1220, 0, 0, 0, []) := cd_row ac_321 rfl
set_option maxRecDepth 20000 in
theorem cd_321_1220 : cd 321 1220 = some (26, 1221, 0, 0, 0, []) := cd_row ac_321 rfl
set_option maxRecDepth 20000 in
theorem cd_321_1221 : cd 321 1221 = some (46, 1224, 300, 2, 10, []) := cd_row ac_321 rfl
set_option maxRecDepth 20000 in
theorem cd_321_1224 : cd 321 1224 = some (19, 1225, 0, 0, 0, []) := cd_row ac_321 rfl
set_option maxRecDepth 20000 in
theorem cd_321_1225 : cd 321 1225 = some (22, 1228, 1539, 0, 0, []) := cd_row ac_321 rfl
set_option maxRecDepth 20000 in
theorem cd_321_1228 : cd 321 1228 = some (4, 1229, 1, 0, 0, []) := cd_row ac_321 rfl
set_option maxRecDepth 20000 in
theorem cd_321_1229 : cd 321 1229 = some (46, 1232, 160, 1, 9, []) := cd_row ac_321 rfl
set_option maxRecDepth 20000 in
theorem cd_321_1232 : cd 321 1232 = some (19, 1233, 0, 0, 0, []) := cd_row ac_321 rfl
set_option maxRecDepth 20000 in
theorem cd_321_1233 : cd 321 1233 = some (4, 1234, 2, 0, 0, []) := cd_row ac_321 rfl
set_option maxRecDepth 20000 in
theorem cd_321_1234 : cd 321 1234 = some (46, 1237, 301, 1, 10, []) := cd_row ac_321 rfl
set_option maxRecDepth 20000 in
theorem cd_321_1237 : cd 321 1237 = some (19, 1238, 0, 0, 0, []) := cd_row ac_321 rfl
set_option maxRecDepth 20000 in
theorem cd_321_1238 : cd 321 1238 = some (22, 1241, 1539, 0, 0, []) := cd_row ac_321 rfl
set_option maxRecDepth 20000 in
theorem cd_321_1241 : cd 321 1241 = some (4, 1242, 1, 0, 0, []) := cd_row ac_321 rfl
set_option maxRecDepth 20000 in
theorem cd_321_1242 : cd 321 1242 = some (4, 1243, 0, 0, 0, []) := cd_row ac_321 rfl
set_option maxRecDepth 20000 in
theorem cd_321_1243 : cd 321 1243 = some (2, 1244, 3, 0, 0, []) := cd_row ac_321 rfl
set_option maxRecDepth 20000 in
theorem cd_321_1244 : cd 321 1244 = some (0, 1245, 0, 0, 1, []) := cd_row ac_321 rfl
set_option maxRecDepth 20000 in
theorem cd_321_1245 : cd 321 1245 = some (9, 1246, 0, 0, 0, []) := cd_row ac_321 rfl
set_option maxRecDepth 20000 in
theorem cd_321_1246 : cd 321 1246 = some (26, 1247, 0, 0, 0, []) := cd_row ac_321 rfl
set_option maxRecDepth 20000 in
theorem cd_321_1247 : cd 321 1247 = some (4, 1248, 0, 0, 0, []) := cd_row ac_321 rfl
set_option maxRecDepth 20000 in
theorem cd_321_1248 : cd 321 1248 = some (2, 1249, 3, 0, 0, []) := cd_row ac_321 rfl
set_option maxRecDepth 20000 in
theorem cd_321_1249 : cd 321 1249 = some (0, 1250, 0, 0, 2, []) := cd_row ac_321 rfl
set_option maxRecDepth 20000 in
theorem cd_321_1250 : cd 321 1250 = some (9, 1251, 0, 0, 0, []) := cd_row ac_321 rfl
set_option maxRecDepth 20000 in
theorem cd_321_1251 : cd 321 1251 = some (26, 1252, 0, 0, 0, []) := cd_row ac_321 rfl
set_option maxRecDepth 20000 in
theorem cd_321_1252 : cd 321 1252 = some (46, 1255, 161, 3, 9, []) := cd_row ac_321 rfl
set_option maxRecDepth 20000 in
theorem cd_321_1255 : cd 321 1255 = some (19, 1256, 0, 0, 0, []) := cd_row ac_321 rfl
set_option maxRecDepth 20000 in
theorem cd_321_1256 : cd 321 1256 = some (4, 1257, 2, 0, 0, []) := cd_row ac_321 rfl
set_option maxRecDepth 20000 in
theorem cd_321_1257 : cd 321 1257 = some (4, 1258, 0, 0, 0, []) := cd_row ac_321 rfl
set_option maxRecDepth 20000 in
theorem cd_321_1258 : cd 321 1258 = some (2, 1259, 3, 0, 0, []) := cd_row ac_321 rfl
set_option maxRecDepth 20000 in
theorem cd_321_1259 : cd 321 1259 = some (0, 1260, 0, 0, 1, []) := cd_row ac_321 rfl
set_option maxRecDepth 20000 in
theorem cd_321_1260 : cd 321 1260 = some (9, 1261, 0, 0, 0, []) := cd_row ac_321 rfl
set_option maxRecDepth 20000 in
theorem cd_321_1261 : cd 321 1261 = some (26, 1262, 0, 0, 0, []) := cd_row ac_321 rfl
set_option maxRecDepth 20000 in
theorem cd_321_1262 : cd 321 1262 = some (4, 1263, 0, 0, 0, []) := cd_row ac_321 rfl
set_option maxRecDepth 20000 in
theorem cd_321_1263 : cd 321 1263 = some (2, 1264, 3, 0, 0, []) := cd_row ac_321 rfl
set_option maxRecDepth 20000 in
theorem cd_321_1264 : cd 321 1264 = some (0, 1265, 0, 0, 2, []) := cd_row ac_321 rfl
set_option maxRecDepth 20000 in
theorem cd_321_1265 : cd 321 1265 = some (9, 1266, 0, 0, 0, []) := cd_row ac_321 rfl
set_option maxRecDepth 20000 in
theorem cd_321_1266 : cd 321 1266 = some (26, 1267, 0, 0, 0, []) := cd_row ac_321 rfl
set_option maxRecDepth 20000 in
theorem cd_321_1267 : cd 321 1267 = some (46, 1270, 305, 3, 10, []) := cd_row ac_321 rfl
set_option maxRecDepth 20000 in
theorem cd_321_1270 : cd 321 1270 = some (19, 1271, 0, 0, 0, []) := cd_row ac_321 rfl
set_option maxRecDepth 20000 in
theorem cd_321_1271 : cd 321 1271 = some (22, 1274, 1539, 0, 0, []) := cd_row ac_321 rfl
set_option maxRecDepth 20000 in
theorem cd_321_1274 : cd 321 1274 = some (4, 1275, 1, 0, 0, []) := cd_row ac_321 rfl
set_option maxRecDepth 20000 in
theorem cd_321_1275 : cd 321 1275 = some (4, 1276, 0, 0, 0, []) := cd_row ac_321 rfl
set_option maxRecDepth 20000 in
theorem cd_321_1276 : cd 321 1276 = some (2, 1277, 3, 0, 0, []) := cd_row ac_321 rfl
set_option maxRecDepth 20000 in
theorem cd_321_1277 : cd 321 1277 = some (0, 1278, 0, 0, 1, []) := cd_row ac_321 rfl
set_option maxRecDepth 20000 in
theorem cd_321_1278 : cd 321 1278 = some (9, 1279, 0, 0, 0, []) := cd_row ac_321 rfl
set_option maxRecDepth 20000 in
theorem cd_321_1279 : cd 321 1279 = some (26, 1280, 0, 0, 0, []) := cd_row ac_321 rfl
set_option maxRecDepth 20000 in
theorem cd_321_1280 : cd 321 1280 = some (4, 1281, 0, 0, 0, []) := cd_row ac_321 rfl
set_option maxRecDepth 20000 in
theorem cd_321_1281 : cd 321 1281 = some (2, 1282, 3, 0, 0, []) := cd_row ac_321 rfl
set_option maxRecDepth 20000 in
theorem cd_321_1282 : cd 321 1282 = some (0, 1283, 0, 0, 2, []) := cd_row ac_321 rfl
set_option maxRecDepth 20000 in
theorem cd_321_1283 : cd 321 1283 = some (9, 1284, 0, 0, 0, []) := cd_row ac_321 rfl
set_option maxRecDepth 20000 in
theorem cd_321_1284 : cd 321 1284 = some (26, 1285, 0, 0, 0, []) := cd_row ac_321 rfl
set_option maxRecDepth 20000 in
theorem cd_321_1285 : cd 321 1285 = some (46, 1288, 162, 3, 9, []) := cd_row ac_321 rfl
set_option maxRecDepth 20000 in
theorem cd_321_1288 : cd 321 1288 = some (19, 1289, 0, 0, 0, []) := cd_row ac_321 rfl
set_option maxRecDepth 20000 in
theorem cd_321_1289 : cd 321 1289 = some (4, 1290, 2, 0, 0, []) := cd_row ac_321 rfl
set_option maxRecDepth 20000 in
theorem cd_321_1290 : cd 321 1290 = some (4, 1291, 0, 0, 0, []) := cd_row ac_321 rfl
set_option maxRecDepth 20000 in
theorem cd_321_1291 : cd 321 1291 = some (2, 1292, 3, 0, 0, []) := cd_row ac_321 rfl
set_option maxRecDepth 20000 in
theorem cd_321_1292 : cd 321 1292 = some (0, 1293, 0, 0, 1, []) := cd_row ac_321 rfl
set_option maxRecDepth 20000 in
theorem cd_321_1293 : cd 321 1293 = some (9, 1294, 0, 0, 0, []) := cd_row ac_321 rfl
set_option maxRecDepth 20000 in
theorem cd_321_1294 : cd 321 1294 = some (26, 1295, 0, 0, 0, []) := cd_row ac_321 rfl
set_option maxRecDepth 20000 in
theorem cd_321_1295 : cd 321 1295 = some (4, 1296, 0, 0, 0, []) := cd_row ac_321 rfl
set_option maxRecDepth 20000 in
theorem cd_321_1296 : cd 321 1296 = some (2, 1297, 3, 0, 0, []) := cd_row ac_321 rfl
set_option maxRecDepth 20000 in
theorem cd_321_1297 : cd 321 1297 = some (0, 1298, 0, 0, 2, []) := cd_row ac_321 rfl
set_option maxRecDepth 20000 in
theorem cd_321_1298 : cd 321 1298 = some (9, 1299, 0, 0, 0, []) := cd_row ac_321 rfl
set_option maxRecDepth 20000 in
theorem cd_321_1299 : cd 321 1299 = some (26, 1300, 0, 0, 0, []) := cd_row ac_321 rfl
set_option maxRecDepth 20000 in
theorem cd_321_1300 : cd 321 1300 = some (46, 1303, 309, 3, 10, []) := cd_row ac_321 rfl
set_option maxRecDepth 20000 in
theorem cd_321_1303 : cd 321 1303 = some (19, 1304, 0, 0, 0, []) := cd_row ac_321 rfl
set_option maxRecDepth 20000 in
theorem cd_321_1304 : cd 321 1304 = some (22, 1307, 1539, 0, 0, []) := cd_row ac_321 rfl
set_option maxRecDepth 20000 in
theorem cd_321_1307 : cd 321 1307 = some (4, 1308, 1, 0, 0, []) := cd_row ac_321 rfl
set_option maxRecDepth 20000 in
theorem cd_321_1308 : cd 321 1308 = some (4, 1309, 0, 0, 0, []) := cd_row ac_321 rfl
set_option maxRecDepth 20000 in
theorem cd_321_1309 : cd 321 1309 = some (2, 1310, 3, 0, 0, []) := cd_row ac_321 rfl
set_option maxRecDepth 20000 in
theorem cd_321_1310 : cd 321 1310 = some (0, 1311, 0, 0, 1, []) := cd_row ac_321 rfl
set_option maxRecDepth 20000 in
theorem cd_321_1311 : cd 321 1311 = some (9, 1312, 0, 0, 0, []) := cd_row ac_321 rfl
set_option maxRecDepth 20000 in
theorem cd_321_1312 : cd 321 1312 = some (26, 1313, 0, 0, 0, []) := cd_row ac_321 rfl
set_option maxRecDepth 20000 in
theorem cd_321_1313 : cd 321 1313 = some (4, 1314, 0, 0, 0, []) := cd_row ac_321 rfl
set_option maxRecDepth 20000 in
theorem cd_321_1314 : cd 321 1314 = some (2, 1315, 3, 0, 0, []) := cd_row ac_321 rfl
set_option maxRecDepth 20000 in
theorem cd_321_1315 : cd 321 1315 = some (0, 1316, 0, 0, 2, []) := cd_row ac_321 rfl
set_option maxRecDepth 20000 in
theorem cd_321_1316 : cd 321 1316 = some (9, 1317, 0, 0, 0, []) := cd_row ac_321 rfl
set_option maxRecDepth 20000 in
theorem cd_321_1317 : cd 321 1317 = some (26, 1318, 0, 0, 0, []) := cd_row ac_321 rfl
set_option maxRecDepth 20000 in
theorem cd_321_1318 : cd 321 1318 = some (20, 1321, 1325, 0, 0, []) := cd_row ac_321 rfl
set_option maxRecDepth 20000 in
theorem cd_321_1321 : cd 321 1321 = some (0, 1322, 0, 0, 1, []) := cd_row ac_321 rfl
set_option maxRecDepth 20000 in
theorem cd_321_1322 : cd 321 1322 = some (22, 1325, 1326, 0, 0, []) := cd_row ac_321 rfl
set_option maxRecDepth 20000 in
theorem cd_321_1325 : cd 321 1325 = some (0, 1326, 0, 0, 0, []) := cd_row ac_321 rfl
set_option maxRecDepth 20000 in
theorem cd_321_1326 : cd 321 1326 = some (46, 1329, 164, 3, 9, []) := cd_row ac_321 rfl
set_option maxRecDepth 20000 in
theorem cd_321_1329 : cd 321 1329 = some (19, 1330, 0, 0, 0, []) := cd_row ac_321 rfl
set_option maxRecDepth 20000 in
theorem cd_321_1330 : cd 321 1330 = some (4, 1331, 2, 0, 0, []) := cd_row ac_321 rfl
set_option maxRecDepth 20000 in
theorem cd_321_1331 : cd 321 1331 = some (4, 1332, 0, 0, 0, []) := cd_row ac_321 rfl
set_option maxRecDepth 20000 in
theorem cd_321_1332 : cd 321 1332 = some (2, 1333, 3, 0, 0, []) := cd_row ac_321 rfl
set_option maxRecDepth 20000 in
theorem cd_321_1333 : cd 321 1333 = some (0, 1334, 0, 0, 1, []) := cd_row ac_321 rfl
set_option maxRecDepth 20000 in
theorem cd_321_1334 : cd 321 1334 = some (9, 1335, 0, 0, 0, []) := cd_row ac_321 rfl
set_option maxRecDepth 20000 in
theorem cd_321_1335 : cd 321 1335 = some (26, 1336, 0, 0, 0, []) := cd_row ac_321 rfl
set_option maxRecDepth 20000 in
theorem cd_321_1336 : cd 321 1336 = some (4, 1337, 0, 0, 0, []) := cd_row ac_321 rfl
set_option maxRecDepth 20000 in
theorem cd_321_1337 : cd 321 1337 = some (2, 1338, 3, 0, 0, []) := cd_row ac_321 rfl
set_option maxRecDepth 20000 in
theorem cd_321_1338 : cd 321 1338 = some (0, 1339, 0, 0, 2, []) := cd_row ac_321 rfl
set_option maxRecDepth 20000 in
theorem cd_321_1339 : cd 321 1339 = some (9, 1340, 0, 0, 0, []) := cd_row ac_321 rfl
set_option maxRecDepth 20000 in
theorem cd_321_1340 : cd 321 1340 = some (26, 1341, 0, 0, 0, []) := cd_row ac_321 rfl
set_option maxRecDepth 20000 in
theorem cd_321_1341 : cd 321 1341 = some (20, 1344, 1348, 0, 0, []) := cd_row ac_321 rfl
set_option maxRecDepth 20000 in
theorem cd_321_1344 : cd 321 1344 = some (0, 1345, 0, 0, 1, []) := cd_row ac_321 rfl
set_option maxRecDepth 20000 in
theorem cd_321_1345 : cd 321 1345 = some (22, 1348, 1349, 0, 0, []) := cd_row ac_321 rfl
set_option maxRecDepth 20000 in
theorem cd_321_1348 : cd 321 1348 = some (0, 1349, 0, 0, 0, []) := cd_row ac_321 rfl
set_option maxRecDepth 20000 in
theorem cd_321_1349 : cd 321 1349 = some (46, 1352, 310, 3, 10, []) := cd_row ac_321 rfl
set_option maxRecDepth 20000 in
theorem cd_321_1352 : cd 321 1352 = some (19, 1353, 0, 0, 0, []) := cd_row ac_321 rfl
set_option maxRecDepth 20000 in
theorem cd_321_1353 : cd 321 1353 = some (22, 1356, 1539, 0, 0, []) := cd_row ac_321 rfl
set_option maxRecDepth 20000 in
theorem cd_321_1356 : cd 321 1356 = some (4, 1357, 1, 0, 0, []) := cd_row ac_321 rfl
set_option maxRecDepth 20000 in
theorem cd_321_1357 : cd 321 1357 = some (4, 1358, 0, 0, 0, []) := cd_row ac_321 rfl
set_option maxRecDepth 20000 in
theorem cd_321_1358 : cd 321 1358 = some (2, 1359, 3, 0, 0, []) := cd_row ac_321 rfl
set_option maxRecDepth 20000 in
theorem cd_321_1359 : cd 321 1359 = some (0, 1360, 0, 0, 1, []) := cd_row ac_321 rfl
set_option maxRecDepth 20000 in
theorem cd_321_1360 : cd 321 1360 = some (9, 1361, 0, 0, 0, []) := cd_row ac_321 rfl
set_option maxRecDepth 20000 in
theorem cd_321_1361 : cd 321 1361 = some (26, 1362, 0, 0, 0, []) := cd_row ac_321 rfl
set_option maxRecDepth 20000 in
theorem cd_321_1362 : cd 321 1362 = some (20, 1365, 1369, 0, 0, []) := cd_row ac_321 rfl
set_option maxRecDepth 20000 in
theorem cd_321_1365 : cd 321 1365 = some (0, 1366, 0, 0, 1, []) := cd_row ac_321 rfl
set_option maxRecDepth 20000 in
theorem cd_321_1366 : cd 321 1366 = some (22, 1369, 1370, 0, 0, []) := cd_row ac_321 rfl
set_option maxRecDepth 20000 in
theorem cd_321_1369 : cd 321 1369 = some (0, 1370, 0, 0, 0, []) := cd_row ac_321 rfl
set_option maxRecDepth 20000 in
theorem cd_321_1370 : cd 321 1370 = some (46, 1373, 165, 2, 9, []) := cd_row ac_321 rfl
set_option maxRecDepth 20000 in
theorem cd_321_1373 : cd 321 1373 = some (55, 1374, 0, 0, 0, []) := cd_row ac_321 rfl
set_option maxRecDepth 20000 in
theorem cd_321_1374 : cd 321 1374 = some (4, 1375, 2, 0, 0, []) := cd_row ac_321 rfl
set_option maxRecDepth 20000 in
theorem cd_321_1375 : cd 321 1375 = some (4, 1376, 0, 0, 0, []) := cd_row ac_321 rfl
set_option maxRecDepth 20000 in
theorem cd_321_1376 : cd 321 1376 = some (2, 1377, 3, 0, 0, []) := cd_row ac_321 rfl
set_option maxRecDepth 20000 in
theorem cd_321_1377 : cd 321 1377 = some (0, 1378, 0, 0, 1, []) := cd_row ac_321 rfl
set_option maxRecDepth 20000 in
theorem cd_321_1378 : cd 321 1378 = some (9, 1379, 0, 0, 0, []) := cd_row ac_321 rfl
set_option maxRecDepth 20000 in
theorem cd_321_1379 : cd 321 1379 = some (26, 1380, 0, 0, 0, []) := cd_row ac_321 rfl
set_option maxRecDepth 20000 in
theorem cd_321_1380 : cd 321 1380 = some (20, 1383, 1387, 0, 0, []) := cd_row ac_321 rfl
set_option maxRecDepth 20000 in
theorem cd_321_1383 : cd 321 1383 = some (0, 1384, 0, 0, 1, []) := cd_row ac_321 rfl
set_option maxRecDepth 20000 in
theorem cd_321_1384 : cd 321 1384 = some (22, 1387, 1388, 0, 0, []) := cd_row ac_321 rfl
set_option maxRecDepth 20000 in
theorem cd_321_1387 : cd 321 1387 = some (0, 1388, 0, 0, 0, []) := cd_row ac_321 rfl
set_option maxRecDepth 20000 in
theorem cd_321_1388 : cd 321 1388 = some (46, 1391, 312, 2, 10, []) := cd_row ac_321 rfl
set_option maxRecDepth 20000 in
theorem cd_321_1391 : cd 321 1391 = some (55, 1392, 0, 0, 0, []) := cd_row ac_321 rfl
set_option maxRecDepth 20000 in
theorem cd_321_1392 : cd 321 1392 = some (22, 1395, 1539, 0, 0, []) := cd_row ac_321 rfl
set_option maxRecDepth 20000 in
theorem cd_321_1395 : cd 321 1395 = some (4, 1396, 1, 0, 0, []) := cd_row ac_321 rfl
set_option maxRecDepth 20000 in
theorem cd_321_1396 : cd 321 1396 = some (4, 1397, 0, 0, 0, []) := cd_row ac_321 rfl
set_option maxRecDepth 20000 in
theorem cd_321_1397 : cd 321 1397 = some (2, 1398, 3, 0, 0, []) := cd_row ac_321 rfl
set_option maxRecDepth 20000 in
theorem cd_321_1398 : cd 321 1398 = some (0, 1399, 0, 0, 1, []) := cd_row ac_321 rfl
set_option maxRecDepth 20000 in
theorem cd_321_1399 : cd 321 1399 = some (9, 1400, 0, 0, 0, []) := cd_row ac_321 rfl
set_option maxRecDepth 20000 in
theorem cd_321_1400 : cd 321 1400 = some (26, 1401, 0, 0, 0, []) := cd_row ac_321 rfl
set_option maxRecDepth 20000 in
theorem cd_321_1401 : cd 321 1401 = some (4, 1402, 0, 0, 0, []) := cd_row ac_321 rfl
set_option maxRecDepth 20000 in
theorem cd_321_1402 : cd 321 1402 = some (2, 1403, 3, 0, 0, []) := cd_row ac_321 rfl
set_option maxRecDepth 20000 in
theorem cd_321_1403 : cd 321 1403 = some (0, 1404, 0, 0, 2, []) := cd_row ac_321 rfl
set_option maxRecDepth 20000 in
theorem cd_321_1404 : cd 321 1404 = some (9, 1405, 0, 0, 0, []) := cd_row ac_321 rfl
set_option maxRecDepth 20000 in
theorem cd_321_1405 : cd 321 1405 = some (26, 1406, 0, 0, 0, []) := cd_row ac_321 rfl
set_option maxRecDepth 20000 in
theorem cd_321_1406 : cd 321 1406 = some (46, 1409, 166, 3, 9, []) := cd_row ac_321 rfl
set_option maxRecDepth 20000 in
theorem cd_321_1409 : cd 321 1409 = some (19, 1410, 0, 0, 0, []) := cd_row ac_321 rfl
set_option maxRecDepth 20000 in
theorem cd_321_1410 : cd 321 1410 = some (4, 1411, 2, 0, 0, []) := cd_row ac_321 rfl
set_option maxRecDepth 20000 in
theorem cd_321_1411 : cd 321 1411 = some (4, 1412, 0, 0, 0, []) := cd_row ac_321 rfl
set_option maxRecDepth 20000 in
theorem cd_321_1412 : cd 321 1412 = some (2, 1413, 3, 0, 0, []) := cd_row ac_321 rfl
set_option maxRecDepth 20000 in
theorem cd_321_1413 : cd 321 1413 = some (0, 1414, 0, 0, 1, []) := cd_row ac_321 rfl
set_option maxRecDepth 20000 in
theorem cd_321_1414 : cd 321 1414 = some (9, 1415, 0, 0, 0, []) := cd_row ac_321 rfl
set_option maxRecDepth 20000 in
theorem cd_321_1415 : cd 321 1415 = some (26, 1416, 0, 0, 0, []) := cd_row ac_321 rfl
set_option maxRecDepth 20000 in
theorem cd_321_1416 : cd 321 1416 = some (4, 1417, 0, 0, 0, []) := cd_row ac_321 rfl
set_option maxRecDepth 20000 in
theorem cd_321_1417 : cd 321 1417 = some (2, 1418, 3, 0, 0, []) := cd_row ac_321 rfl
set_option maxRecDepth 20000 in
theorem cd_321_1418 : cd 321 1418 = some (0, 1419, 0, 0, 2, []) := cd_row ac_321 rfl
set_option maxRecDepth 20000 in
theorem cd_321_1419 : cd 321 1419 = some (9, 1420, 0, 0, 0, []) := cd_row ac_321 rfl
set_option maxRecDepth 20000 in
theorem cd_321_1420 : cd 321 1420 = some (26, 1421, 0, 0, 0, []) := cd_row ac_321 rfl
set_option maxRecDepth 20000 in
theorem cd_321_1421 : cd 321 1421 = some (46, 1424, 315, 3, 10, []) := cd_row ac_321 rfl
set_option maxRecDepth 20000 in
theorem cd_321_1424 : cd 321 1424 = some (19, 1425, 0, 0, 0, []) := cd_row ac_321 rfl
set_option maxRecDepth 20000 in
theorem cd_321_1425 : cd 321 1425 = some (22, 1428, 1539, 0, 0, []) := cd_row ac_321 rfl
set_option maxRecDepth 20000 in
theorem cd_321_1428 : cd 321 1428 = some (4, 1429, 1, 0, 0, []) := cd_row ac_321 rfl
set_option maxRecDepth 20000 in
theorem cd_321_1429 : cd 321 1429 = some (4, 1430, 0, 0, 0, []) := cd_row ac_321 rfl
set_option maxRecDepth 20000 in
theorem cd_321_1430 : cd 321 1430 = some (2, 1431, 3, 0, 0, []) := cd_row ac_321 rfl
set_option maxRecDepth 20000 in
theorem cd_321_1431 : cd 321 1431 = some (0, 1432, 0, 0, 1, []) := cd_row ac_321 rfl
set_option maxRecDepth 20000 in
theorem cd_321_1432 : cd 321 1432 = some (9, 1433, 0, 0, 0, []) := cd_row ac_321 rfl
set_option maxRecDepth 20000 in
theorem cd_321_1433 : cd 321 1433 = some (26, 1434, 0, 0, 0, []) := cd_row ac_321 rfl
set_option maxRecDepth 20000 in
theorem cd_321_1434 : cd 321 1434 = some (46, 1437, 167, 2, 9, []) := cd_row ac_321 rfl
set_option maxRecDepth 20000 in
theorem cd_321_1437 : cd 321 1437 = some (19, 1438, 0, 0, 0, []) := cd_row ac_321 rfl
set_option maxRecDepth 20000 in
theorem cd_321_1438 : cd 321 1438 = some (4, 1439, 2, 0, 0, []) := cd_row ac_321 rfl
set_option maxRecDepth 20000 in
theorem cd_321_1439 : cd 321 1439 = some (4, 1440, 0, 0, 0, []) := cd_row ac_321 rfl
set_option maxRecDepth 20000 in
theorem cd_321_1440 : cd 321 1440 = some (2, 1441, 3, 0, 0, []) := cd_row ac_321 rfl
set_option maxRecDepth 20000 in
theorem cd_321_1441 : cd 321 1441 = some (0, 1442, 0, 0, 1, []) := cd_row ac_321 rfl
set_option maxRecDepth 20000 in
theorem cd_321_1442 : cd 321 1442 = some (9, 1443, 0, 0, 0, []) := cd_row ac_321 rfl
set_option maxRecDepth 20000 in
theorem cd_321_1443 : cd 321 1443 = some (26, 1444, 0, 0, 0, []) := cd_row ac_321 rfl
set_option maxRecDepth 20000 in
theorem cd_321_1444 : cd 321 1444 = some (46, 1447, 316, 2, 10, []) := cd_row ac_321 rfl
set_option maxRecDepth 20000 in
theorem cd_321_1447 : cd 321 1447 = some (19, 1448, 0, 0, 0, []) := cd_row ac_321 rfl
set_option maxRecDepth 20000 in
theorem cd_321_1448 : cd 321 1448 = some (22, 1451, 1539, 0, 0, []) := cd_row ac_321 rfl
set_option maxRecDepth 20000 in
theorem cd_321_1451 : cd 321 1451 = some (4, 1452, 1, 0, 0, []) := cd_row ac_321 rfl
set_option maxRecDepth 20000 in
theorem cd_321_1452 : cd 321 1452 = some (4, 1453, 0, 0, 0, []) := cd_row ac_321 rfl
set_option maxRecDepth 20000 in
theorem cd_321_1453 : cd 321 1453 = some (2, 1454, 3, 0, 0, []) := cd_row ac_321 rfl
set_option maxRecDepth 20000 in
theorem cd_321_1454 : cd 321 1454 = some (0, 1455, 0, 0, 1, []) := cd_row ac_321 rfl
set_option maxRecDepth 20000 in
theorem cd_321_1455 : cd 321 1455 = some (9, 1456, 0, 0, 0, []) := cd_row ac_321 rfl
set_option maxRecDepth 20000 in
theorem cd_321_1456 : cd 321 1456 = some (26, 1457, 0, 0, 0, []) := cd_row ac_321 rfl
set_option maxRecDepth 20000 in
theorem cd_321_1457 : cd 321 1457 = some (20, 1460, 1464, 0, 0, []) := cd_row ac_321 rfl
set_option maxRecDepth 20000 in
theorem cd_321_1460 : cd 321 1460 = some (0, 1461, 0, 0, 1, []) := cd_row ac_321 rfl
set_option maxRecDepth 20000 in
theorem cd_321_1461 : cd 321 1461 = some (22, 1464, 1465, 0, 0, []) := cd_row ac_321 rfl
set_option maxRecDepth 20000 in
theorem cd_321_1464 : cd 321 1464 = some (0, 1465, 0, 0, 0, []) := cd_row ac_321 rfl
set_option maxRecDepth 20000 in
theorem cd_321_1465 : cd 321 1465 = some (46, 1468, 168, 2, 9, []) := cd_row ac_321 rfl
set_option maxRecDepth 20000 in
theorem cd_321_1468 : cd 321 1468 = some (19, 1469, 0, 0, 0, []) := cd_row ac_321 rfl
set_option maxRecDepth 20000 in
theorem cd_321_1469 : cd 321 1469 = some (4, 1470, 2, 0, 0, []) := cd_row ac_321 rfl
set_option maxRecDepth 20000 in
theorem cd_321_1470 : cd 321 1470 = some (4, 1471, 0, 0, 0, []) := cd_row ac_321 rfl
set_option maxRecDepth 20000 in
theorem cd_321_1471 : cd 321 1471 = some (2, 1472, 3, 0, 0, []) := cd_row ac_321 rfl
set_option maxRecDepth 20000 in
theorem cd_321_1472 : cd 321 1472 = some (0, 1473, 0, 0, 1, []) := cd_row ac_321 rfl
set_option maxRecDepth 20000 in
theorem cd_321_1473 : cd 321 1473 = some (9, 1474, 0, 0, 0, []) := cd_row ac_321 rfl
set_option maxRecDepth 20000 in
theorem cd_321_1474 : cd 321 1474 = some (26, 1475, 0, 0, 0, []) := cd_row ac_321 rfl
set_option maxRecDepth 20000 in
theorem cd_321_1475 : cd 321 1475 = some (20, 1478, 1482, 0, 0, []) := cd_row ac_321 rfl
set_option maxRecDepth 20000 in
theorem cd_321_1478 : cd 321 1478 = some (0, 1479, 0, 0, 1, []) := cd_row ac_321 rfl
set_option maxRecDepth 20000 in
theorem cd_321_1479 : cd 321 1479 = some (22, 1482, 1483, 0, 0, []) := cd_row ac_321 rfl
set_option maxRecDepth 20000 in
theorem cd_321_1482 : cd 321 1482 = some (0, 1483, 0, 0, 0, []) := cd_row ac_321 rfl
set_option maxRecDepth 20000 in
theorem cd_321_1483 : cd 321 1483 = some (46, 1486, 317, 2, 10, []) := cd_row ac_321 rfl
set_option maxRecDepth 20000 in
theorem cd_321_1486 : cd 321 1486 = some (19, 1487, 0, 0, 0, []) := cd_row ac_321 rfl
set_option maxRecDepth 20000 in
theorem cd_321_1487 : cd 321 1487 = some (22, 1490, 1539, 0, 0, []) := cd_row ac_321 rfl
set_option maxRecDepth 20000 in
theorem cd_321_1490 : cd 321 1490 = some (4, 1491, 1, 0, 0, []) := cd_row ac_321 rfl
set_option maxRecDepth 20000 in
theorem cd_321_1491 : cd 321 1491 = some (46, 1494, 169, 1, 9, []) := cd_row ac_321 rfl
set_option maxRecDepth 20000 in
theorem cd_321_1494 : cd 321 1494 = some (19, 1495, 0, 0, 0, []) := cd_row ac_321 rfl
set_option maxRecDepth 20000 in
theorem cd_321_1495 : cd 321 1495 = some (4, 1496, 2, 0, 0, []) := cd_row ac_321 rfl
set_option maxRecDepth 20000 in
theorem cd_321_1496 : cd 321 1496 = some (46, 1499, 318, 1, 10, []) := cd_row ac_321 rfl
set_option maxRecDepth 20000 in
theorem cd_321_1499 : cd 321 1499 = some (19, 1500, 0, 0, 0, []) := cd_row ac_321 rfl
set_option maxRecDepth 20000 in
theorem cd_321_1500 : cd 321 1500 = some (22, 1503, 1539, 0, 0, []) := cd_row ac_321 rfl
set_option maxRecDepth 20000 in
theorem cd_321_1503 : cd 321 1503 = some (4, 1504, 1, 0, 0, []) := cd_row ac_321 rfl
set_option maxRecDepth 20000 in
theorem cd_321_1504 : cd 321 1504 = some (46, 1507, 170, 1, 9, []) := cd_row ac_321 rfl
set_option maxRecDepth 20000 in
theorem cd_321_1507 : cd 321 1507 = some (19, 1508, 0, 0, 0, []) := cd_row ac_321 rfl
set_option maxRecDepth 20000 in
theorem cd_321_1508 : cd 321 1508 = some (4, 1509, 2, 0, 0, []) := cd_row ac_321 rfl
set_option maxRecDepth 20000 in
theorem cd_321_1509 : cd 321 1509 = some (46, 1512, 319, 1, 10, []) := cd_row ac_321 rfl
set_option maxRecDepth 20000 in
theorem cd_321_1512 : cd 321 1512 = some (19, 1513, 0, 0, 0, []) := cd_row ac_321 rfl
set_option maxRecDepth 20000 in
theorem cd_321_1513 : cd 321 1513 = some (22, 1516, 1539, 0, 0, []) := cd_row ac_321 rfl
set_option maxRecDepth 20000 in
theorem cd_321_1516 : cd 321 1516 = some (4, 1517, 1, 0, 0, []) := cd_row ac_321 rfl
set_option maxRecDepth 20000 in
theorem cd_321_1517 : cd 321 1517 = some (4, 1518, 0, 0, 0, []) := cd_row ac_321 rfl
set_option maxRecDepth 20000 in
theorem cd_321_1518 : cd 321 1518 = some (2, 1519, 3, 0, 0, []) := cd_row ac_321 rfl
set_option maxRecDepth 20000 in
theorem cd_321_1519 : cd 321 1519 = some (0, 1520, 0, 0, 1, []) := cd_row ac_321 rfl
set_option maxRecDepth 20000 in
theorem cd_321_1520 : cd 321 1520 = some (9, 1521, 0, 0, 0, []) := cd_row ac_321 rfl
set_option maxRecDepth 20000 in
theorem cd_321_1521 : cd 321 1521 = some (26, 1522, 0, 0, 0, []) := cd_row ac_321 rfl
set_option maxRecDepth 20000 in
theorem cd_321_1522 : cd 321 1522 = some (46, 1525, 171, 2, 9, []) := cd_row ac_321 rfl
set_option maxRecDepth 20000 in
theorem cd_321_1525 : cd 321 1525 = some (19, 1526, 0, 0, 0, []) := cd_row ac_321 rfl
set_option maxRecDepth 20000 in
theorem cd_321_1526 : cd 321 1526 = some (4, 1527, 2, 0, 0, []) := cd_row ac_321 rfl
set_option maxRecDepth 20000 in
theorem cd_321_1527 : cd 321 1527 = some (4, 1528, 0, 0, 0, []) := cd_row ac_321 rfl
set_option maxRecDepth 20000 in
theorem cd_321_1528 : cd 321 1528 = some (2, 1529, 3, 0, 0, []) := cd_row ac_321 rfl
set_option maxRecDepth 20000 in
theorem cd_321_1529 : cd 321 1529 = some (0, 1530, 0, 0, 1, []) := cd_row ac_321 rfl
set_option maxRecDepth 20000 in
theorem cd_321_1530 : cd 321 1530 = some (9, 1531, 0, 0, 0, []) := cd_row ac_321 rfl
set_option maxRecDepth 20000 in
theorem cd_321_1531 : cd 321 1531 = some (26, 1532, 0, 0, 0, []) := cd_row ac_321 rfl
set_option maxRecDepth 20000 in
theorem cd_321_1532 : cd 321 1532 = some (46, 1535, 320, 2, 10, []) := cd_row ac_321 rfl
set_option maxRecDepth 20000 in
theorem cd_321_1535 : cd 321 1535 = some (19, 1536, 0, 0, 0, []) := cd_row ac_321 rfl
set_option maxRecDepth 20000 in
theorem cd_321_1536 : cd 321 1536 = some (22, 1539, 1539, 0, 0, []) := cd_row ac_321 rfl
set_option maxRecDepth 20000 in
theorem cd_321_1539 : cd 321 1539 = some (8, 1542, 3, 0, 6, []) := cd_row ac_321 rfl
set_option maxRecDepth 20000 in
theorem cd_321_1542 : cd 321 1542 = some (22, 1545, 18, 0, 0, []) := cd_row ac_321 rfl
set_option maxRecDepth 20000 in
theorem cd_321_1545 : cd 321 1545 = some (0, 1546, 0, 0, 1, []) := cd_row ac_321 rfl
set_option maxRecDepth 20000 in
theorem cd_321_1546 : cd 321 1546 = some (40, 1547, 1, 0, 0, []) := cd_row ac_321 rfl
