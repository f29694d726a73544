/-- many instructions of one method at once -/
def decAll (cc : ByteArray) (l : List (Nat × Instr × Nat)) : Bool := l.all fun q => decide (decode cc q.1 = .ok (q.2.1, q.2.2))
theorem decAll_at {cc : ByteArray} {l : List (Nat × Instr × Nat)} {pc n : Nat} {i : Instr} (h : decAll cc l = true) (k : Nat) (hk : l[k]? = some (pc, i, n)) : decode cc pc = .ok (i, n) := by
  have h2 := List.all_eq_true.mp h _ (List.mem_of_getElem? hk)
  exact of_decide_eq_true h2
set_option maxRecDepth 100000 in
theorem dLg_0_0 : decAll cL_law [(0, .new 8, 3), (3, .dup, 1), (4, .invokespecial 17, 3), (7, .astore_n 1, 1), (8, .new 18, 3), (11, .dup, 1), (12, .invokespecial 20, 3), (15, .astore_n 2, 1), (16, .iconst 1, 1), (17, .newarray .long, 2), (19, .astore_n 3, 1), (20, .iconst 0, 1), (21, .istore 4, 2), (23, .iload 4, 2), (25, .aload_n 0, 1), (26, .arraylength, 1), (27, .bipush 6, 2), (29, .isub, 1), (30, .if_icmp .gt 2306, 3), (33, .aload_n 0, 1), (34, .iload 4, 2), (36, .iaload, 1), (37, .bipush 63, 2), (39, .iand, 1), (40, .tableswitch 2290 0 44 #[196, 221, 258, 295, 332, 381, 406, 443, 480, 541, 614, 675, 748, 809, 822, 859, 932, 1005, 1054, 1091, 1140, 1189, 1238, 1287, 1324, 1386, 1423, 1473, 1534, 1596, 1645, 1694, 1731, 1780, 1841, 1890, 1903, 1916, 1941, 2002, 2051, 2100, 2167, 2240, 2265], 196), (236, .aload_n 1, 1), (237, .aload_n 0, 1), (238, .iload 4, 2), (240, .iconst 1, 1), (241, .iadd, 1), (242, .iaload, 1), (243, .invokevirtual 21, 3), (246, .aload_n 2, 1), (247, .aload_n 0, 1), (248, .iload 4, 2), (250, .iconst 1, 1), (251, .iadd, 1), (252, .iaload, 1), (253, .invokevirtual 25, 3), (256, .if_icmp .eq 2074, 3), (259, .iconst 0, 1), (260, .ireturn, 1), (261, .aload_n 1, 1), (262, .aload_n 0, 1), (263, .iload 4, 2), (265, .iconst 1, 1), (266, .iadd, 1), (267, .iaload, 1), (268, .aload_n 0, 1), (269, .iload 4, 2)] = true := by decide +kernel
theorem dL_law_0 : decode cL_law 0 = .ok (.new 8, 3) := decAll_at dLg_0_0 0 rfl
theorem dL_law_3 : decode cL_law 3 = .ok (.dup, 1) := decAll_at dLg_0_0 1 rfl
theorem dL_law_4 : decode cL_law 4 = .ok (.invokespecial 17, 3) := decAll_at dLg_0_0 2 rfl
theorem dL_law_7 : decode cL_law 7 = .ok (.astore_n 1, 1) := decAll_at dLg_0_0 3 rfl
theorem dL_law_8 : decode cL_law 8 = .ok (.new 18, 3) := decAll_at dLg_0_0 4 rfl
theorem dL_law_11 : decode cL_law 11 = .ok (.dup, 1) := decAll_at dLg_0_0 5 rfl
theorem dL_law_12 : decode cL_law 12 = .ok (.invokespecial 20, 3) := decAll_at dLg_0_0 6 rfl
theorem dL_law_15 : decode cL_law 15 = .ok (.astore_n 2, 1) := decAll_at dLg_0_0 7 rfl
theorem dL_law_16 : decode cL_law 16 = .ok (.iconst 1, 1) := decAll_at dLg_0_0 8 rfl
theorem dL_law_17 : decode cL_law 17 = .ok (.newarray .long, 2) := decAll_at dLg_0_0 9 rfl
theorem dL_law_19 : decode cL_law 19 = .ok (.astore_n 3, 1) := decAll_at dLg_0_0 10 rfl
theorem dL_law_20 : decode cL_law 20 = .ok (.iconst 0, 1) := decAll_at dLg_0_0 11 rfl
theorem dL_law_21 : decode cL_law 21 = .ok (.istore 4, 2) := decAll_at dLg_0_0 12 rfl
theorem dL_law_23 : decode cL_law 23 = .ok (.iload 4, 2) := decAll_at dLg_0_0 13 rfl
theorem dL_law_25 : decode cL_law 25 = .ok (.aload_n 0, 1) := decAll_at dLg_0_0 14 rfl
theorem dL_law_26 : decode cL_law 26 = .ok (.arraylength, 1) := decAll_at dLg_0_0 15 rfl
theorem dL_law_27 : decode cL_law 27 = .ok (.bipush 6, 2) := decAll_at dLg_0_0 16 rfl
theorem dL_law_29 : decode cL_law 29 = .ok (.isub, 1) := decAll_at dLg_0_0 17 rfl
theorem dL_law_30 : decode cL_law 30 = .ok (.if_icmp .gt 2306, 3) := decAll_at dLg_0_0 18 rfl
theorem dL_law_33 : decode cL_law 33 = .ok (.aload_n 0, 1) := decAll_at dLg_0_0 19 rfl
theorem dL_law_34 : decode cL_law 34 = .ok (.iload 4, 2) := decAll_at dLg_0_0 20 rfl
theorem dL_law_36 : decode cL_law 36 = .ok (.iaload, 1) := decAll_at dLg_0_0 21 rfl
theorem dL_law_37 : decode cL_law 37 = .ok (.bipush 63, 2) := decAll_at dLg_0_0 22 rfl
theorem dL_law_39 : decode cL_law 39 = .ok (.iand, 1) := decAll_at dLg_0_0 23 rfl
theorem dL_law_40 : decode cL_law 40 = .ok (.tableswitch 2290 0 44 #[196, 221, 258, 295, 332, 381, 406, 443, 480, 541, 614, 675, 748, 809, 822, 859, 932, 1005, 1054, 1091, 1140, 1189, 1238, 1287, 1324, 1386, 1423, 1473, 1534, 1596, 1645, 1694, 1731, 1780, 1841, 1890, 1903, 1916, 1941, 2002, 2051, 2100, 2167, 2240, 2265], 196) := decAll_at dLg_0_0 24 rfl
theorem dL_law_236 : decode cL_law 236 = .ok (.aload_n 1, 1) := decAll_at dLg_0_0 25 rfl
theorem dL_law_237 : decode cL_law 237 = .ok (.aload_n 0, 1) := decAll_at dLg_0_0 26 rfl
theorem dL_law_238 : decode cL_law 238 = .ok (.iload 4, 2) := decAll_at dLg_0_0 27 rfl
theorem dL_law_240 : decode cL_law 240 = .ok (.iconst 1, 1) := decAll_at dLg_0_0 28 rfl
theorem dL_law_241 : decode cL_law 241 = .ok (.iadd, 1) := decAll_at dLg_0_0 29 rfl
theorem dL_law_242 : decode cL_law 242 = .ok (.iaload, 1) := decAll_at dLg_0_0 30 rfl
theorem dL_law_243 : decode cL_law 243 = .ok (.invokevirtual 21, 3) := decAll_at dLg_0_0 31 rfl
theorem dL_law_246 : decode cL_law 246 = .ok (.aload_n 2, 1) := decAll_at dLg_0_0 32 rfl
theorem dL_law_247 : decode cL_law 247 = .ok (.aload_n 0, 1) := decAll_at dLg_0_0 33 rfl
theorem dL_law_248 : decode cL_law 248 = .ok (.iload 4, 2) := decAll_at dLg_0_0 34 rfl
theorem dL_law_250 : decode cL_law 250 = .ok (.iconst 1, 1) := decAll_at dLg_0_0 35 rfl
theorem dL_law_251 : decode cL_law 251 = .ok (.iadd, 1) := decAll_at dLg_0_0 36 rfl
theorem dL_law_252 : decode cL_law 252 = .ok (.iaload, 1) := decAll_at dLg_0_0 37 rfl
theorem dL_law_253 : decode cL_law 253 = .ok (.invokevirtual 25, 3) := decAll_at dLg_0_0 38 rfl
theorem dL_law_256 : decode cL_law 256 = .ok (.if_icmp .eq 2074, 3) := decAll_at dLg_0_0 39 rfl
theorem dL_law_259 : decode cL_law 259 = .ok (.iconst 0, 1) := decAll_at dLg_0_0 40 rfl
theorem dL_law_260 : decode cL_law 260 = .ok (.ireturn, 1) := decAll_at dLg_0_0 41 rfl
theorem dL_law_261 : decode cL_law 261 = .ok (.aload_n 1, 1) := decAll_at dLg_0_0 42 rfl
theorem dL_law_262 : decode cL_law 262 = .ok (.aload_n 0, 1) := decAll_at dLg_0_0 43 rfl
theorem dL_law_263 : decode cL_law 263 = .ok (.iload 4, 2) := decAll_at dLg_0_0 44 rfl
theorem dL_law_265 : decode cL_law 265 = .ok (.iconst 1, 1) := decAll_at dLg_0_0 45 rfl
theorem dL_law_266 : decode cL_law 266 = .ok (.iadd, 1) := decAll_at dLg_0_0 46 rfl
theorem dL_law_267 : decode cL_law 267 = .ok (.iaload, 1) := decAll_at dLg_0_0 47 rfl
theorem dL_law_268 : decode cL_law 268 = .ok (.aload_n 0, 1) := decAll_at dLg_0_0 48 rfl
theorem dL_law_269 : decode cL_law 269 = .ok (.iload 4, 2) := decAll_at dLg_0_0 49 rfl
set_option maxRecDepth 100000 in
theorem dLg_0_1 : decAll cL_law [(271, .iconst 2, 1), (272, .iadd, 1), (273, .iaload, 1), (274, .invokevirtual 26, 3), (277, .aload_n 2, 1), (278, .aload_n 0, 1), (279, .iload 4, 2), (281, .iconst 1, 1), (282, .iadd, 1), (283, .iaload, 1), (284, .aload_n 0, 1), (285, .iload 4, 2), (287, .iconst 2, 1), (288, .iadd, 1), (289, .iaload, 1), (290, .invokevirtual 30, 3), (293, .if_icmp .eq 2037, 3), (296, .iconst 0, 1), (297, .ireturn, 1), (298, .aload_n 1, 1), (299, .aload_n 0, 1), (300, .iload 4, 2), (302, .iconst 1, 1), (303, .iadd, 1), (304, .iaload, 1), (305, .aload_n 0, 1), (306, .iload 4, 2), (308, .iconst 2, 1), (309, .iadd, 1), (310, .iaload, 1), (311, .invokevirtual 31, 3), (314, .aload_n 2, 1), (315, .aload_n 0, 1), (316, .iload 4, 2), (318, .iconst 1, 1), (319, .iadd, 1), (320, .iaload, 1), (321, .aload_n 0, 1), (322, .iload 4, 2), (324, .iconst 2, 1), (325, .iadd, 1), (326, .iaload, 1), (327, .invokevirtual 34, 3), (330, .if_icmp .eq 2000, 3), (333, .iconst 0, 1), (334, .ireturn, 1), (335, .aload_n 1, 1), (336, .aload_n 0, 1), (337, .iload 4, 2), (339, .iconst 1, 1)] = true := by decide +kernel
theorem dL_law_271 : decode cL_law 271 = .ok (.iconst 2, 1) := decAll_at dLg_0_1 0 rfl
theorem dL_law_272 : decode cL_law 272 = .ok (.iadd, 1) := decAll_at dLg_0_1 1 rfl
theorem dL_law_273 : decode cL_law 273 = .ok (.iaload, 1) := decAll_at dLg_0_1 2 rfl
theorem dL_law_274 : decode cL_law 274 = .ok (.invokevirtual 26, 3) := decAll_at dLg_0_1 3 rfl
theorem dL_law_277 : decode cL_law 277 = .ok (.aload_n 2, 1) := decAll_at dLg_0_1 4 rfl
theorem dL_law_278 : decode cL_law 278 = .ok (.aload_n 0, 1) := decAll_at dLg_0_1 5 rfl
theorem dL_law_279 : decode cL_law 279 = .ok (.iload 4, 2) := decAll_at dLg_0_1 6 rfl
theorem dL_law_281 : decode cL_law 281 = .ok (.iconst 1, 1) := decAll_at dLg_0_1 7 rfl
theorem dL_law_282 : decode cL_law 282 = .ok (.iadd, 1) := decAll_at dLg_0_1 8 rfl
theorem dL_law_283 : decode cL_law 283 = .ok (.iaload, 1) := decAll_at dLg_0_1 9 rfl
theorem dL_law_284 : decode cL_law 284 = .ok (.aload_n 0, 1) := decAll_at dLg_0_1 10 rfl
theorem dL_law_285 : decode cL_law 285 = .ok (.iload 4, 2) := decAll_at dLg_0_1 11 rfl
theorem dL_law_287 : decode cL_law 287 = .ok (.iconst 2, 1) := decAll_at dLg_0_1 12 rfl
theorem dL_law_288 : decode cL_law 288 = .ok (.iadd, 1) := decAll_at dLg_0_1 13 rfl
theorem dL_law_289 : decode cL_law 289 = .ok (.iaload, 1) := decAll_at dLg_0_1 14 rfl
theorem dL_law_290 : decode cL_law 290 = .ok (.invokevirtual 30, 3) := decAll_at dLg_0_1 15 rfl
theorem dL_law_293 : decode cL_law 293 = .ok (.if_icmp .eq 2037, 3) := decAll_at dLg_0_1 16 rfl
theorem dL_law_296 : decode cL_law 296 = .ok (.iconst 0, 1) := decAll_at dLg_0_1 17 rfl
theorem dL_law_297 : decode cL_law 297 = .ok (.ireturn, 1) := decAll_at dLg_0_1 18 rfl
theorem dL_law_298 : decode cL_law 298 = .ok (.aload_n 1, 1) := decAll_at dLg_0_1 19 rfl
theorem dL_law_299 : decode cL_law 299 = .ok (.aload_n 0, 1) := decAll_at dLg_0_1 20 rfl
theorem dL_law_300 : decode cL_law 300 = .ok (.iload 4, 2) := decAll_at dLg_0_1 21 rfl
theorem dL_law_302 : decode cL_law 302 = .ok (.iconst 1, 1) := decAll_at dLg_0_1 22 rfl
theorem dL_law_303 : decode cL_law 303 = .ok (.iadd, 1) := decAll_at dLg_0_1 23 rfl
theorem dL_law_304 : decode cL_law 304 = .ok (.iaload, 1) := decAll_at dLg_0_1 24 rfl
theorem dL_law_305 : decode cL_law 305 = .ok (.aload_n 0, 1) := decAll_at dLg_0_1 25 rfl
theorem dL_law_306 : decode cL_law 306 = .ok (.iload 4, 2) := decAll_at dLg_0_1 26 rfl
theorem dL_law_308 : decode cL_law 308 = .ok (.iconst 2, 1) := decAll_at dLg_0_1 27 rfl
theorem dL_law_309 : decode cL_law 309 = .ok (.iadd, 1) := decAll_at dLg_0_1 28 rfl
theorem dL_law_310 : decode cL_law 310 = .ok (.iaload, 1) := decAll_at dLg_0_1 29 rfl
theorem dL_law_311 : decode cL_law 311 = .ok (.invokevirtual 31, 3) := decAll_at dLg_0_1 30 rfl
theorem dL_law_314 : decode cL_law 314 = .ok (.aload_n 2, 1) := decAll_at dLg_0_1 31 rfl
theorem dL_law_315 : decode cL_law 315 = .ok (.aload_n 0, 1) := decAll_at dLg_0_1 32 rfl
theorem dL_law_316 : decode cL_law 316 = .ok (.iload 4, 2) := decAll_at dLg_0_1 33 rfl
theorem dL_law_318 : decode cL_law 318 = .ok (.iconst 1, 1) := decAll_at dLg_0_1 34 rfl
theorem dL_law_319 : decode cL_law 319 = .ok (.iadd, 1) := decAll_at dLg_0_1 35 rfl
theorem dL_law_320 : decode cL_law 320 = .ok (.iaload, 1) := decAll_at dLg_0_1 36 rfl
theorem dL_law_321 : decode cL_law 321 = .ok (.aload_n 0, 1) := decAll_at dLg_0_1 37 rfl
theorem dL_law_322 : decode cL_law 322 = .ok (.iload 4, 2) := decAll_at dLg_0_1 38 rfl
theorem dL_law_324 : decode cL_law 324 = .ok (.iconst 2, 1) := decAll_at dLg_0_1 39 rfl
theorem dL_law_325 : decode cL_law 325 = .ok (.iadd, 1) := decAll_at dLg_0_1 40 rfl
theorem dL_law_326 : decode cL_law 326 = .ok (.iaload, 1) := decAll_at dLg_0_1 41 rfl
theorem dL_law_327 : decode cL_law 327 = .ok (.invokevirtual 34, 3) := decAll_at dLg_0_1 42 rfl
theorem dL_law_330 : decode cL_law 330 = .ok (.if_icmp .eq 2000, 3) := decAll_at dLg_0_1 43 rfl
theorem dL_law_333 : decode cL_law 333 = .ok (.iconst 0, 1) := decAll_at dLg_0_1 44 rfl
theorem dL_law_334 : decode cL_law 334 = .ok (.ireturn, 1) := decAll_at dLg_0_1 45 rfl
theorem dL_law_335 : decode cL_law 335 = .ok (.aload_n 1, 1) := decAll_at dLg_0_1 46 rfl
theorem dL_law_336 : decode cL_law 336 = .ok (.aload_n 0, 1) := decAll_at dLg_0_1 47 rfl
theorem dL_law_337 : decode cL_law 337 = .ok (.iload 4, 2) := decAll_at dLg_0_1 48 rfl
theorem dL_law_339 : decode cL_law 339 = .ok (.iconst 1, 1) := decAll_at dLg_0_1 49 rfl
set_option maxRecDepth 100000 in
theorem dLg_0_2 : decAll cL_law [(340, .iadd, 1), (341, .iaload, 1), (342, .aload_n 0, 1), (343, .iload 4, 2), (345, .iconst 2, 1), (346, .iadd, 1), (347, .iaload, 1), (348, .invokevirtual 35, 3), (351, .aload_n 2, 1), (352, .aload_n 0, 1), (353, .iload 4, 2), (355, .iconst 1, 1), (356, .iadd, 1), (357, .iaload, 1), (358, .aload_n 0, 1), (359, .iload 4, 2), (361, .iconst 2, 1), (362, .iadd, 1), (363, .iaload, 1), (364, .invokevirtual 38, 3), (367, .if_icmp .eq 1963, 3), (370, .iconst 0, 1), (371, .ireturn, 1), (372, .aload_n 1, 1), (373, .aload_n 0, 1), (374, .iload 4, 2), (376, .iconst 1, 1), (377, .iadd, 1), (378, .iaload, 1), (379, .aload_n 0, 1), (380, .iload 4, 2), (382, .iconst 2, 1), (383, .iadd, 1), (384, .iaload, 1), (385, .aload_n 0, 1), (386, .iload 4, 2), (388, .iconst 3, 1), (389, .iadd, 1), (390, .iaload, 1), (391, .invokevirtual 39, 3), (394, .aload_n 2, 1), (395, .aload_n 0, 1), (396, .iload 4, 2), (398, .iconst 1, 1), (399, .iadd, 1), (400, .iaload, 1), (401, .aload_n 0, 1), (402, .iload 4, 2), (404, .iconst 2, 1), (405, .iadd, 1)] = true := by decide +kernel
theorem dL_law_340 : decode cL_law 340 = .ok (.iadd, 1) := decAll_at dLg_0_2 0 rfl
theorem dL_law_341 : decode cL_law 341 = .ok (.iaload, 1) := decAll_at dLg_0_2 1 rfl
theorem dL_law_342 : decode cL_law 342 = .ok (.aload_n 0, 1) := decAll_at dLg_0_2 2 rfl
theorem dL_law_343 : decode cL_law 343 = .ok (.iload 4, 2) := decAll_at dLg_0_2 3 rfl
theorem dL_law_345 : decode cL_law 345 = .ok (.iconst 2, 1) := decAll_at dLg_0_2 4 rfl
theorem dL_law_346 : decode cL_law 346 = .ok (.iadd, 1) := decAll_at dLg_0_2 5 rfl
theorem dL_law_347 : decode cL_law 347 = .ok (.iaload, 1) := decAll_at dLg_0_2 6 rfl
theorem dL_law_348 : decode cL_law 348 = .ok (.invokevirtual 35, 3) := decAll_at dLg_0_2 7 rfl
theorem dL_law_351 : decode cL_law 351 = .ok (.aload_n 2, 1) := decAll_at dLg_0_2 8 rfl
theorem dL_law_352 : decode cL_law 352 = .ok (.aload_n 0, 1) := decAll_at dLg_0_2 9 rfl
theorem dL_law_353 : decode cL_law 353 = .ok (.iload 4, 2) := decAll_at dLg_0_2 10 rfl
theorem dL_law_355 : decode cL_law 355 = .ok (.iconst 1, 1) := decAll_at dLg_0_2 11 rfl
theorem dL_law_356 : decode cL_law 356 = .ok (.iadd, 1) := decAll_at dLg_0_2 12 rfl
theorem dL_law_357 : decode cL_law 357 = .ok (.iaload, 1) := decAll_at dLg_0_2 13 rfl
theorem dL_law_358 : decode cL_law 358 = .ok (.aload_n 0, 1) := decAll_at dLg_0_2 14 rfl
theorem dL_law_359 : decode cL_law 359 = .ok (.iload 4, 2) := decAll_at dLg_0_2 15 rfl
theorem dL_law_361 : decode cL_law 361 = .ok (.iconst 2, 1) := decAll_at dLg_0_2 16 rfl
theorem dL_law_362 : decode cL_law 362 = .ok (.iadd, 1) := decAll_at dLg_0_2 17 rfl
theorem dL_law_363 : decode cL_law 363 = .ok (.iaload, 1) := decAll_at dLg_0_2 18 rfl
theorem dL_law_364 : decode cL_law 364 = .ok (.invokevirtual 38, 3) := decAll_at dLg_0_2 19 rfl
theorem dL_law_367 : decode cL_law 367 = .ok (.if_icmp .eq 1963, 3) := decAll_at dLg_0_2 20 rfl
theorem dL_law_370 : decode cL_law 370 = .ok (.iconst 0, 1) := decAll_at dLg_0_2 21 rfl
theorem dL_law_371 : decode cL_law 371 = .ok (.ireturn, 1) := decAll_at dLg_0_2 22 rfl
theorem dL_law_372 : decode cL_law 372 = .ok (.aload_n 1, 1) := decAll_at dLg_0_2 23 rfl
theorem dL_law_373 : decode cL_law 373 = .ok (.aload_n 0, 1) := decAll_at dLg_0_2 24 rfl
theorem dL_law_374 : decode cL_law 374 = .ok (.iload 4, 2) := decAll_at dLg_0_2 25 rfl
theorem dL_law_376 : decode cL_law 376 = .ok (.iconst 1, 1) := decAll_at dLg_0_2 26 rfl
theorem dL_law_377 : decode cL_law 377 = .ok (.iadd, 1) := decAll_at dLg_0_2 27 rfl
theorem dL_law_378 : decode cL_law 378 = .ok (.iaload, 1) := decAll_at dLg_0_2 28 rfl
theorem dL_law_379 : decode cL_law 379 = .ok (.aload_n 0, 1) := decAll_at dLg_0_2 29 rfl
theorem dL_law_380 : decode cL_law 380 = .ok (.iload 4, 2) := decAll_at dLg_0_2 30 rfl
theorem dL_law_382 : decode cL_law 382 = .ok (.iconst 2, 1) := decAll_at dLg_0_2 31 rfl
theorem dL_law_383 : decode cL_law 383 = .ok (.iadd, 1) := decAll_at dLg_0_2 32 rfl
theorem dL_law_384 : decode cL_law 384 = .ok (.iaload, 1) := decAll_at dLg_0_2 33 rfl
theorem dL_law_385 : decode cL_law 385 = .ok (.aload_n 0, 1) := decAll_at dLg_0_2 34 rfl
theorem dL_law_386 : decode cL_law 386 = .ok (.iload 4, 2) := decAll_at dLg_0_2 35 rfl
theorem dL_law_388 : decode cL_law 388 = .ok (.iconst 3, 1) := decAll_at dLg_0_2 36 rfl
theorem dL_law_389 : decode cL_law 389 = .ok (.iadd, 1) := decAll_at dLg_0_2 37 rfl
theorem dL_law_390 : decode cL_law 390 = .ok (.iaload, 1) := decAll_at dLg_0_2 38 rfl
theorem dL_law_391 : decode cL_law 391 = .ok (.invokevirtual 39, 3) := decAll_at dLg_0_2 39 rfl
theorem dL_law_394 : decode cL_law 394 = .ok (.aload_n 2, 1) := decAll_at dLg_0_2 40 rfl
theorem dL_law_395 : decode cL_law 395 = .ok (.aload_n 0, 1) := decAll_at dLg_0_2 41 rfl
theorem dL_law_396 : decode cL_law 396 = .ok (.iload 4, 2) := decAll_at dLg_0_2 42 rfl
theorem dL_law_398 : decode cL_law 398 = .ok (.iconst 1, 1) := decAll_at dLg_0_2 43 rfl
theorem dL_law_399 : decode cL_law 399 = .ok (.iadd, 1) := decAll_at dLg_0_2 44 rfl
theorem dL_law_400 : decode cL_law 400 = .ok (.iaload, 1) := decAll_at dLg_0_2 45 rfl
theorem dL_law_401 : decode cL_law 401 = .ok (.aload_n 0, 1) := decAll_at dLg_0_2 46 rfl
theorem dL_law_402 : decode cL_law 402 = .ok (.iload 4, 2) := decAll_at dLg_0_2 47 rfl
theorem dL_law_404 : decode cL_law 404 = .ok (.iconst 2, 1) := decAll_at dLg_0_2 48 rfl
theorem dL_law_405 : decode cL_law 405 = .ok (.iadd, 1) := decAll_at dLg_0_2 49 rfl
set_option maxRecDepth 100000 in
theorem dLg_0_3 : decAll cL_law [(406, .iaload, 1), (407, .aload_n 0, 1), (408, .iload 4, 2), (410, .iconst 3, 1), (411, .iadd, 1), (412, .iaload, 1), (413, .invokevirtual 43, 3), (416, .if_icmp .eq 1914, 3), (419, .iconst 0, 1), (420, .ireturn, 1), (421, .aload_n 1, 1), (422, .aload_n 0, 1), (423, .iload 4, 2), (425, .iconst 1, 1), (426, .iadd, 1), (427, .iaload, 1), (428, .invokevirtual 44, 3), (431, .aload_n 2, 1), (432, .aload_n 0, 1), (433, .iload 4, 2), (435, .iconst 1, 1), (436, .iadd, 1), (437, .iaload, 1), (438, .invokevirtual 47, 3), (441, .if_icmp .eq 1889, 3), (444, .iconst 0, 1), (445, .ireturn, 1), (446, .aload_n 1, 1), (447, .aload_n 0, 1), (448, .iload 4, 2), (450, .iconst 1, 1), (451, .iadd, 1), (452, .iaload, 1), (453, .aload_n 0, 1), (454, .iload 4, 2), (456, .iconst 2, 1), (457, .iadd, 1), (458, .iaload, 1), (459, .invokevirtual 48, 3), (462, .aload_n 2, 1), (463, .aload_n 0, 1), (464, .iload 4, 2), (466, .iconst 1, 1), (467, .iadd, 1), (468, .iaload, 1), (469, .aload_n 0, 1), (470, .iload 4, 2), (472, .iconst 2, 1), (473, .iadd, 1), (474, .iaload, 1)] = true := by decide +kernel
theorem dL_law_406 : decode cL_law 406 = .ok (.iaload, 1) := decAll_at dLg_0_3 0 rfl
theorem dL_law_407 : decode cL_law 407 = .ok (.aload_n 0, 1) := decAll_at dLg_0_3 1 rfl
theorem dL_law_408 : decode cL_law 408 = .ok (.iload 4, 2) := decAll_at dLg_0_3 2 rfl
theorem dL_law_410 : decode cL_law 410 = .ok (.iconst 3, 1) := decAll_at dLg_0_3 3 rfl
theorem dL_law_411 : decode cL_law 411 = .ok (.iadd, 1) := decAll_at dLg_0_3 4 rfl
theorem dL_law_412 : decode cL_law 412 = .ok (.iaload, 1) := decAll_at dLg_0_3 5 rfl
theorem dL_law_413 : decode cL_law 413 = .ok (.invokevirtual 43, 3) := decAll_at dLg_0_3 6 rfl
theorem dL_law_416 : decode cL_law 416 = .ok (.if_icmp .eq 1914, 3) := decAll_at dLg_0_3 7 rfl
theorem dL_law_419 : decode cL_law 419 = .ok (.iconst 0, 1) := decAll_at dLg_0_3 8 rfl
theorem dL_law_420 : decode cL_law 420 = .ok (.ireturn, 1) := decAll_at dLg_0_3 9 rfl
theorem dL_law_421 : decode cL_law 421 = .ok (.aload_n 1, 1) := decAll_at dLg_0_3 10 rfl
theorem dL_law_422 : decode cL_law 422 = .ok (.aload_n 0, 1) := decAll_at dLg_0_3 11 rfl
theorem dL_law_423 : decode cL_law 423 = .ok (.iload 4, 2) := decAll_at dLg_0_3 12 rfl
theorem dL_law_425 : decode cL_law 425 = .ok (.iconst 1, 1) := decAll_at dLg_0_3 13 rfl
theorem dL_law_426 : decode cL_law 426 = .ok (.iadd, 1) := decAll_at dLg_0_3 14 rfl
theorem dL_law_427 : decode cL_law 427 = .ok (.iaload, 1) := decAll_at dLg_0_3 15 rfl
theorem dL_law_428 : decode cL_law 428 = .ok (.invokevirtual 44, 3) := decAll_at dLg_0_3 16 rfl
theorem dL_law_431 : decode cL_law 431 = .ok (.aload_n 2, 1) := decAll_at dLg_0_3 17 rfl
theorem dL_law_432 : decode cL_law 432 = .ok (.aload_n 0, 1) := decAll_at dLg_0_3 18 rfl
theorem dL_law_433 : decode cL_law 433 = .ok (.iload 4, 2) := decAll_at dLg_0_3 19 rfl
theorem dL_law_435 : decode cL_law 435 = .ok (.iconst 1, 1) := decAll_at dLg_0_3 20 rfl
theorem dL_law_436 : decode cL_law 436 = .ok (.iadd, 1) := decAll_at dLg_0_3 21 rfl
theorem dL_law_437 : decode cL_law 437 = .ok (.iaload, 1) := decAll_at dLg_0_3 22 rfl
theorem dL_law_438 : decode cL_law 438 = .ok (.invokevirtual 47, 3) := decAll_at dLg_0_3 23 rfl
theorem dL_law_441 : decode cL_law 441 = .ok (.if_icmp .eq 1889, 3) := decAll_at dLg_0_3 24 rfl
theorem dL_law_444 : decode cL_law 444 = .ok (.iconst 0, 1) := decAll_at dLg_0_3 25 rfl
theorem dL_law_445 : decode cL_law 445 = .ok (.ireturn, 1) := decAll_at dLg_0_3 26 rfl
theorem dL_law_446 : decode cL_law 446 = .ok (.aload_n 1, 1) := decAll_at dLg_0_3 27 rfl
theorem dL_law_447 : decode cL_law 447 = .ok (.aload_n 0, 1) := decAll_at dLg_0_3 28 rfl
theorem dL_law_448 : decode cL_law 448 = .ok (.iload 4, 2) := decAll_at dLg_0_3 29 rfl
theorem dL_law_450 : decode cL_law 450 = .ok (.iconst 1, 1) := decAll_at dLg_0_3 30 rfl
theorem dL_law_451 : decode cL_law 451 = .ok (.iadd, 1) := decAll_at dLg_0_3 31 rfl
theorem dL_law_452 : decode cL_law 452 = .ok (.iaload, 1) := decAll_at dLg_0_3 32 rfl
theorem dL_law_453 : decode cL_law 453 = .ok (.aload_n 0, 1) := decAll_at dLg_0_3 33 rfl
theorem dL_law_454 : decode cL_law 454 = .ok (.iload 4, 2) := decAll_at dLg_0_3 34 rfl
theorem dL_law_456 : decode cL_law 456 = .ok (.iconst 2, 1) := decAll_at dLg_0_3 35 rfl
theorem dL_law_457 : decode cL_law 457 = .ok (.iadd, 1) := decAll_at dLg_0_3 36 rfl
theorem dL_law_458 : decode cL_law 458 = .ok (.iaload, 1) := decAll_at dLg_0_3 37 rfl
theorem dL_law_459 : decode cL_law 459 = .ok (.invokevirtual 48, 3) := decAll_at dLg_0_3 38 rfl
theorem dL_law_462 : decode cL_law 462 = .ok (.aload_n 2, 1) := decAll_at dLg_0_3 39 rfl
theorem dL_law_463 : decode cL_law 463 = .ok (.aload_n 0, 1) := decAll_at dLg_0_3 40 rfl
theorem dL_law_464 : decode cL_law 464 = .ok (.iload 4, 2) := decAll_at dLg_0_3 41 rfl
theorem dL_law_466 : decode cL_law 466 = .ok (.iconst 1, 1) := decAll_at dLg_0_3 42 rfl
theorem dL_law_467 : decode cL_law 467 = .ok (.iadd, 1) := decAll_at dLg_0_3 43 rfl
theorem dL_law_468 : decode cL_law 468 = .ok (.iaload, 1) := decAll_at dLg_0_3 44 rfl
theorem dL_law_469 : decode cL_law 469 = .ok (.aload_n 0, 1) := decAll_at dLg_0_3 45 rfl
theorem dL_law_470 : decode cL_law 470 = .ok (.iload 4, 2) := decAll_at dLg_0_3 46 rfl
theorem dL_law_472 : decode cL_law 472 = .ok (.iconst 2, 1) := decAll_at dLg_0_3 47 rfl
theorem dL_law_473 : decode cL_law 473 = .ok (.iadd, 1) := decAll_at dLg_0_3 48 rfl
theorem dL_law_474 : decode cL_law 474 = .ok (.iaload, 1) := decAll_at dLg_0_3 49 rfl
set_option maxRecDepth 100000 in
theorem dLg_0_4 : decAll cL_law [(475, .invokevirtual 51, 3), (478, .if_icmp .eq 1852, 3), (481, .iconst 0, 1), (482, .ireturn, 1), (483, .aload_n 1, 1), (484, .aload_n 0, 1), (485, .iload 4, 2), (487, .iconst 1, 1), (488, .iadd, 1), (489, .iaload, 1), (490, .aload_n 0, 1), (491, .iload 4, 2), (493, .iconst 2, 1), (494, .iadd, 1), (495, .iaload, 1), (496, .invokevirtual 52, 3), (499, .aload_n 2, 1), (500, .aload_n 0, 1), (501, .iload 4, 2), (503, .iconst 1, 1), (504, .iadd, 1), (505, .iaload, 1), (506, .aload_n 0, 1), (507, .iload 4, 2), (509, .iconst 2, 1), (510, .iadd, 1), (511, .iaload, 1), (512, .invokevirtual 55, 3), (515, .if_icmp .eq 1815, 3), (518, .iconst 0, 1), (519, .ireturn, 1), (520, .aload_n 1, 1), (521, .aload_n 0, 1), (522, .iload 4, 2), (524, .iconst 1, 1), (525, .iadd, 1), (526, .iaload, 1), (527, .aload_n 0, 1), (528, .iload 4, 2), (530, .iconst 2, 1), (531, .iadd, 1), (532, .iaload, 1), (533, .aload_n 0, 1), (534, .iload 4, 2), (536, .iconst 3, 1), (537, .iadd, 1), (538, .iaload, 1), (539, .aload_n 0, 1), (540, .iload 4, 2), (542, .iconst 4, 1)] = true := by decide +kernel
theorem dL_law_475 : decode cL_law 475 = .ok (.invokevirtual 51, 3) := decAll_at dLg_0_4 0 rfl
theorem dL_law_478 : decode cL_law 478 = .ok (.if_icmp .eq 1852, 3) := decAll_at dLg_0_4 1 rfl
theorem dL_law_481 : decode cL_law 481 = .ok (.iconst 0, 1) := decAll_at dLg_0_4 2 rfl
theorem dL_law_482 : decode cL_law 482 = .ok (.ireturn, 1) := decAll_at dLg_0_4 3 rfl
theorem dL_law_483 : decode cL_law 483 = .ok (.aload_n 1, 1) := decAll_at dLg_0_4 4 rfl
theorem dL_law_484 : decode cL_law 484 = .ok (.aload_n 0, 1) := decAll_at dLg_0_4 5 rfl
theorem dL_law_485 : decode cL_law 485 = .ok (.iload 4, 2) := decAll_at dLg_0_4 6 rfl
theorem dL_law_487 : decode cL_law 487 = .ok (.iconst 1, 1) := decAll_at dLg_0_4 7 rfl
theorem dL_law_488 : decode cL_law 488 = .ok (.iadd, 1) := decAll_at dLg_0_4 8 rfl
theorem dL_law_489 : decode cL_law 489 = .ok (.iaload, 1) := decAll_at dLg_0_4 9 rfl
theorem dL_law_490 : decode cL_law 490 = .ok (.aload_n 0, 1) := decAll_at dLg_0_4 10 rfl
theorem dL_law_491 : decode cL_law 491 = .ok (.iload 4, 2) := decAll_at dLg_0_4 11 rfl
theorem dL_law_493 : decode cL_law 493 = .ok (.iconst 2, 1) := decAll_at dLg_0_4 12 rfl
theorem dL_law_494 : decode cL_law 494 = .ok (.iadd, 1) := decAll_at dLg_0_4 13 rfl
theorem dL_law_495 : decode cL_law 495 = .ok (.iaload, 1) := decAll_at dLg_0_4 14 rfl
theorem dL_law_496 : decode cL_law 496 = .ok (.invokevirtual 52, 3) := decAll_at dLg_0_4 15 rfl
theorem dL_law_499 : decode cL_law 499 = .ok (.aload_n 2, 1) := decAll_at dLg_0_4 16 rfl
theorem dL_law_500 : decode cL_law 500 = .ok (.aload_n 0, 1) := decAll_at dLg_0_4 17 rfl
theorem dL_law_501 : decode cL_law 501 = .ok (.iload 4, 2) := decAll_at dLg_0_4 18 rfl
theorem dL_law_503 : decode cL_law 503 = .ok (.iconst 1, 1) := decAll_at dLg_0_4 19 rfl
theorem dL_law_504 : decode cL_law 504 = .ok (.iadd, 1) := decAll_at dLg_0_4 20 rfl
theorem dL_law_505 : decode cL_law 505 = .ok (.iaload, 1) := decAll_at dLg_0_4 21 rfl
theorem dL_law_506 : decode cL_law 506 = .ok (.aload_n 0, 1) := decAll_at dLg_0_4 22 rfl
theorem dL_law_507 : decode cL_law 507 = .ok (.iload 4, 2) := decAll_at dLg_0_4 23 rfl
theorem dL_law_509 : decode cL_law 509 = .ok (.iconst 2, 1) := decAll_at dLg_0_4 24 rfl
theorem dL_law_510 : decode cL_law 510 = .ok (.iadd, 1) := decAll_at dLg_0_4 25 rfl
theorem dL_law_511 : decode cL_law 511 = .ok (.iaload, 1) := decAll_at dLg_0_4 26 rfl
theorem dL_law_512 : decode cL_law 512 = .ok (.invokevirtual 55, 3) := decAll_at dLg_0_4 27 rfl
theorem dL_law_515 : decode cL_law 515 = .ok (.if_icmp .eq 1815, 3) := decAll_at dLg_0_4 28 rfl
theorem dL_law_518 : decode cL_law 518 = .ok (.iconst 0, 1) := decAll_at dLg_0_4 29 rfl
theorem dL_law_519 : decode cL_law 519 = .ok (.ireturn, 1) := decAll_at dLg_0_4 30 rfl
theorem dL_law_520 : decode cL_law 520 = .ok (.aload_n 1, 1) := decAll_at dLg_0_4 31 rfl
theorem dL_law_521 : decode cL_law 521 = .ok (.aload_n 0, 1) := decAll_at dLg_0_4 32 rfl
theorem dL_law_522 : decode cL_law 522 = .ok (.iload 4, 2) := decAll_at dLg_0_4 33 rfl
theorem dL_law_524 : decode cL_law 524 = .ok (.iconst 1, 1) := decAll_at dLg_0_4 34 rfl
theorem dL_law_525 : decode cL_law 525 = .ok (.iadd, 1) := decAll_at dLg_0_4 35 rfl
theorem dL_law_526 : decode cL_law 526 = .ok (.iaload, 1) := decAll_at dLg_0_4 36 rfl
theorem dL_law_527 : decode cL_law 527 = .ok (.aload_n 0, 1) := decAll_at dLg_0_4 37 rfl
theorem dL_law_528 : decode cL_law 528 = .ok (.iload 4, 2) := decAll_at dLg_0_4 38 rfl
theorem dL_law_530 : decode cL_law 530 = .ok (.iconst 2, 1) := decAll_at dLg_0_4 39 rfl
theorem dL_law_531 : decode cL_law 531 = .ok (.iadd, 1) := decAll_at dLg_0_4 40 rfl
theorem dL_law_532 : decode cL_law 532 = .ok (.iaload, 1) := decAll_at dLg_0_4 41 rfl
theorem dL_law_533 : decode cL_law 533 = .ok (.aload_n 0, 1) := decAll_at dLg_0_4 42 rfl
theorem dL_law_534 : decode cL_law 534 = .ok (.iload 4, 2) := decAll_at dLg_0_4 43 rfl
theorem dL_law_536 : decode cL_law 536 = .ok (.iconst 3, 1) := decAll_at dLg_0_4 44 rfl
theorem dL_law_537 : decode cL_law 537 = .ok (.iadd, 1) := decAll_at dLg_0_4 45 rfl
theorem dL_law_538 : decode cL_law 538 = .ok (.iaload, 1) := decAll_at dLg_0_4 46 rfl
theorem dL_law_539 : decode cL_law 539 = .ok (.aload_n 0, 1) := decAll_at dLg_0_4 47 rfl
theorem dL_law_540 : decode cL_law 540 = .ok (.iload 4, 2) := decAll_at dLg_0_4 48 rfl
theorem dL_law_542 : decode cL_law 542 = .ok (.iconst 4, 1) := decAll_at dLg_0_4 49 rfl
set_option maxRecDepth 100000 in
theorem dLg_0_5 : decAll cL_law [(543, .iadd, 1), (544, .iaload, 1), (545, .invokevirtual 56, 3), (548, .aload_n 2, 1), (549, .aload_n 0, 1), (550, .iload 4, 2), (552, .iconst 1, 1), (553, .iadd, 1), (554, .iaload, 1), (555, .aload_n 0, 1), (556, .iload 4, 2), (558, .iconst 2, 1), (559, .iadd, 1), (560, .iaload, 1), (561, .aload_n 0, 1), (562, .iload 4, 2), (564, .iconst 3, 1), (565, .iadd, 1), (566, .iaload, 1), (567, .aload_n 0, 1), (568, .iload 4, 2), (570, .iconst 4, 1), (571, .iadd, 1), (572, .iaload, 1), (573, .invokevirtual 60, 3), (576, .if_icmp .eq 1754, 3), (579, .iconst 0, 1), (580, .ireturn, 1), (581, .aload_n 1, 1), (582, .aload_n 0, 1), (583, .iload 4, 2), (585, .iconst 1, 1), (586, .iadd, 1), (587, .iaload, 1), (588, .aload_n 0, 1), (589, .iload 4, 2), (591, .iconst 2, 1), (592, .iadd, 1), (593, .iaload, 1), (594, .aload_n 0, 1), (595, .iload 4, 2), (597, .iconst 3, 1), (598, .iadd, 1), (599, .iaload, 1), (600, .aload_n 0, 1), (601, .iload 4, 2), (603, .iconst 4, 1), (604, .iadd, 1), (605, .iaload, 1), (606, .aload_n 0, 1)] = true := by decide +kernel
theorem dL_law_543 : decode cL_law 543 = .ok (.iadd, 1) := decAll_at dLg_0_5 0 rfl
theorem dL_law_544 : decode cL_law 544 = .ok (.iaload, 1) := decAll_at dLg_0_5 1 rfl
theorem dL_law_545 : decode cL_law 545 = .ok (.invokevirtual 56, 3) := decAll_at dLg_0_5 2 rfl
theorem dL_law_548 : decode cL_law 548 = .ok (.aload_n 2, 1) := decAll_at dLg_0_5 3 rfl
theorem dL_law_549 : decode cL_law 549 = .ok (.aload_n 0, 1) := decAll_at dLg_0_5 4 rfl
theorem dL_law_550 : decode cL_law 550 = .ok (.iload 4, 2) := decAll_at dLg_0_5 5 rfl
theorem dL_law_552 : decode cL_law 552 = .ok (.iconst 1, 1) := decAll_at dLg_0_5 6 rfl
theorem dL_law_553 : decode cL_law 553 = .ok (.iadd, 1) := decAll_at dLg_0_5 7 rfl
theorem dL_law_554 : decode cL_law 554 = .ok (.iaload, 1) := decAll_at dLg_0_5 8 rfl
theorem dL_law_555 : decode cL_law 555 = .ok (.aload_n 0, 1) := decAll_at dLg_0_5 9 rfl
theorem dL_law_556 : decode cL_law 556 = .ok (.iload 4, 2) := decAll_at dLg_0_5 10 rfl
theorem dL_law_558 : decode cL_law 558 = .ok (.iconst 2, 1) := decAll_at dLg_0_5 11 rfl
theorem dL_law_559 : decode cL_law 559 = .ok (.iadd, 1) := decAll_at dLg_0_5 12 rfl
theorem dL_law_560 : decode cL_law 560 = .ok (.iaload, 1) := decAll_at dLg_0_5 13 rfl
theorem dL_law_561 : decode cL_law 561 = .ok (.aload_n 0, 1) := decAll_at dLg_0_5 14 rfl
theorem dL_law_562 : decode cL_law 562 = .ok (.iload 4, 2) := decAll_at dLg_0_5 15 rfl
theorem dL_law_564 : decode cL_law 564 = .ok (.iconst 3, 1) := decAll_at dLg_0_5 16 rfl
theorem dL_law_565 : decode cL_law 565 = .ok (.iadd, 1) := decAll_at dLg_0_5 17 rfl
theorem dL_law_566 : decode cL_law 566 = .ok (.iaload, 1) := decAll_at dLg_0_5 18 rfl
theorem dL_law_567 : decode cL_law 567 = .ok (.aload_n 0, 1) := decAll_at dLg_0_5 19 rfl
theorem dL_law_568 : decode cL_law 568 = .ok (.iload 4, 2) := decAll_at dLg_0_5 20 rfl
theorem dL_law_570 : decode cL_law 570 = .ok (.iconst 4, 1) := decAll_at dLg_0_5 21 rfl
theorem dL_law_571 : decode cL_law 571 = .ok (.iadd, 1) := decAll_at dLg_0_5 22 rfl
theorem dL_law_572 : decode cL_law 572 = .ok (.iaload, 1) := decAll_at dLg_0_5 23 rfl
theorem dL_law_573 : decode cL_law 573 = .ok (.invokevirtual 60, 3) := decAll_at dLg_0_5 24 rfl
theorem dL_law_576 : decode cL_law 576 = .ok (.if_icmp .eq 1754, 3) := decAll_at dLg_0_5 25 rfl
theorem dL_law_579 : decode cL_law 579 = .ok (.iconst 0, 1) := decAll_at dLg_0_5 26 rfl
theorem dL_law_580 : decode cL_law 580 = .ok (.ireturn, 1) := decAll_at dLg_0_5 27 rfl
theorem dL_law_581 : decode cL_law 581 = .ok (.aload_n 1, 1) := decAll_at dLg_0_5 28 rfl
theorem dL_law_582 : decode cL_law 582 = .ok (.aload_n 0, 1) := decAll_at dLg_0_5 29 rfl
theorem dL_law_583 : decode cL_law 583 = .ok (.iload 4, 2) := decAll_at dLg_0_5 30 rfl
theorem dL_law_585 : decode cL_law 585 = .ok (.iconst 1, 1) := decAll_at dLg_0_5 31 rfl
theorem dL_law_586 : decode cL_law 586 = .ok (.iadd, 1) := decAll_at dLg_0_5 32 rfl
theorem dL_law_587 : decode cL_law 587 = .ok (.iaload, 1) := decAll_at dLg_0_5 33 rfl
theorem dL_law_588 : decode cL_law 588 = .ok (.aload_n 0, 1) := decAll_at dLg_0_5 34 rfl
theorem dL_law_589 : decode cL_law 589 = .ok (.iload 4, 2) := decAll_at dLg_0_5 35 rfl
theorem dL_law_591 : decode cL_law 591 = .ok (.iconst 2, 1) := decAll_at dLg_0_5 36 rfl
theorem dL_law_592 : decode cL_law 592 = .ok (.iadd, 1) := decAll_at dLg_0_5 37 rfl
theorem dL_law_593 : decode cL_law 593 = .ok (.iaload, 1) := decAll_at dLg_0_5 38 rfl
theorem dL_law_594 : decode cL_law 594 = .ok (.aload_n 0, 1) := decAll_at dLg_0_5 39 rfl
theorem dL_law_595 : decode cL_law 595 = .ok (.iload 4, 2) := decAll_at dLg_0_5 40 rfl
theorem dL_law_597 : decode cL_law 597 = .ok (.iconst 3, 1) := decAll_at dLg_0_5 41 rfl
theorem dL_law_598 : decode cL_law 598 = .ok (.iadd, 1) := decAll_at dLg_0_5 42 rfl
theorem dL_law_599 : decode cL_law 599 = .ok (.iaload, 1) := decAll_at dLg_0_5 43 rfl
theorem dL_law_600 : decode cL_law 600 = .ok (.aload_n 0, 1) := decAll_at dLg_0_5 44 rfl
theorem dL_law_601 : decode cL_law 601 = .ok (.iload 4, 2) := decAll_at dLg_0_5 45 rfl
theorem dL_law_603 : decode cL_law 603 = .ok (.iconst 4, 1) := decAll_at dLg_0_5 46 rfl
theorem dL_law_604 : decode cL_law 604 = .ok (.iadd, 1) := decAll_at dLg_0_5 47 rfl
theorem dL_law_605 : decode cL_law 605 = .ok (.iaload, 1) := decAll_at dLg_0_5 48 rfl
theorem dL_law_606 : decode cL_law 606 = .ok (.aload_n 0, 1) := decAll_at dLg_0_5 49 rfl
set_option maxRecDepth 100000 in
theorem dLg_0_6 : decAll cL_law [(607, .iload 4, 2), (609, .iconst 5, 1), (610, .iadd, 1), (611, .iaload, 1), (612, .invokevirtual 61, 3), (615, .aload_n 2, 1), (616, .aload_n 0, 1), (617, .iload 4, 2), (619, .iconst 1, 1), (620, .iadd, 1), (621, .iaload, 1), (622, .aload_n 0, 1), (623, .iload 4, 2), (625, .iconst 2, 1), (626, .iadd, 1), (627, .iaload, 1), (628, .aload_n 0, 1), (629, .iload 4, 2), (631, .iconst 3, 1), (632, .iadd, 1), (633, .iaload, 1), (634, .aload_n 0, 1), (635, .iload 4, 2), (637, .iconst 4, 1), (638, .iadd, 1), (639, .iaload, 1), (640, .aload_n 0, 1), (641, .iload 4, 2), (643, .iconst 5, 1), (644, .iadd, 1), (645, .iaload, 1), (646, .invokevirtual 65, 3), (649, .if_icmp .eq 1681, 3), (652, .iconst 0, 1), (653, .ireturn, 1), (654, .aload_n 1, 1), (655, .aload_n 0, 1), (656, .iload 4, 2), (658, .iconst 1, 1), (659, .iadd, 1), (660, .iaload, 1), (661, .aload_n 0, 1), (662, .iload 4, 2), (664, .iconst 2, 1), (665, .iadd, 1), (666, .iaload, 1), (667, .aload_n 0, 1), (668, .iload 4, 2), (670, .iconst 3, 1), (671, .iadd, 1)] = true := by decide +kernel
theorem dL_law_607 : decode cL_law 607 = .ok (.iload 4, 2) := decAll_at dLg_0_6 0 rfl
theorem dL_law_609 : decode cL_law 609 = .ok (.iconst 5, 1) := decAll_at dLg_0_6 1 rfl
theorem dL_law_610 : decode cL_law 610 = .ok (.iadd, 1) := decAll_at dLg_0_6 2 rfl
theorem dL_law_611 : decode cL_law 611 = .ok (.iaload, 1) := decAll_at dLg_0_6 3 rfl
theorem dL_law_612 : decode cL_law 612 = .ok (.invokevirtual 61, 3) := decAll_at dLg_0_6 4 rfl
theorem dL_law_615 : decode cL_law 615 = .ok (.aload_n 2, 1) := decAll_at dLg_0_6 5 rfl
theorem dL_law_616 : decode cL_law 616 = .ok (.aload_n 0, 1) := decAll_at dLg_0_6 6 rfl
theorem dL_law_617 : decode cL_law 617 = .ok (.iload 4, 2) := decAll_at dLg_0_6 7 rfl
theorem dL_law_619 : decode cL_law 619 = .ok (.iconst 1, 1) := decAll_at dLg_0_6 8 rfl
theorem dL_law_620 : decode cL_law 620 = .ok (.iadd, 1) := decAll_at dLg_0_6 9 rfl
theorem dL_law_621 : decode cL_law 621 = .ok (.iaload, 1) := decAll_at dLg_0_6 10 rfl
theorem dL_law_622 : decode cL_law 622 = .ok (.aload_n 0, 1) := decAll_at dLg_0_6 11 rfl
theorem dL_law_623 : decode cL_law 623 = .ok (.iload 4, 2) := decAll_at dLg_0_6 12 rfl
theorem dL_law_625 : decode cL_law 625 = .ok (.iconst 2, 1) := decAll_at dLg_0_6 13 rfl
theorem dL_law_626 : decode cL_law 626 = .ok (.iadd, 1) := decAll_at dLg_0_6 14 rfl
theorem dL_law_627 : decode cL_law 627 = .ok (.iaload, 1) := decAll_at dLg_0_6 15 rfl
theorem dL_law_628 : decode cL_law 628 = .ok (.aload_n 0, 1) := decAll_at dLg_0_6 16 rfl
theorem dL_law_629 : decode cL_law 629 = .ok (.iload 4, 2) := decAll_at dLg_0_6 17 rfl
theorem dL_law_631 : decode cL_law 631 = .ok (.iconst 3, 1) := decAll_at dLg_0_6 18 rfl
theorem dL_law_632 : decode cL_law 632 = .ok (.iadd, 1) := decAll_at dLg_0_6 19 rfl
theorem dL_law_633 : decode cL_law 633 = .ok (.iaload, 1) := decAll_at dLg_0_6 20 rfl
theorem dL_law_634 : decode cL_law 634 = .ok (.aload_n 0, 1) := decAll_at dLg_0_6 21 rfl
theorem dL_law_635 : decode cL_law 635 = .ok (.iload 4, 2) := decAll_at dLg_0_6 22 rfl
theorem dL_law_637 : decode cL_law 637 = .ok (.iconst 4, 1) := decAll_at dLg_0_6 23 rfl
theorem dL_law_638 : decode cL_law 638 = .ok (.iadd, 1) := decAll_at dLg_0_6 24 rfl
theorem dL_law_639 : decode cL_law 639 = .ok (.iaload, 1) := decAll_at dLg_0_6 25 rfl
theorem dL_law_640 : decode cL_law 640 = .ok (.aload_n 0, 1) := decAll_at dLg_0_6 26 rfl
theorem dL_law_641 : decode cL_law 641 = .ok (.iload 4, 2) := decAll_at dLg_0_6 27 rfl
theorem dL_law_643 : decode cL_law 643 = .ok (.iconst 5, 1) := decAll_at dLg_0_6 28 rfl
theorem dL_law_644 : decode cL_law 644 = .ok (.iadd, 1) := decAll_at dLg_0_6 29 rfl
theorem dL_law_645 : decode cL_law 645 = .ok (.iaload, 1) := decAll_at dLg_0_6 30 rfl
theorem dL_law_646 : decode cL_law 646 = .ok (.invokevirtual 65, 3) := decAll_at dLg_0_6 31 rfl
theorem dL_law_649 : decode cL_law 649 = .ok (.if_icmp .eq 1681, 3) := decAll_at dLg_0_6 32 rfl
theorem dL_law_652 : decode cL_law 652 = .ok (.iconst 0, 1) := decAll_at dLg_0_6 33 rfl
theorem dL_law_653 : decode cL_law 653 = .ok (.ireturn, 1) := decAll_at dLg_0_6 34 rfl
theorem dL_law_654 : decode cL_law 654 = .ok (.aload_n 1, 1) := decAll_at dLg_0_6 35 rfl
theorem dL_law_655 : decode cL_law 655 = .ok (.aload_n 0, 1) := decAll_at dLg_0_6 36 rfl
theorem dL_law_656 : decode cL_law 656 = .ok (.iload 4, 2) := decAll_at dLg_0_6 37 rfl
theorem dL_law_658 : decode cL_law 658 = .ok (.iconst 1, 1) := decAll_at dLg_0_6 38 rfl
theorem dL_law_659 : decode cL_law 659 = .ok (.iadd, 1) := decAll_at dLg_0_6 39 rfl
theorem dL_law_660 : decode cL_law 660 = .ok (.iaload, 1) := decAll_at dLg_0_6 40 rfl
theorem dL_law_661 : decode cL_law 661 = .ok (.aload_n 0, 1) := decAll_at dLg_0_6 41 rfl
theorem dL_law_662 : decode cL_law 662 = .ok (.iload 4, 2) := decAll_at dLg_0_6 42 rfl
theorem dL_law_664 : decode cL_law 664 = .ok (.iconst 2, 1) := decAll_at dLg_0_6 43 rfl
theorem dL_law_665 : decode cL_law 665 = .ok (.iadd, 1) := decAll_at dLg_0_6 44 rfl
theorem dL_law_666 : decode cL_law 666 = .ok (.iaload, 1) := decAll_at dLg_0_6 45 rfl
theorem dL_law_667 : decode cL_law 667 = .ok (.aload_n 0, 1) := decAll_at dLg_0_6 46 rfl
theorem dL_law_668 : decode cL_law 668 = .ok (.iload 4, 2) := decAll_at dLg_0_6 47 rfl
theorem dL_law_670 : decode cL_law 670 = .ok (.iconst 3, 1) := decAll_at dLg_0_6 48 rfl
theorem dL_law_671 : decode cL_law 671 = .ok (.iadd, 1) := decAll_at dLg_0_6 49 rfl
set_option maxRecDepth 100000 in
theorem dLg_0_7 : decAll cL_law [(672, .iaload, 1), (673, .aload_n 0, 1), (674, .iload 4, 2), (676, .iconst 4, 1), (677, .iadd, 1), (678, .iaload, 1), (679, .invokevirtual 66, 3), (682, .aload_n 2, 1), (683, .aload_n 0, 1), (684, .iload 4, 2), (686, .iconst 1, 1), (687, .iadd, 1), (688, .iaload, 1), (689, .aload_n 0, 1), (690, .iload 4, 2), (692, .iconst 2, 1), (693, .iadd, 1), (694, .iaload, 1), (695, .aload_n 0, 1), (696, .iload 4, 2), (698, .iconst 3, 1), (699, .iadd, 1), (700, .iaload, 1), (701, .aload_n 0, 1), (702, .iload 4, 2), (704, .iconst 4, 1), (705, .iadd, 1), (706, .iaload, 1), (707, .invokevirtual 69, 3), (710, .if_icmp .eq 1620, 3), (713, .iconst 0, 1), (714, .ireturn, 1), (715, .aload_n 1, 1), (716, .aload_n 0, 1), (717, .iload 4, 2), (719, .iconst 1, 1), (720, .iadd, 1), (721, .iaload, 1), (722, .aload_n 0, 1), (723, .iload 4, 2), (725, .iconst 2, 1), (726, .iadd, 1), (727, .iaload, 1), (728, .aload_n 0, 1), (729, .iload 4, 2), (731, .iconst 3, 1), (732, .iadd, 1), (733, .iaload, 1), (734, .aload_n 0, 1), (735, .iload 4, 2)] = true := by decide +kernel
theorem dL_law_672 : decode cL_law 672 = .ok (.iaload, 1) := decAll_at dLg_0_7 0 rfl
theorem dL_law_673 : decode cL_law 673 = .ok (.aload_n 0, 1) := decAll_at dLg_0_7 1 rfl
theorem dL_law_674 : decode cL_law 674 = .ok (.iload 4, 2) := decAll_at dLg_0_7 2 rfl
theorem dL_law_676 : decode cL_law 676 = .ok (.iconst 4, 1) := decAll_at dLg_0_7 3 rfl
theorem dL_law_677 : decode cL_law 677 = .ok (.iadd, 1) := decAll_at dLg_0_7 4 rfl
theorem dL_law_678 : decode cL_law 678 = .ok (.iaload, 1) := decAll_at dLg_0_7 5 rfl
theorem dL_law_679 : decode cL_law 679 = .ok (.invokevirtual 66, 3) := decAll_at dLg_0_7 6 rfl
theorem dL_law_682 : decode cL_law 682 = .ok (.aload_n 2, 1) := decAll_at dLg_0_7 7 rfl
theorem dL_law_683 : decode cL_law 683 = .ok (.aload_n 0, 1) := decAll_at dLg_0_7 8 rfl
theorem dL_law_684 : decode cL_law 684 = .ok (.iload 4, 2) := decAll_at dLg_0_7 9 rfl
theorem dL_law_686 : decode cL_law 686 = .ok (.iconst 1, 1) := decAll_at dLg_0_7 10 rfl
theorem dL_law_687 : decode cL_law 687 = .ok (.iadd, 1) := decAll_at dLg_0_7 11 rfl
theorem dL_law_688 : decode cL_law 688 = .ok (.iaload, 1) := decAll_at dLg_0_7 12 rfl
theorem dL_law_689 : decode cL_law 689 = .ok (.aload_n 0, 1) := decAll_at dLg_0_7 13 rfl
theorem dL_law_690 : decode cL_law 690 = .ok (.iload 4, 2) := decAll_at dLg_0_7 14 rfl
theorem dL_law_692 : decode cL_law 692 = .ok (.iconst 2, 1) := decAll_at dLg_0_7 15 rfl
theorem dL_law_693 : decode cL_law 693 = .ok (.iadd, 1) := decAll_at dLg_0_7 16 rfl
theorem dL_law_694 : decode cL_law 694 = .ok (.iaload, 1) := decAll_at dLg_0_7 17 rfl
theorem dL_law_695 : decode cL_law 695 = .ok (.aload_n 0, 1) := decAll_at dLg_0_7 18 rfl
theorem dL_law_696 : decode cL_law 696 = .ok (.iload 4, 2) := decAll_at dLg_0_7 19 rfl
theorem dL_law_698 : decode cL_law 698 = .ok (.iconst 3, 1) := decAll_at dLg_0_7 20 rfl
theorem dL_law_699 : decode cL_law 699 = .ok (.iadd, 1) := decAll_at dLg_0_7 21 rfl
theorem dL_law_700 : decode cL_law 700 = .ok (.iaload, 1) := decAll_at dLg_0_7 22 rfl
theorem dL_law_701 : decode cL_law 701 = .ok (.aload_n 0, 1) := decAll_at dLg_0_7 23 rfl
theorem dL_law_702 : decode cL_law 702 = .ok (.iload 4, 2) := decAll_at dLg_0_7 24 rfl
theorem dL_law_704 : decode cL_law 704 = .ok (.iconst 4, 1) := decAll_at dLg_0_7 25 rfl
theorem dL_law_705 : decode cL_law 705 = .ok (.iadd, 1) := decAll_at dLg_0_7 26 rfl
theorem dL_law_706 : decode cL_law 706 = .ok (.iaload, 1) := decAll_at dLg_0_7 27 rfl
theorem dL_law_707 : decode cL_law 707 = .ok (.invokevirtual 69, 3) := decAll_at dLg_0_7 28 rfl
theorem dL_law_710 : decode cL_law 710 = .ok (.if_icmp .eq 1620, 3) := decAll_at dLg_0_7 29 rfl
theorem dL_law_713 : decode cL_law 713 = .ok (.iconst 0, 1) := decAll_at dLg_0_7 30 rfl
theorem dL_law_714 : decode cL_law 714 = .ok (.ireturn, 1) := decAll_at dLg_0_7 31 rfl
theorem dL_law_715 : decode cL_law 715 = .ok (.aload_n 1, 1) := decAll_at dLg_0_7 32 rfl
theorem dL_law_716 : decode cL_law 716 = .ok (.aload_n 0, 1) := decAll_at dLg_0_7 33 rfl
theorem dL_law_717 : decode cL_law 717 = .ok (.iload 4, 2) := decAll_at dLg_0_7 34 rfl
theorem dL_law_719 : decode cL_law 719 = .ok (.iconst 1, 1) := decAll_at dLg_0_7 35 rfl
theorem dL_law_720 : decode cL_law 720 = .ok (.iadd, 1) := decAll_at dLg_0_7 36 rfl
theorem dL_law_721 : decode cL_law 721 = .ok (.iaload, 1) := decAll_at dLg_0_7 37 rfl
theorem dL_law_722 : decode cL_law 722 = .ok (.aload_n 0, 1) := decAll_at dLg_0_7 38 rfl
theorem dL_law_723 : decode cL_law 723 = .ok (.iload 4, 2) := decAll_at dLg_0_7 39 rfl
theorem dL_law_725 : decode cL_law 725 = .ok (.iconst 2, 1) := decAll_at dLg_0_7 40 rfl
theorem dL_law_726 : decode cL_law 726 = .ok (.iadd, 1) := decAll_at dLg_0_7 41 rfl
theorem dL_law_727 : decode cL_law 727 = .ok (.iaload, 1) := decAll_at dLg_0_7 42 rfl
theorem dL_law_728 : decode cL_law 728 = .ok (.aload_n 0, 1) := decAll_at dLg_0_7 43 rfl
theorem dL_law_729 : decode cL_law 729 = .ok (.iload 4, 2) := decAll_at dLg_0_7 44 rfl
theorem dL_law_731 : decode cL_law 731 = .ok (.iconst 3, 1) := decAll_at dLg_0_7 45 rfl
theorem dL_law_732 : decode cL_law 732 = .ok (.iadd, 1) := decAll_at dLg_0_7 46 rfl
theorem dL_law_733 : decode cL_law 733 = .ok (.iaload, 1) := decAll_at dLg_0_7 47 rfl
theorem dL_law_734 : decode cL_law 734 = .ok (.aload_n 0, 1) := decAll_at dLg_0_7 48 rfl
theorem dL_law_735 : decode cL_law 735 = .ok (.iload 4, 2) := decAll_at dLg_0_7 49 rfl
