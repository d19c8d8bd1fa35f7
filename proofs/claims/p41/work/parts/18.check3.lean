/-! PRINTED BY wip/whole/gen/pk.py: the code table against the bytes, a hundred bytes each -/
theorem vi_k_265_0 : vi_ckR 265 0 = true := by decide +kernel
theorem vi_k_266_0 : vi_ckR 266 0 = true := by decide +kernel
theorem vi_k_267_0 : vi_ckR 267 0 = true := by decide +kernel
theorem vi_k_268_0 : vi_ckR 268 0 = true := by decide +kernel
theorem vi_k_269_0 : vi_ckR 269 0 = true := by decide +kernel
theorem vi_k_270_0 : vi_ckR 270 0 = true := by decide +kernel
theorem vi_k_271_0 : vi_ckR 271 0 = true := by decide +kernel
theorem vi_k_272_0 : vi_ckR 272 0 = true := by decide +kernel
theorem vi_k_273_0 : vi_ckR 273 0 = true := by decide +kernel
theorem vi_k_274_0 : vi_ckR 274 0 = true := by decide +kernel
theorem vi_k_275_0 : vi_ckR 275 0 = true := by decide +kernel
theorem vi_k_276_0 : vi_ckR 276 0 = true := by decide +kernel
theorem vi_k_277_0 : vi_ckR 277 0 = true := by decide +kernel
theorem vi_k_278_0 : vi_ckR 278 0 = true := by decide +kernel
theorem vi_k_279_0 : vi_ckR 279 0 = true := by decide +kernel
theorem vi_k_280_0 : vi_ckR 280 0 = true := by decide +kernel
theorem vi_k_281_0 : vi_ckR 281 0 = true := by decide +kernel
theorem vi_k_282_0 : vi_ckR 282 0 = true := by decide +kernel
theorem vi_k_283_0 : vi_ckR 283 0 = true := by decide +kernel
theorem vi_k_284_0 : vi_ckR 284 0 = true := by decide +kernel
theorem vi_k_285_0 : vi_ckR 285 0 = true := by decide +kernel
theorem vi_k_286_0 : vi_ckR 286 0 = true := by decide +kernel
theorem vi_k_287_0 : vi_ckR 287 0 = true := by decide +kernel
theorem vi_k_288_0 : vi_ckR 288 0 = true := by decide +kernel
theorem vi_k_289_0 : vi_ckR 289 0 = true := by decide +kernel
theorem vi_k_290_0 : vi_ckR 290 0 = true := by decide +kernel
theorem vi_k_291_0 : vi_ckR 291 0 = true := by decide +kernel
theorem vi_k_292_0 : vi_ckR 292 0 = true := by decide +kernel
theorem vi_k_293_0 : vi_ckR 293 0 = true := by decide +kernel
theorem vi_k_294_0 : vi_ckR 294 0 = true := by decide +kernel
theorem vi_k_295_0 : vi_ckR 295 0 = true := by decide +kernel
theorem vi_k_296_0 : vi_ckR 296 0 = true := by decide +kernel
theorem vi_k_297_0 : vi_ckR 297 0 = true := by decide +kernel
theorem vi_k_298_0 : vi_ckR 298 0 = true := by decide +kernel
theorem vi_k_299_0 : vi_ckR 299 0 = true := by decide +kernel
theorem vi_k_300_0 : vi_ckR 300 0 = true := by decide +kernel
theorem vi_k_301_0 : vi_ckR 301 0 = true := by decide +kernel
theorem vi_k_302_0 : vi_ckR 302 0 = true := by decide +kernel
theorem vi_k_303_0 : vi_ckR 303 0 = true := by decide +kernel
theorem vi_k_304_0 : vi_ckR 304 0 = true := by decide +kernel
theorem vi_k_305_0 : vi_ckR 305 0 = true := by decide +kernel
theorem vi_k_306_0 : vi_ckR 306 0 = true := by decide +kernel
theorem vi_k_307_0 : vi_ckR 307 0 = true := by decide +kernel
theorem vi_k_308_0 : vi_ckR 308 0 = true := by decide +kernel
theorem vi_k_309_0 : vi_ckR 309 0 = true := by decide +kernel
theorem vi_k_310_0 : vi_ckR 310 0 = true := by decide +kernel
theorem vi_k_311_0 : vi_ckR 311 0 = true := by decide +kernel
theorem vi_k_312_0 : vi_ckR 312 0 = true := by decide +kernel
theorem vi_k_313_0 : vi_ckR 313 0 = true := by decide +kernel
theorem vi_k_314_0 : vi_ckR 314 0 = true := by decide +kernel
theorem vi_k_315_0 : vi_ckR 315 0 = true := by decide +kernel
theorem vi_k_316_0 : vi_ckR 316 0 = true := by decide +kernel
theorem vi_k_317_0 : vi_ckR 317 0 = true := by decide +kernel
theorem vi_k_318_0 : vi_ckR 318 0 = true := by decide +kernel
theorem vi_k_319_0 : vi_ckR 319 0 = true := by decide +kernel
theorem vi_k_320_0 : vi_ckR 320 0 = true := by decide +kernel
theorem vi_k_321_0 : vi_ckR 321 0 = true := by decide +kernel
theorem vi_k_322_0 : vi_ckR 322 0 = true := by decide +kernel
theorem vi_k_323_0 : vi_ckR 323 0 = true := by decide +kernel
theorem vi_k_324_0 : vi_ckR 324 0 = true := by decide +kernel
theorem vi_k_325_0 : vi_ckR 325 0 = true := by decide +kernel
theorem vi_k_326_0 : vi_ckR 326 0 = true := by decide +kernel
theorem vi_k_327_0 : vi_ckR 327 0 = true := by decide +kernel
theorem vi_k_328_0 : vi_ckR 328 0 = true := by decide +kernel
theorem vi_k_329_0 : vi_ckR 329 0 = true := by decide +kernel
theorem vi_k_330_0 : vi_ckR 330 0 = true := by decide +kernel
theorem vi_k_331_0 : vi_ckR 331 0 = true := by decide +kernel
theorem vi_k_332_0 : vi_ckR 332 0 = true := by decide +kernel
theorem vi_k_333_0 : vi_ckR 333 0 = true := by decide +kernel
theorem vi_k_334_0 : vi_ckR 334 0 = true := by decide +kernel
theorem vi_k_335_0 : vi_ckR 335 0 = true := by decide +kernel
theorem vi_k_336_0 : vi_ckR 336 0 = true := by decide +kernel
theorem vi_k_337_0 : vi_ckR 337 0 = true := by decide +kernel
theorem vi_k_338_0 : vi_ckR 338 0 = true := by decide +kernel
theorem vi_k_339_0 : vi_ckR 339 0 = true := by decide +kernel
theorem vi_k_340_0 : vi_ckR 340 0 = true := by decide +kernel
theorem vi_k_341_0 : vi_ckR 341 0 = true := by decide +kernel
theorem vi_k_342_0 : vi_ckR 342 0 = true := by decide +kernel
theorem vi_k_343_0 : vi_ckR 343 0 = true := by decide +kernel
theorem vi_k_344_0 : vi_ckR 344 0 = true := by decide +kernel
theorem vi_k_345_0 : vi_ckR 345 0 = true := by decide +kernel
theorem vi_k_346_0 : vi_ckR 346 0 = true := by decide +kernel
theorem vi_k_347_0 : vi_ckR 347 0 = true := by decide +kernel
theorem vi_k_348_0 : vi_ckR 348 0 = true := by decide +kernel
theorem vi_k_349_0 : vi_ckR 349 0 = true := by decide +kernel
theorem vi_k_350_0 : vi_ckR 350 0 = true := by decide +kernel
theorem vi_k_351_0 : vi_ckR 351 0 = true := by decide +kernel
theorem vi_k_352_0 : vi_ckR 352 0 = true := by decide +kernel
theorem vi_k_353_0 : vi_ckR 353 0 = true := by decide +kernel
theorem vi_k_354_0 : vi_ckR 354 0 = true := by decide +kernel
theorem vi_k_355_0 : vi_ckR 355 0 = true := by decide +kernel
theorem vi_k_356_0 : vi_ckR 356 0 = true := by decide +kernel
theorem vi_k_357_0 : vi_ckR 357 0 = true := by decide +kernel
theorem vi_k_358_0 : vi_ckR 358 0 = true := by decide +kernel
theorem vi_k_359_0 : vi_ckR 359 0 = true := by decide +kernel
theorem vi_k_360_0 : vi_ckR 360 0 = true := by decide +kernel
theorem vi_k_361_0 : vi_ckR 361 0 = true := by decide +kernel
theorem vi_k_362_0 : vi_ckR 362 0 = true := by decide +kernel
theorem vi_k_363_0 : vi_ckR 363 0 = true := by decide +kernel
theorem vi_k_364_0 : vi_ckR 364 0 = true := by decide +kernel
theorem vi_k_365_0 : vi_ckR 365 0 = true := by decide +kernel
theorem vi_k_366_0 : vi_ckR 366 0 = true := by decide +kernel
theorem vi_k_367_0 : vi_ckR 367 0 = true := by decide +kernel
theorem vi_k_368_0 : vi_ckR 368 0 = true := by decide +kernel
def vi_kL0 : List (Nat × Nat) := [(0, 0), (0, 1), (0, 2), (0, 3), (0, 4), (0, 5), (0, 6), (0, 7), (0, 8), (0, 9), (0, 10), (0, 11), (0, 12), (0, 13), (0, 14), (0, 15), (1, 0), (2, 0), (3, 0), (4, 0), (5, 0), (6, 0), (7, 0), (8, 0), (9, 0), (10, 0), (11, 0), (12, 0), (13, 0), (14, 0), (14, 1), (15, 0), (15, 1), (16, 0), (17, 0), (17, 1), (18, 0), (19, 0), (20, 0), (21, 0)]
theorem vi_kT0 : ∀ q ∈ vi_kL0, vi_ckR q.1 q.2 = true := List.forall_mem_cons.mpr ⟨vi_k_0_0, List.forall_mem_cons.mpr ⟨vi_k_0_1, List.forall_mem_cons.mpr ⟨vi_k_0_2, List.forall_mem_cons.mpr ⟨vi_k_0_3, List.forall_mem_cons.mpr ⟨vi_k_0_4, List.forall_mem_cons.mpr ⟨vi_k_0_5, List.forall_mem_cons.mpr ⟨vi_k_0_6, List.forall_mem_cons.mpr ⟨vi_k_0_7, List.forall_mem_cons.mpr ⟨vi_k_0_8, List.forall_mem_cons.mpr ⟨vi_k_0_9, List.forall_mem_cons.mpr ⟨vi_k_0_10, List.forall_mem_cons.mpr ⟨vi_k_0_11, List.forall_mem_cons.mpr ⟨vi_k_0_12, List.forall_mem_cons.mpr ⟨vi_k_0_13, List.forall_mem_cons.mpr ⟨vi_k_0_14, List.forall_mem_cons.mpr ⟨vi_k_0_15, List.forall_mem_cons.mpr ⟨vi_k_1_0, List.forall_mem_cons.mpr ⟨vi_k_2_0, List.forall_mem_cons.mpr ⟨vi_k_3_0, List.forall_mem_cons.mpr ⟨vi_k_4_0, List.forall_mem_cons.mpr ⟨vi_k_5_0, List.forall_mem_cons.mpr ⟨vi_k_6_0, List.forall_mem_cons.mpr ⟨vi_k_7_0, List.forall_mem_cons.mpr ⟨vi_k_8_0, List.forall_mem_cons.mpr ⟨vi_k_9_0, List.forall_mem_cons.mpr ⟨vi_k_10_0, List.forall_mem_cons.mpr ⟨vi_k_11_0, List.forall_mem_cons.mpr ⟨vi_k_12_0, List.forall_mem_cons.mpr ⟨vi_k_13_0, List.forall_mem_cons.mpr ⟨vi_k_14_0, List.forall_mem_cons.mpr ⟨vi_k_14_1, List.forall_mem_cons.mpr ⟨vi_k_15_0, List.forall_mem_cons.mpr ⟨vi_k_15_1, List.forall_mem_cons.mpr ⟨vi_k_16_0, List.forall_mem_cons.mpr ⟨vi_k_17_0, List.forall_mem_cons.mpr ⟨vi_k_17_1, List.forall_mem_cons.mpr ⟨vi_k_18_0, List.forall_mem_cons.mpr ⟨vi_k_19_0, List.forall_mem_cons.mpr ⟨vi_k_20_0, List.forall_mem_cons.mpr ⟨vi_k_21_0, fun _ h => absurd h List.not_mem_nil⟩⟩⟩⟩⟩⟩⟩⟩⟩⟩⟩⟩⟩⟩⟩⟩⟩⟩⟩⟩⟩⟩⟩⟩⟩⟩⟩⟩⟩⟩⟩⟩⟩⟩⟩⟩⟩⟩⟩⟩
def vi_kL1 : List (Nat × Nat) := [(22, 0), (23, 0), (24, 0), (25, 0), (26, 0), (27, 0), (28, 0), (29, 0), (30, 0), (31, 0), (32, 0), (33, 0), (34, 0), (35, 0), (36, 0), (37, 0), (37, 1), (38, 0), (39, 0), (40, 0), (41, 0), (42, 0), (43, 0), (44, 0), (45, 0), (46, 0), (47, 0), (48, 0), (49, 0), (50, 0), (51, 0), (52, 0), (52, 1), (53, 0), (54, 0), (55, 0), (56, 0), (57, 0), (58, 0), (59, 0)]
theorem vi_kT1 : ∀ q ∈ vi_kL1, vi_ckR q.1 q.2 = true := List.forall_mem_cons.mpr ⟨vi_k_22_0, List.forall_mem_cons.mpr ⟨vi_k_23_0, List.forall_mem_cons.mpr ⟨vi_k_24_0, List.forall_mem_cons.mpr ⟨vi_k_25_0, List.forall_mem_cons.mpr ⟨vi_k_26_0, List.forall_mem_cons.mpr ⟨vi_k_27_0, List.forall_mem_cons.mpr ⟨vi_k_28_0, List.forall_mem_cons.mpr ⟨vi_k_29_0, List.forall_mem_cons.mpr ⟨vi_k_30_0, List.forall_mem_cons.mpr ⟨vi_k_31_0, List.forall_mem_cons.mpr ⟨vi_k_32_0, List.forall_mem_cons.mpr ⟨vi_k_33_0, List.forall_mem_cons.mpr ⟨vi_k_34_0, List.forall_mem_cons.mpr ⟨vi_k_35_0, List.forall_mem_cons.mpr ⟨vi_k_36_0, List.forall_mem_cons.mpr ⟨vi_k_37_0, List.forall_mem_cons.mpr ⟨vi_k_37_1, List.forall_mem_cons.mpr ⟨vi_k_38_0, List.forall_mem_cons.mpr ⟨vi_k_39_0, List.forall_mem_cons.mpr ⟨vi_k_40_0, List.forall_mem_cons.mpr ⟨vi_k_41_0, List.forall_mem_cons.mpr ⟨vi_k_42_0, List.forall_mem_cons.mpr ⟨vi_k_43_0, List.forall_mem_cons.mpr ⟨vi_k_44_0, List.forall_mem_cons.mpr ⟨vi_k_45_0, List.forall_mem_cons.mpr ⟨vi_k_46_0, List.forall_mem_cons.mpr ⟨vi_k_47_0, List.forall_mem_cons.mpr ⟨vi_k_48_0, List.forall_mem_cons.mpr ⟨vi_k_49_0, List.forall_mem_cons.mpr ⟨vi_k_50_0, List.forall_mem_cons.mpr ⟨vi_k_51_0, List.forall_mem_cons.mpr ⟨vi_k_52_0, List.forall_mem_cons.mpr ⟨vi_k_52_1, List.forall_mem_cons.mpr ⟨vi_k_53_0, List.forall_mem_cons.mpr ⟨vi_k_54_0, List.forall_mem_cons.mpr ⟨vi_k_55_0, List.forall_mem_cons.mpr ⟨vi_k_56_0, List.forall_mem_cons.mpr ⟨vi_k_57_0, List.forall_mem_cons.mpr ⟨vi_k_58_0, List.forall_mem_cons.mpr ⟨vi_k_59_0, fun _ h => absurd h List.not_mem_nil⟩⟩⟩⟩⟩⟩⟩⟩⟩⟩⟩⟩⟩⟩⟩⟩⟩⟩⟩⟩⟩⟩⟩⟩⟩⟩⟩⟩⟩⟩⟩⟩⟩⟩⟩⟩⟩⟩⟩⟩
def vi_kL2 : List (Nat × Nat) := [(60, 0), (61, 0), (62, 0), (63, 0), (64, 0), (65, 0), (66, 0), (67, 0), (68, 0), (69, 0), (69, 1), (70, 0), (71, 0), (72, 0), (73, 0), (74, 0), (75, 0), (76, 0), (77, 0), (77, 1), (77, 2), (77, 3), (78, 0), (79, 0), (79, 1), (80, 0), (81, 0), (82, 0), (83, 0), (84, 0), (85, 0), (86, 0), (87, 0), (88, 0), (89, 0), (90, 0), (91, 0), (92, 0), (93, 0), (94, 0)]
theorem vi_kT2 : ∀ q ∈ vi_kL2, vi_ckR q.1 q.2 = true := List.forall_mem_cons.mpr ⟨vi_k_60_0, List.forall_mem_cons.mpr ⟨vi_k_61_0, List.forall_mem_cons.mpr ⟨vi_k_62_0, List.forall_mem_cons.mpr ⟨vi_k_63_0, List.forall_mem_cons.mpr ⟨vi_k_64_0, List.forall_mem_cons.mpr ⟨vi_k_65_0, List.forall_mem_cons.mpr ⟨vi_k_66_0, List.forall_mem_cons.mpr ⟨vi_k_67_0, List.forall_mem_cons.mpr ⟨vi_k_68_0, List.forall_mem_cons.mpr ⟨vi_k_69_0, List.forall_mem_cons.mpr ⟨vi_k_69_1, List.forall_mem_cons.mpr ⟨vi_k_70_0, List.forall_mem_cons.mpr ⟨vi_k_71_0, List.forall_mem_cons.mpr ⟨vi_k_72_0, List.forall_mem_cons.mpr ⟨vi_k_73_0, List.forall_mem_cons.mpr ⟨vi_k_74_0, List.forall_mem_cons.mpr ⟨vi_k_75_0, List.forall_mem_cons.mpr ⟨vi_k_76_0, List.forall_mem_cons.mpr ⟨vi_k_77_0, List.forall_mem_cons.mpr ⟨vi_k_77_1, List.forall_mem_cons.mpr ⟨vi_k_77_2, List.forall_mem_cons.mpr ⟨vi_k_77_3, List.forall_mem_cons.mpr ⟨vi_k_78_0, List.forall_mem_cons.mpr ⟨vi_k_79_0, List.forall_mem_cons.mpr ⟨vi_k_79_1, List.forall_mem_cons.mpr ⟨vi_k_80_0, List.forall_mem_cons.mpr ⟨vi_k_81_0, List.forall_mem_cons.mpr ⟨vi_k_82_0, List.forall_mem_cons.mpr ⟨vi_k_83_0, List.forall_mem_cons.mpr ⟨vi_k_84_0, List.forall_mem_cons.mpr ⟨vi_k_85_0, List.forall_mem_cons.mpr ⟨vi_k_86_0, List.forall_mem_cons.mpr ⟨vi_k_87_0, List.forall_mem_cons.mpr ⟨vi_k_88_0, List.forall_mem_cons.mpr ⟨vi_k_89_0, List.forall_mem_cons.mpr ⟨vi_k_90_0, List.forall_mem_cons.mpr ⟨vi_k_91_0, List.forall_mem_cons.mpr ⟨vi_k_92_0, List.forall_mem_cons.mpr ⟨vi_k_93_0, List.forall_mem_cons.mpr ⟨vi_k_94_0, fun _ h => absurd h List.not_mem_nil⟩⟩⟩⟩⟩⟩⟩⟩⟩⟩⟩⟩⟩⟩⟩⟩⟩⟩⟩⟩⟩⟩⟩⟩⟩⟩⟩⟩⟩⟩⟩⟩⟩⟩⟩⟩⟩⟩⟩⟩
def vi_kL3 : List (Nat × Nat) := [(95, 0), (95, 1), (96, 0), (97, 0), (98, 0), (99, 0), (100, 0), (101, 0), (102, 0), (103, 0), (104, 0), (105, 0), (106, 0), (107, 0), (108, 0), (109, 0), (110, 0), (111, 0), (112, 0), (113, 0), (114, 0), (115, 0), (116, 0), (117, 0), (118, 0), (119, 0), (120, 0), (121, 0), (122, 0), (123, 0), (124, 0), (125, 0), (126, 0), (127, 0), (127, 1), (128, 0), (128, 1), (129, 0), (129, 1), (130, 0)]
theorem vi_kT3 : ∀ q ∈ vi_kL3, vi_ckR q.1 q.2 = true := List.forall_mem_cons.mpr ⟨vi_k_95_0, List.forall_mem_cons.mpr ⟨vi_k_95_1, List.forall_mem_cons.mpr ⟨vi_k_96_0, List.forall_mem_cons.mpr ⟨vi_k_97_0, List.forall_mem_cons.mpr ⟨vi_k_98_0, List.forall_mem_cons.mpr ⟨vi_k_99_0, List.forall_mem_cons.mpr ⟨vi_k_100_0, List.forall_mem_cons.mpr ⟨vi_k_101_0, List.forall_mem_cons.mpr ⟨vi_k_102_0, List.forall_mem_cons.mpr ⟨vi_k_103_0, List.forall_mem_cons.mpr ⟨vi_k_104_0, List.forall_mem_cons.mpr ⟨vi_k_105_0, List.forall_mem_cons.mpr ⟨vi_k_106_0, List.forall_mem_cons.mpr ⟨vi_k_107_0, List.forall_mem_cons.mpr ⟨vi_k_108_0, List.forall_mem_cons.mpr ⟨vi_k_109_0, List.forall_mem_cons.mpr ⟨vi_k_110_0, List.forall_mem_cons.mpr ⟨vi_k_111_0, List.forall_mem_cons.mpr ⟨vi_k_112_0, List.forall_mem_cons.mpr ⟨vi_k_113_0, List.forall_mem_cons.mpr ⟨vi_k_114_0, List.forall_mem_cons.mpr ⟨vi_k_115_0, List.forall_mem_cons.mpr ⟨vi_k_116_0, List.forall_mem_cons.mpr ⟨vi_k_117_0, List.forall_mem_cons.mpr ⟨vi_k_118_0, List.forall_mem_cons.mpr ⟨vi_k_119_0, List.forall_mem_cons.mpr ⟨vi_k_120_0, List.forall_mem_cons.mpr ⟨vi_k_121_0, List.forall_mem_cons.mpr ⟨vi_k_122_0, List.forall_mem_cons.mpr ⟨vi_k_123_0, List.forall_mem_cons.mpr ⟨vi_k_124_0, List.forall_mem_cons.mpr ⟨vi_k_125_0, List.forall_mem_cons.mpr ⟨vi_k_126_0, List.forall_mem_cons.mpr ⟨vi_k_127_0, List.forall_mem_cons.mpr ⟨vi_k_127_1, List.forall_mem_cons.mpr ⟨vi_k_128_0, List.forall_mem_cons.mpr ⟨vi_k_128_1, List.forall_mem_cons.mpr ⟨vi_k_129_0, List.forall_mem_cons.mpr ⟨vi_k_129_1, List.forall_mem_cons.mpr ⟨vi_k_130_0, fun _ h => absurd h List.not_mem_nil⟩⟩⟩⟩⟩⟩⟩⟩⟩⟩⟩⟩⟩⟩⟩⟩⟩⟩⟩⟩⟩⟩⟩⟩⟩⟩⟩⟩⟩⟩⟩⟩⟩⟩⟩⟩⟩⟩⟩⟩
def vi_kL4 : List (Nat × Nat) := [(131, 0), (132, 0), (133, 0), (134, 0), (135, 0), (136, 0), (137, 0), (138, 0), (138, 1), (139, 0), (140, 0), (141, 0), (142, 0), (143, 0), (143, 1), (144, 0), (145, 0), (146, 0), (147, 0), (148, 0), (149, 0), (150, 0), (151, 0), (152, 0), (153, 0), (154, 0), (155, 0), (156, 0), (157, 0), (158, 0), (159, 0), (160, 0), (161, 0), (162, 0), (163, 0), (164, 0), (165, 0), (166, 0), (167, 0), (168, 0)]
theorem vi_kT4 : ∀ q ∈ vi_kL4, vi_ckR q.1 q.2 = true := List.forall_mem_cons.mpr ⟨vi_k_131_0, List.forall_mem_cons.mpr ⟨vi_k_132_0, List.forall_mem_cons.mpr ⟨vi_k_133_0, List.forall_mem_cons.mpr ⟨vi_k_134_0, List.forall_mem_cons.mpr ⟨vi_k_135_0, List.forall_mem_cons.mpr ⟨vi_k_136_0, List.forall_mem_cons.mpr ⟨vi_k_137_0, List.forall_mem_cons.mpr ⟨vi_k_138_0, List.forall_mem_cons.mpr ⟨vi_k_138_1, List.forall_mem_cons.mpr ⟨vi_k_139_0, List.forall_mem_cons.mpr ⟨vi_k_140_0, List.forall_mem_cons.mpr ⟨vi_k_141_0, List.forall_mem_cons.mpr ⟨vi_k_142_0, List.forall_mem_cons.mpr ⟨vi_k_143_0, List.forall_mem_cons.mpr ⟨vi_k_143_1, List.forall_mem_cons.mpr ⟨vi_k_144_0, List.forall_mem_cons.mpr ⟨vi_k_145_0, List.forall_mem_cons.mpr ⟨vi_k_146_0, List.forall_mem_cons.mpr ⟨vi_k_147_0, List.forall_mem_cons.mpr ⟨vi_k_148_0, List.forall_mem_cons.mpr ⟨vi_k_149_0, List.forall_mem_cons.mpr ⟨vi_k_150_0, List.forall_mem_cons.mpr ⟨vi_k_151_0, List.forall_mem_cons.mpr ⟨vi_k_152_0, List.forall_mem_cons.mpr ⟨vi_k_153_0, List.forall_mem_cons.mpr ⟨vi_k_154_0, List.forall_mem_cons.mpr ⟨vi_k_155_0, List.forall_mem_cons.mpr ⟨vi_k_156_0, List.forall_mem_cons.mpr ⟨vi_k_157_0, List.forall_mem_cons.mpr ⟨vi_k_158_0, List.forall_mem_cons.mpr ⟨vi_k_159_0, List.forall_mem_cons.mpr ⟨vi_k_160_0, List.forall_mem_cons.mpr ⟨vi_k_161_0, List.forall_mem_cons.mpr ⟨vi_k_162_0, List.forall_mem_cons.mpr ⟨vi_k_163_0, List.forall_mem_cons.mpr ⟨vi_k_164_0, List.forall_mem_cons.mpr ⟨vi_k_165_0, List.forall_mem_cons.mpr ⟨vi_k_166_0, List.forall_mem_cons.mpr ⟨vi_k_167_0, List.forall_mem_cons.mpr ⟨vi_k_168_0, fun _ h => absurd h List.not_mem_nil⟩⟩⟩⟩⟩⟩⟩⟩⟩⟩⟩⟩⟩⟩⟩⟩⟩⟩⟩⟩⟩⟩⟩⟩⟩⟩⟩⟩⟩⟩⟩⟩⟩⟩⟩⟩⟩⟩⟩⟩
def vi_kL5 : List (Nat × Nat) := [(169, 0), (170, 0), (171, 0), (172, 0), (173, 0), (174, 0), (175, 0), (176, 0), (177, 0), (178, 0), (179, 0), (180, 0), (181, 0), (182, 0), (183, 0), (184, 0), (185, 0), (186, 0), (187, 0), (188, 0), (188, 1), (189, 0), (190, 0), (191, 0), (192, 0), (192, 1), (193, 0), (194, 0), (195, 0), (196, 0), (197, 0), (198, 0), (199, 0), (200, 0), (200, 1), (201, 0), (202, 0), (203, 0), (204, 0), (205, 0)]
theorem vi_kT5 : ∀ q ∈ vi_kL5, vi_ckR q.1 q.2 = true := List.forall_mem_cons.mpr ⟨vi_k_169_0, List.forall_mem_cons.mpr ⟨vi_k_170_0, List.forall_mem_cons.mpr ⟨vi_k_171_0, List.forall_mem_cons.mpr ⟨vi_k_172_0, List.forall_mem_cons.mpr ⟨vi_k_173_0, List.forall_mem_cons.mpr ⟨vi_k_174_0, List.forall_mem_cons.mpr ⟨vi_k_175_0, List.forall_mem_cons.mpr ⟨vi_k_176_0, List.forall_mem_cons.mpr ⟨vi_k_177_0, List.forall_mem_cons.mpr ⟨vi_k_178_0, List.forall_mem_cons.mpr ⟨vi_k_179_0, List.forall_mem_cons.mpr ⟨vi_k_180_0, List.forall_mem_cons.mpr ⟨vi_k_181_0, List.forall_mem_cons.mpr ⟨vi_k_182_0, List.forall_mem_cons.mpr ⟨vi_k_183_0, List.forall_mem_cons.mpr ⟨vi_k_184_0, List.forall_mem_cons.mpr ⟨vi_k_185_0, List.forall_mem_cons.mpr ⟨vi_k_186_0, List.forall_mem_cons.mpr ⟨vi_k_187_0, List.forall_mem_cons.mpr ⟨vi_k_188_0, List.forall_mem_cons.mpr ⟨vi_k_188_1, List.forall_mem_cons.mpr ⟨vi_k_189_0, List.forall_mem_cons.mpr ⟨vi_k_190_0, List.forall_mem_cons.mpr ⟨vi_k_191_0, List.forall_mem_cons.mpr ⟨vi_k_192_0, List.forall_mem_cons.mpr ⟨vi_k_192_1, List.forall_mem_cons.mpr ⟨vi_k_193_0, List.forall_mem_cons.mpr ⟨vi_k_194_0, List.forall_mem_cons.mpr ⟨vi_k_195_0, List.forall_mem_cons.mpr ⟨vi_k_196_0, List.forall_mem_cons.mpr ⟨vi_k_197_0, List.forall_mem_cons.mpr ⟨vi_k_198_0, List.forall_mem_cons.mpr ⟨vi_k_199_0, List.forall_mem_cons.mpr ⟨vi_k_200_0, List.forall_mem_cons.mpr ⟨vi_k_200_1, List.forall_mem_cons.mpr ⟨vi_k_201_0, List.forall_mem_cons.mpr ⟨vi_k_202_0, List.forall_mem_cons.mpr ⟨vi_k_203_0, List.forall_mem_cons.mpr ⟨vi_k_204_0, List.forall_mem_cons.mpr ⟨vi_k_205_0, fun _ h => absurd h List.not_mem_nil⟩⟩⟩⟩⟩⟩⟩⟩⟩⟩⟩⟩⟩⟩⟩⟩⟩⟩⟩⟩⟩⟩⟩⟩⟩⟩⟩⟩⟩⟩⟩⟩⟩⟩⟩⟩⟩⟩⟩⟩
def vi_kL6 : List (Nat × Nat) := [(206, 0), (207, 0), (208, 0), (209, 0), (210, 0), (211, 0), (212, 0), (213, 0), (214, 0), (215, 0), (216, 0), (217, 0), (218, 0), (219, 0), (220, 0), (221, 0), (222, 0), (223, 0), (224, 0), (225, 0), (226, 0), (227, 0), (228, 0), (229, 0), (230, 0), (231, 0), (232, 0), (233, 0), (234, 0), (235, 0), (235, 1), (236, 0), (236, 1), (236, 2), (236, 3), (236, 4), (236, 5), (236, 6), (236, 7), (236, 8)]
theorem vi_kT6 : ∀ q ∈ vi_kL6, vi_ckR q.1 q.2 = true := List.forall_mem_cons.mpr ⟨vi_k_206_0, List.forall_mem_cons.mpr ⟨vi_k_207_0, List.forall_mem_cons.mpr ⟨vi_k_208_0, List.forall_mem_cons.mpr ⟨vi_k_209_0, List.forall_mem_cons.mpr ⟨vi_k_210_0, List.forall_mem_cons.mpr ⟨vi_k_211_0, List.forall_mem_cons.mpr ⟨vi_k_212_0, List.forall_mem_cons.mpr ⟨vi_k_213_0, List.forall_mem_cons.mpr ⟨vi_k_214_0, List.forall_mem_cons.mpr ⟨vi_k_215_0, List.forall_mem_cons.mpr ⟨vi_k_216_0, List.forall_mem_cons.mpr ⟨vi_k_217_0, List.forall_mem_cons.mpr ⟨vi_k_218_0, List.forall_mem_cons.mpr ⟨vi_k_219_0, List.forall_mem_cons.mpr ⟨vi_k_220_0, List.forall_mem_cons.mpr ⟨vi_k_221_0, List.forall_mem_cons.mpr ⟨vi_k_222_0, List.forall_mem_cons.mpr ⟨vi_k_223_0, List.forall_mem_cons.mpr ⟨vi_k_224_0, List.forall_mem_cons.mpr ⟨vi_k_225_0, List.forall_mem_cons.mpr ⟨vi_k_226_0, List.forall_mem_cons.mpr ⟨vi_k_227_0, List.forall_mem_cons.mpr ⟨vi_k_228_0, List.forall_mem_cons.mpr ⟨vi_k_229_0, List.forall_mem_cons.mpr ⟨vi_k_230_0, List.forall_mem_cons.mpr ⟨vi_k_231_0, List.forall_mem_cons.mpr ⟨vi_k_232_0, List.forall_mem_cons.mpr ⟨vi_k_233_0, List.forall_mem_cons.mpr ⟨vi_k_234_0, List.forall_mem_cons.mpr ⟨vi_k_235_0, List.forall_mem_cons.mpr ⟨vi_k_235_1, List.forall_mem_cons.mpr ⟨vi_k_236_0, List.forall_mem_cons.mpr ⟨vi_k_236_1, List.forall_mem_cons.mpr ⟨vi_k_236_2, List.forall_mem_cons.mpr ⟨vi_k_236_3, List.forall_mem_cons.mpr ⟨vi_k_236_4, List.forall_mem_cons.mpr ⟨vi_k_236_5, List.forall_mem_cons.mpr ⟨vi_k_236_6, List.forall_mem_cons.mpr ⟨vi_k_236_7, List.forall_mem_cons.mpr ⟨vi_k_236_8, fun _ h => absurd h List.not_mem_nil⟩⟩⟩⟩⟩⟩⟩⟩⟩⟩⟩⟩⟩⟩⟩⟩⟩⟩⟩⟩⟩⟩⟩⟩⟩⟩⟩⟩⟩⟩⟩⟩⟩⟩⟩⟩⟩⟩⟩⟩
def vi_kL7 : List (Nat × Nat) := [(236, 9), (236, 10), (236, 11), (237, 0), (238, 0), (239, 0), (240, 0), (241, 0), (241, 1), (242, 0), (243, 0), (244, 0), (245, 0), (246, 0), (247, 0), (248, 0), (249, 0), (250, 0), (251, 0), (252, 0), (253, 0), (254, 0), (255, 0), (256, 0), (257, 0), (258, 0), (259, 0), (260, 0), (261, 0), (262, 0), (263, 0), (264, 0), (265, 0), (266, 0), (267, 0), (268, 0), (269, 0), (270, 0), (271, 0), (272, 0)]
theorem vi_kT7 : ∀ q ∈ vi_kL7, vi_ckR q.1 q.2 = true := List.forall_mem_cons.mpr ⟨vi_k_236_9, List.forall_mem_cons.mpr ⟨vi_k_236_10, List.forall_mem_cons.mpr ⟨vi_k_236_11, List.forall_mem_cons.mpr ⟨vi_k_237_0, List.forall_mem_cons.mpr ⟨vi_k_238_0, List.forall_mem_cons.mpr ⟨vi_k_239_0, List.forall_mem_cons.mpr ⟨vi_k_240_0, List.forall_mem_cons.mpr ⟨vi_k_241_0, List.forall_mem_cons.mpr ⟨vi_k_241_1, List.forall_mem_cons.mpr ⟨vi_k_242_0, List.forall_mem_cons.mpr ⟨vi_k_243_0, List.forall_mem_cons.mpr ⟨vi_k_244_0, List.forall_mem_cons.mpr ⟨vi_k_245_0, List.forall_mem_cons.mpr ⟨vi_k_246_0, List.forall_mem_cons.mpr ⟨vi_k_247_0, List.forall_mem_cons.mpr ⟨vi_k_248_0, List.forall_mem_cons.mpr ⟨vi_k_249_0, List.forall_mem_cons.mpr ⟨vi_k_250_0, List.forall_mem_cons.mpr ⟨vi_k_251_0, List.forall_mem_cons.mpr ⟨vi_k_252_0, List.forall_mem_cons.mpr ⟨vi_k_253_0, List.forall_mem_cons.mpr ⟨vi_k_254_0, List.forall_mem_cons.mpr ⟨vi_k_255_0, List.forall_mem_cons.mpr ⟨vi_k_256_0, List.forall_mem_cons.mpr ⟨vi_k_257_0, List.forall_mem_cons.mpr ⟨vi_k_258_0, List.forall_mem_cons.mpr ⟨vi_k_259_0, List.forall_mem_cons.mpr ⟨vi_k_260_0, List.forall_mem_cons.mpr ⟨vi_k_261_0, List.forall_mem_cons.mpr ⟨vi_k_262_0, List.forall_mem_cons.mpr ⟨vi_k_263_0, List.forall_mem_cons.mpr ⟨vi_k_264_0, List.forall_mem_cons.mpr ⟨vi_k_265_0, List.forall_mem_cons.mpr ⟨vi_k_266_0, List.forall_mem_cons.mpr ⟨vi_k_267_0, List.forall_mem_cons.mpr ⟨vi_k_268_0, List.forall_mem_cons.mpr ⟨vi_k_269_0, List.forall_mem_cons.mpr ⟨vi_k_270_0, List.forall_mem_cons.mpr ⟨vi_k_271_0, List.forall_mem_cons.mpr ⟨vi_k_272_0, fun _ h => absurd h List.not_mem_nil⟩⟩⟩⟩⟩⟩⟩⟩⟩⟩⟩⟩⟩⟩⟩⟩⟩⟩⟩⟩⟩⟩⟩⟩⟩⟩⟩⟩⟩⟩⟩⟩⟩⟩⟩⟩⟩⟩⟩⟩
def vi_kL8 : List (Nat × Nat) := [(273, 0), (274, 0), (275, 0), (276, 0), (277, 0), (278, 0), (279, 0), (280, 0), (281, 0), (282, 0), (283, 0), (284, 0), (285, 0), (286, 0), (287, 0), (288, 0), (289, 0), (290, 0), (291, 0), (292, 0), (293, 0), (294, 0), (295, 0), (296, 0), (297, 0), (298, 0), (299, 0), (300, 0), (301, 0), (302, 0), (303, 0), (304, 0), (305, 0), (306, 0), (307, 0), (308, 0), (309, 0), (310, 0), (311, 0), (312, 0)]
theorem vi_kT8 : ∀ q ∈ vi_kL8, vi_ckR q.1 q.2 = true := List.forall_mem_cons.mpr ⟨vi_k_273_0, List.forall_mem_cons.mpr ⟨vi_k_274_0, List.forall_mem_cons.mpr ⟨vi_k_275_0, List.forall_mem_cons.mpr ⟨vi_k_276_0, List.forall_mem_cons.mpr ⟨vi_k_277_0, List.forall_mem_cons.mpr ⟨vi_k_278_0, List.forall_mem_cons.mpr ⟨vi_k_279_0, List.forall_mem_cons.mpr ⟨vi_k_280_0, List.forall_mem_cons.mpr ⟨vi_k_281_0, List.forall_mem_cons.mpr ⟨vi_k_282_0, List.forall_mem_cons.mpr ⟨vi_k_283_0, List.forall_mem_cons.mpr ⟨vi_k_284_0, List.forall_mem_cons.mpr ⟨vi_k_285_0, List.forall_mem_cons.mpr ⟨vi_k_286_0, List.forall_mem_cons.mpr ⟨vi_k_287_0, List.forall_mem_cons.mpr ⟨vi_k_288_0, List.forall_mem_cons.mpr ⟨vi_k_289_0, List.forall_mem_cons.mpr ⟨vi_k_290_0, List.forall_mem_cons.mpr ⟨vi_k_291_0, List.forall_mem_cons.mpr ⟨vi_k_292_0, List.forall_mem_cons.mpr ⟨vi_k_293_0, List.forall_mem_cons.mpr ⟨vi_k_294_0, List.forall_mem_cons.mpr ⟨vi_k_295_0, List.forall_mem_cons.mpr ⟨vi_k_296_0, List.forall_mem_cons.mpr ⟨vi_k_297_0, List.forall_mem_cons.mpr ⟨vi_k_298_0, List.forall_mem_cons.mpr ⟨vi_k_299_0, List.forall_mem_cons.mpr ⟨vi_k_300_0, List.forall_mem_cons.mpr ⟨vi_k_301_0, List.forall_mem_cons.mpr ⟨vi_k_302_0, List.forall_mem_cons.mpr ⟨vi_k_303_0, List.forall_mem_cons.mpr ⟨vi_k_304_0, List.forall_mem_cons.mpr ⟨vi_k_305_0, List.forall_mem_cons.mpr ⟨vi_k_306_0, List.forall_mem_cons.mpr ⟨vi_k_307_0, List.forall_mem_cons.mpr ⟨vi_k_308_0, List.forall_mem_cons.mpr ⟨vi_k_309_0, List.forall_mem_cons.mpr ⟨vi_k_310_0, List.forall_mem_cons.mpr ⟨vi_k_311_0, List.forall_mem_cons.mpr ⟨vi_k_312_0, fun _ h => absurd h List.not_mem_nil⟩⟩⟩⟩⟩⟩⟩⟩⟩⟩⟩⟩⟩⟩⟩⟩⟩⟩⟩⟩⟩⟩⟩⟩⟩⟩⟩⟩⟩⟩⟩⟩⟩⟩⟩⟩⟩⟩⟩⟩
def vi_kL9 : List (Nat × Nat) := [(313, 0), (314, 0), (315, 0), (316, 0), (317, 0), (318, 0), (319, 0), (320, 0), (321, 0), (322, 0), (323, 0), (324, 0), (325, 0), (326, 0), (327, 0), (328, 0), (329, 0), (330, 0), (331, 0), (332, 0), (333, 0), (334, 0), (335, 0), (336, 0), (337, 0), (338, 0), (339, 0), (340, 0), (341, 0), (342, 0), (343, 0), (344, 0), (345, 0), (346, 0), (347, 0), (348, 0), (349, 0), (350, 0), (351, 0), (352, 0)]
theorem vi_kT9 : ∀ q ∈ vi_kL9, vi_ckR q.1 q.2 = true := List.forall_mem_cons.mpr ⟨vi_k_313_0, List.forall_mem_cons.mpr ⟨vi_k_314_0, List.forall_mem_cons.mpr ⟨vi_k_315_0, List.forall_mem_cons.mpr ⟨vi_k_316_0, List.forall_mem_cons.mpr ⟨vi_k_317_0, List.forall_mem_cons.mpr ⟨vi_k_318_0, List.forall_mem_cons.mpr ⟨vi_k_319_0, List.forall_mem_cons.mpr ⟨vi_k_320_0, List.forall_mem_cons.mpr ⟨vi_k_321_0, List.forall_mem_cons.mpr ⟨vi_k_322_0, List.forall_mem_cons.mpr ⟨vi_k_323_0, List.forall_mem_cons.mpr ⟨vi_k_324_0, List.forall_mem_cons.mpr ⟨vi_k_325_0, List.forall_mem_cons.mpr ⟨vi_k_326_0, List.forall_mem_cons.mpr ⟨vi_k_327_0, List.forall_mem_cons.mpr ⟨vi_k_328_0, List.forall_mem_cons.mpr ⟨vi_k_329_0, List.forall_mem_cons.mpr ⟨vi_k_330_0, List.forall_mem_cons.mpr ⟨vi_k_331_0, List.forall_mem_cons.mpr ⟨vi_k_332_0, List.forall_mem_cons.mpr ⟨vi_k_333_0, List.forall_mem_cons.mpr ⟨vi_k_334_0, List.forall_mem_cons.mpr ⟨vi_k_335_0, List.forall_mem_cons.mpr ⟨vi_k_336_0, List.forall_mem_cons.mpr ⟨vi_k_337_0, List.forall_mem_cons.mpr ⟨vi_k_338_0, List.forall_mem_cons.mpr ⟨vi_k_339_0, List.forall_mem_cons.mpr ⟨vi_k_340_0, List.forall_mem_cons.mpr ⟨vi_k_341_0, List.forall_mem_cons.mpr ⟨vi_k_342_0, List.forall_mem_cons.mpr ⟨vi_k_343_0, List.forall_mem_cons.mpr ⟨vi_k_344_0, List.forall_mem_cons.mpr ⟨vi_k_345_0, List.forall_mem_cons.mpr ⟨vi_k_346_0, List.forall_mem_cons.mpr ⟨vi_k_347_0, List.forall_mem_cons.mpr ⟨vi_k_348_0, List.forall_mem_cons.mpr ⟨vi_k_349_0, List.forall_mem_cons.mpr ⟨vi_k_350_0, List.forall_mem_cons.mpr ⟨vi_k_351_0, List.forall_mem_cons.mpr ⟨vi_k_352_0, fun _ h => absurd h List.not_mem_nil⟩⟩⟩⟩⟩⟩⟩⟩⟩⟩⟩⟩⟩⟩⟩⟩⟩⟩⟩⟩⟩⟩⟩⟩⟩⟩⟩⟩⟩⟩⟩⟩⟩⟩⟩⟩⟩⟩⟩⟩
def vi_kL10 : List (Nat × Nat) := [(353, 0), (354, 0), (355, 0), (356, 0), (357, 0), (358, 0), (359, 0), (360, 0), (361, 0), (362, 0), (363, 0), (364, 0), (365, 0), (366, 0), (367, 0), (368, 0)]
theorem vi_kT10 : ∀ q ∈ vi_kL10, vi_ckR q.1 q.2 = true := List.forall_mem_cons.mpr ⟨vi_k_353_0, List.forall_mem_cons.mpr ⟨vi_k_354_0, List.forall_mem_cons.mpr ⟨vi_k_355_0, List.forall_mem_cons.mpr ⟨vi_k_356_0, List.forall_mem_cons.mpr ⟨vi_k_357_0, List.forall_mem_cons.mpr ⟨vi_k_358_0, List.forall_mem_cons.mpr ⟨vi_k_359_0, List.forall_mem_cons.mpr ⟨vi_k_360_0, List.forall_mem_cons.mpr ⟨vi_k_361_0, List.forall_mem_cons.mpr ⟨vi_k_362_0, List.forall_mem_cons.mpr ⟨vi_k_363_0, List.forall_mem_cons.mpr ⟨vi_k_364_0, List.forall_mem_cons.mpr ⟨vi_k_365_0, List.forall_mem_cons.mpr ⟨vi_k_366_0, List.forall_mem_cons.mpr ⟨vi_k_367_0, List.forall_mem_cons.mpr ⟨vi_k_368_0, fun _ h => absurd h List.not_mem_nil⟩⟩⟩⟩⟩⟩⟩⟩⟩⟩⟩⟩⟩⟩⟩⟩
def vi_kL : List (Nat × Nat) := vi_kL0 ++ (vi_kL1 ++ (vi_kL2 ++ (vi_kL3 ++ (vi_kL4 ++ (vi_kL5 ++ (vi_kL6 ++ (vi_kL7 ++ (vi_kL8 ++ (vi_kL9 ++ (vi_kL10))))))))))
theorem vi_kT : ∀ q ∈ vi_kL, vi_ckR q.1 q.2 = true := by
  intro q h
  simp only [vi_kL, List.mem_append] at h
  rcases h with h | h | h | h | h | h | h | h | h | h | h
  · exact vi_kT0 q h
  · exact vi_kT1 q h
  · exact vi_kT2 q h
  · exact vi_kT3 q h
  · exact vi_kT4 q h
  · exact vi_kT5 q h
  · exact vi_kT6 q h
  · exact vi_kT7 q h
  · exact vi_kT8 q h
  · exact vi_kT9 q h
  · exact vi_kT10 q h
theorem vi_kC : (List.range 369).all (fun m => (List.range (vi_sz m / 100 + 1)).all (fun j => decide ((m, j) ∈ vi_kL))) = true := by decide +kernel
