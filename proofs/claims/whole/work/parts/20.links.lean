/-! links, fields, constants, each by name -/
theorem f0_9 : pm_fld 0 9 = some (0, 0) := by decide +kernel
theorem f0_15 : pm_fld 0 15 = some (0, 1) := by decide +kernel
theorem f0_18 : pm_fld 0 18 = some (0, 2) := by decide +kernel
theorem f0_21 : pm_fld 0 21 = some (0, 3) := by decide +kernel
theorem f0_24 : pm_fld 0 24 = some (0, 4) := by decide +kernel
theorem f0_28 : pm_fld 0 28 = some (0, 5) := by decide +kernel
theorem f0_31 : pm_fld 0 31 = some (0, 6) := by decide +kernel
theorem f0_34 : pm_fld 0 34 = some (0, 7) := by decide +kernel
theorem f0_37 : pm_fld 0 37 = some (0, 8) := by decide +kernel
theorem f0_40 : pm_fld 0 40 = some (0, 9) := by decide +kernel
theorem f0_43 : pm_fld 0 43 = some (0, 10) := by decide +kernel
theorem f1_9 : pm_fld 1 9 = some (1, 0) := by decide +kernel
theorem f1_15 : pm_fld 1 15 = some (1, 1) := by decide +kernel
theorem f1_19 : pm_fld 1 19 = some (1, 2) := by decide +kernel
theorem f2_9 : pm_fld 2 9 = some (2, 0) := by decide +kernel
theorem f2_15 : pm_fld 2 15 = some (2, 1) := by decide +kernel
theorem f2_19 : pm_fld 2 19 = some (2, 2) := by decide +kernel
theorem f2_22 : pm_fld 2 22 = some (2, 3) := by decide +kernel
theorem f3_9 : pm_fld 3 9 = some (3, 0) := by decide +kernel
theorem f3_15 : pm_fld 3 15 = some (3, 1) := by decide +kernel
theorem f3_18 : pm_fld 3 18 = some (3, 2) := by decide +kernel
theorem f3_21 : pm_fld 3 21 = some (3, 3) := by decide +kernel
theorem f3_24 : pm_fld 3 24 = some (3, 4) := by decide +kernel
theorem f3_27 : pm_fld 3 27 = some (3, 5) := by decide +kernel
theorem f3_31 : pm_fld 3 31 = some (3, 6) := by decide +kernel
theorem f3_34 : pm_fld 3 34 = some (3, 7) := by decide +kernel
theorem f3_37 : pm_fld 3 37 = some (3, 8) := by decide +kernel
theorem f4_9 : pm_fld 4 9 = some (4, 0) := by decide +kernel
theorem f4_15 : pm_fld 4 15 = some (4, 1) := by decide +kernel
theorem f4_19 : pm_fld 4 19 = some (4, 2) := by decide +kernel
theorem f4_22 : pm_fld 4 22 = some (4, 3) := by decide +kernel
theorem f4_25 : pm_fld 4 25 = some (4, 4) := by decide +kernel
theorem f4_29 : pm_fld 4 29 = some (4, 5) := by decide +kernel
theorem f5_9 : pm_fld 5 9 = some (5, 0) := by decide +kernel
theorem f5_15 : pm_fld 5 15 = some (5, 1) := by decide +kernel
theorem f5_19 : pm_fld 5 19 = some (5, 2) := by decide +kernel
theorem f5_22 : pm_fld 5 22 = some (5, 3) := by decide +kernel
theorem f5_25 : pm_fld 5 25 = some (5, 4) := by decide +kernel
theorem f6_9 : pm_fld 6 9 = some (6, 0) := by decide +kernel
theorem f6_15 : pm_fld 6 15 = some (6, 1) := by decide +kernel
theorem f6_19 : pm_fld 6 19 = some (6, 2) := by decide +kernel
theorem f6_22 : pm_fld 6 22 = some (6, 3) := by decide +kernel
theorem f6_30 : pm_fld 6 30 = some (4, 0) := by decide +kernel
theorem f6_45 : pm_fld 6 45 = some (1, 0) := by decide +kernel
theorem f6_52 : pm_fld 6 52 = some (4, 2) := by decide +kernel
theorem f6_57 : pm_fld 6 57 = some (4, 1) := by decide +kernel
theorem f6_70 : pm_fld 6 70 = some (4, 3) := by decide +kernel
theorem f6_77 : pm_fld 6 77 = some (4, 4) := by decide +kernel
theorem f6_84 : pm_fld 6 84 = some (4, 5) := by decide +kernel
theorem f6_87 : pm_fld 6 87 = some (1, 1) := by decide +kernel
theorem f6_93 : pm_fld 6 93 = some (1, 2) := by decide +kernel
theorem f7_11 : pm_fld 7 11 = some (7, 0) := by decide +kernel
theorem f7_17 : pm_fld 7 17 = some (7, 1) := by decide +kernel
theorem f7_23 : pm_fld 7 23 = some (7, 2) := by decide +kernel
theorem f7_30 : pm_fld 7 30 = some (7, 3) := by decide +kernel
theorem f7_36 : pm_fld 7 36 = some (7, 4) := by decide +kernel
theorem f7_43 : pm_fld 7 43 = some (7, 5) := by decide +kernel
theorem f7_46 : pm_fld 7 46 = some (7, 6) := by decide +kernel
theorem f7_49 : pm_fld 7 49 = some (7, 7) := by decide +kernel
theorem f7_55 : pm_fld 7 55 = some (7, 8) := by decide +kernel
theorem f7_62 : pm_fld 7 62 = some (7, 9) := by decide +kernel
theorem f7_66 : pm_fld 7 66 = some (7, 10) := by decide +kernel
theorem f7_71 : pm_fld 7 71 = some (7, 11) := by decide +kernel
theorem f7_76 : pm_fld 7 76 = some (7, 12) := by decide +kernel
theorem f7_83 : pm_fld 7 83 = some (7, 13) := by decide +kernel
theorem f7_87 : pm_fld 7 87 = some (7, 14) := by decide +kernel
theorem f7_90 : pm_fld 7 90 = some (7, 15) := by decide +kernel
theorem f7_93 : pm_fld 7 93 = some (7, 16) := by decide +kernel
theorem f7_96 : pm_fld 7 96 = some (7, 17) := by decide +kernel
theorem f7_99 : pm_fld 7 99 = some (7, 18) := by decide +kernel
theorem f7_120 : pm_fld 7 120 = some (0, 2) := by decide +kernel
theorem f7_148 : pm_fld 7 148 = some (6, 0) := by decide +kernel
theorem f7_160 : pm_fld 7 160 = some (4, 0) := by decide +kernel
theorem f7_163 : pm_fld 7 163 = some (1, 0) := by decide +kernel
theorem f7_167 : pm_fld 7 167 = some (3, 0) := by decide +kernel
theorem f7_170 : pm_fld 7 170 = some (3, 1) := by decide +kernel
theorem f7_173 : pm_fld 7 173 = some (3, 2) := by decide +kernel
theorem f7_176 : pm_fld 7 176 = some (3, 3) := by decide +kernel
theorem f7_179 : pm_fld 7 179 = some (3, 4) := by decide +kernel
theorem f7_182 : pm_fld 7 182 = some (3, 5) := by decide +kernel
theorem f7_185 : pm_fld 7 185 = some (3, 6) := by decide +kernel
theorem f7_188 : pm_fld 7 188 = some (3, 7) := by decide +kernel
theorem f7_191 : pm_fld 7 191 = some (3, 8) := by decide +kernel
theorem f7_213 : pm_fld 7 213 = some (0, 6) := by decide +kernel
theorem f7_220 : pm_fld 7 220 = some (2, 0) := by decide +kernel
theorem f7_246 : pm_fld 7 246 = some (0, 0) := by decide +kernel
theorem f7_278 : pm_fld 7 278 = some (0, 3) := by decide +kernel
theorem f7_291 : pm_fld 7 291 = some (5, 0) := by decide +kernel
theorem f7_293 : pm_fld 7 293 = some (5, 4) := by decide +kernel
theorem f7_326 : pm_fld 7 326 = some (0, 5) := by decide +kernel
theorem f7_329 : pm_fld 7 329 = some (0, 4) := by decide +kernel
theorem f7_339 : pm_fld 7 339 = some (0, 8) := by decide +kernel
theorem f7_353 : pm_fld 7 353 = some (2, 1) := by decide +kernel
theorem f7_356 : pm_fld 7 356 = some (2, 2) := by decide +kernel
theorem f7_362 : pm_fld 7 362 = some (2, 3) := by decide +kernel
theorem f7_366 : pm_fld 7 366 = some (1, 2) := by decide +kernel
theorem f7_369 : pm_fld 7 369 = some (1, 1) := by decide +kernel
theorem f7_382 : pm_fld 7 382 = some (0, 1) := by decide +kernel
theorem f8_7 : pm_fld 8 7 = some (8, 0) := by decide +kernel
theorem f8_13 : pm_fld 8 13 = some (8, 1) := by decide +kernel
theorem f8_16 : pm_fld 8 16 = some (8, 2) := by decide +kernel
theorem f8_19 : pm_fld 8 19 = some (8, 3) := by decide +kernel
theorem f8_22 : pm_fld 8 22 = some (8, 4) := by decide +kernel
theorem f8_25 : pm_fld 8 25 = some (8, 5) := by decide +kernel
theorem f8_28 : pm_fld 8 28 = some (8, 6) := by decide +kernel
theorem f8_31 : pm_fld 8 31 = some (8, 7) := by decide +kernel
theorem f8_34 : pm_fld 8 34 = some (8, 8) := by decide +kernel
theorem f8_37 : pm_fld 8 37 = some (8, 9) := by decide +kernel
theorem f8_40 : pm_fld 8 40 = some (8, 10) := by decide +kernel
theorem f8_43 : pm_fld 8 43 = some (8, 12) := by decide +kernel
theorem f8_46 : pm_fld 8 46 = some (8, 13) := by decide +kernel
theorem f8_49 : pm_fld 8 49 = some (8, 14) := by decide +kernel
theorem f8_52 : pm_fld 8 52 = some (8, 15) := by decide +kernel
theorem f8_55 : pm_fld 8 55 = some (8, 16) := by decide +kernel
theorem f8_58 : pm_fld 8 58 = some (8, 17) := by decide +kernel
theorem f8_61 : pm_fld 8 61 = some (8, 18) := by decide +kernel
theorem f8_64 : pm_fld 8 64 = some (8, 19) := by decide +kernel
theorem f8_67 : pm_fld 8 67 = some (8, 20) := by decide +kernel
theorem f8_70 : pm_fld 8 70 = some (8, 21) := by decide +kernel
theorem f8_73 : pm_fld 8 73 = some (8, 22) := by decide +kernel
theorem f8_76 : pm_fld 8 76 = some (8, 23) := by decide +kernel
theorem f8_79 : pm_fld 8 79 = some (8, 25) := by decide +kernel
theorem f8_82 : pm_fld 8 82 = some (8, 26) := by decide +kernel
theorem f8_85 : pm_fld 8 85 = some (8, 27) := by decide +kernel
theorem f8_88 : pm_fld 8 88 = some (8, 29) := by decide +kernel
theorem f8_91 : pm_fld 8 91 = some (8, 30) := by decide +kernel
theorem f8_94 : pm_fld 8 94 = some (8, 31) := by decide +kernel
theorem f8_97 : pm_fld 8 97 = some (8, 32) := by decide +kernel
theorem f8_100 : pm_fld 8 100 = some (8, 38) := by decide +kernel
theorem f8_103 : pm_fld 8 103 = some (8, 39) := by decide +kernel
theorem f8_106 : pm_fld 8 106 = some (8, 40) := by decide +kernel
theorem f8_109 : pm_fld 8 109 = some (8, 45) := by decide +kernel
theorem f8_112 : pm_fld 8 112 = some (8, 46) := by decide +kernel
theorem f8_115 : pm_fld 8 115 = some (8, 48) := by decide +kernel
theorem f8_174 : pm_fld 8 174 = some (8, 11) := by decide +kernel
theorem f8_180 : pm_fld 8 180 = some (8, 34) := by decide +kernel
theorem f8_183 : pm_fld 8 183 = some (8, 35) := by decide +kernel
theorem f8_190 : pm_fld 8 190 = some (8, 36) := by decide +kernel
theorem f8_199 : pm_fld 8 199 = some (8, 37) := by decide +kernel
theorem f8_246 : pm_fld 8 246 = some (8, 41) := by decide +kernel
theorem f8_249 : pm_fld 8 249 = some (8, 42) := by decide +kernel
theorem f8_252 : pm_fld 8 252 = some (8, 43) := by decide +kernel
theorem f8_255 : pm_fld 8 255 = some (8, 44) := by decide +kernel
theorem f8_283 : pm_fld 8 283 = some (8, 24) := by decide +kernel
theorem f8_296 : pm_fld 8 296 = some (8, 33) := by decide +kernel
theorem f8_322 : pm_fld 8 322 = some (8, 47) := by decide +kernel
theorem f8_330 : pm_fld 8 330 = some (8, 28) := by decide +kernel
theorem l0_46 : pm_ml 0 46 = some (174, 1, 1) := by decide +kernel
theorem l0_52 : pm_ml 0 52 = some (5, 0, 2) := by decide +kernel
theorem l3_40 : pm_ml 3 40 = some (176, 1, 2) := by decide +kernel
theorem l4_32 : pm_ml 4 32 = some (17, 0, 2) := by decide +kernel
theorem l6_27 : pm_ml 6 27 = some (34, 0, 0) := by decide +kernel
theorem l6_35 : pm_ml 6 35 = some (28, 0, 2) := by decide +kernel
theorem l6_41 : pm_ml 6 41 = some (38, 0, 1) := by decide +kernel
theorem l6_48 : pm_ml 6 48 = some (30, 0, 2) := by decide +kernel
theorem l6_59 : pm_ml 6 59 = some (39, 0, 1) := by decide +kernel
theorem l6_65 : pm_ml 6 65 = some (29, 0, 2) := by decide +kernel
theorem l6_73 : pm_ml 6 73 = some (32, 0, 0) := by decide +kernel
theorem l6_90 : pm_ml 6 90 = some (31, 0, 0) := by decide +kernel
theorem l6_102 : pm_ml 6 102 = some (33, 1, 1) := by decide +kernel
theorem l6_106 : pm_ml 6 106 = some (37, 0, 1) := by decide +kernel
theorem l6_109 : pm_ml 6 109 = some (35, 0, 0) := by decide +kernel
theorem l6_128 : pm_ml 6 128 = some (176, 1, 2) := by decide +kernel
theorem l6_134 : pm_ml 6 134 = some (36, 1, 2) := by decide +kernel
theorem l6_138 : pm_ml 6 138 = some (178, 0, 0) := by decide +kernel
theorem l6_142 : pm_ml 6 142 = some (179, 0, 1) := by decide +kernel
theorem l7_29 : pm_ml 7 29 = some (24, 3, 0) := by decide +kernel
theorem l7_54 : pm_ml 7 54 = some (9, 3, 0) := by decide +kernel
theorem l7_61 : pm_ml 7 61 = some (20, 3, 0) := by decide +kernel
theorem l7_70 : pm_ml 7 70 = some (15, 3, 0) := by decide +kernel
theorem l7_75 : pm_ml 7 75 = some (7, 3, 0) := by decide +kernel
theorem l7_82 : pm_ml 7 82 = some (11, 3, 0) := by decide +kernel
theorem l7_102 : pm_ml 7 102 = some (1, 3, 0) := by decide +kernel
theorem l7_109 : pm_ml 7 109 = some (75, 1, 2) := by decide +kernel
theorem l7_113 : pm_ml 7 113 = some (2, 0, 2) := by decide +kernel
theorem l7_117 : pm_ml 7 117 = some (76, 1, 2) := by decide +kernel
theorem l7_123 : pm_ml 7 123 = some (3, 0, 5) := by decide +kernel
theorem l7_127 : pm_ml 7 127 = some (4, 0, 1) := by decide +kernel
theorem l7_131 : pm_ml 7 131 = some (78, 1, 3) := by decide +kernel
theorem l7_141 : pm_ml 7 141 = some (77, 0, 2) := by decide +kernel
theorem l7_144 : pm_ml 7 144 = some (6, 0, 2) := by decide +kernel
theorem l7_149 : pm_ml 7 149 = some (25, 0, 2) := by decide +kernel
theorem l7_152 : pm_ml 7 152 = some (26, 0, 1) := by decide +kernel
theorem l7_156 : pm_ml 7 156 = some (27, 0, 1) := by decide +kernel
theorem l7_164 : pm_ml 7 164 = some (80, 0, 2) := by decide +kernel
theorem l7_194 : pm_ml 7 194 = some (88, 0, 1) := by decide +kernel
theorem l7_198 : pm_ml 7 198 = some (87, 0, 1) := by decide +kernel
theorem l7_202 : pm_ml 7 202 = some (184, 1, 2) := by decide +kernel
theorem l7_208 : pm_ml 7 208 = some (90, 0, 3) := by decide +kernel
theorem l7_216 : pm_ml 7 216 = some (85, 0, 5) := by decide +kernel
theorem l7_223 : pm_ml 7 223 = some (10, 0, 3) := by decide +kernel
theorem l7_225 : pm_ml 7 225 = some (91, 0, 1) := by decide +kernel
theorem l7_229 : pm_ml 7 229 = some (58, 0, 0) := by decide +kernel
theorem l7_233 : pm_ml 7 233 = some (82, 0, 0) := by decide +kernel
theorem l7_236 : pm_ml 7 236 = some (92, 0, 2) := by decide +kernel
theorem l7_240 : pm_ml 7 240 = some (81, 0, 1) := by decide +kernel
theorem l7_243 : pm_ml 7 243 = some (93, 0, 2) := by decide +kernel
theorem l7_249 : pm_ml 7 249 = some (84, 0, 3) := by decide +kernel
theorem l7_253 : pm_ml 7 253 = some (176, 1, 2) := by decide +kernel
theorem l7_261 : pm_ml 7 261 = some (83, 0, 1) := by decide +kernel
theorem l7_264 : pm_ml 7 264 = some (95, 0, 1) := by decide +kernel
theorem l7_267 : pm_ml 7 267 = some (96, 0, 2) := by decide +kernel
theorem l7_270 : pm_ml 7 270 = some (97, 0, 2) := by decide +kernel
theorem l7_275 : pm_ml 7 275 = some (177, 1, 2) := by decide +kernel
theorem l7_282 : pm_ml 7 282 = some (98, 0, 1) := by decide +kernel
theorem l7_285 : pm_ml 7 285 = some (99, 0, 1) := by decide +kernel
theorem l7_288 : pm_ml 7 288 = some (100, 0, 1) := by decide +kernel
theorem l7_292 : pm_ml 7 292 = some (21, 0, 3) := by decide +kernel
theorem l7_296 : pm_ml 7 296 = some (22, 0, 3) := by decide +kernel
theorem l7_302 : pm_ml 7 302 = some (101, 0, 1) := by decide +kernel
theorem l7_306 : pm_ml 7 306 = some (102, 0, 1) := by decide +kernel
theorem l7_310 : pm_ml 7 310 = some (23, 0, 0) := by decide +kernel
theorem l7_313 : pm_ml 7 313 = some (79, 0, 0) := by decide +kernel
theorem l7_316 : pm_ml 7 316 = some (12, 0, 0) := by decide +kernel
theorem l7_319 : pm_ml 7 319 = some (16, 0, 1) := by decide +kernel
theorem l7_323 : pm_ml 7 323 = some (18, 0, 1) := by decide +kernel
theorem l7_332 : pm_ml 7 332 = some (5, 0, 2) := by decide +kernel
theorem l7_335 : pm_ml 7 335 = some (13, 0, 4) := by decide +kernel
theorem l7_342 : pm_ml 7 342 = some (174, 1, 1) := by decide +kernel
theorem l7_345 : pm_ml 7 345 = some (86, 1, 1) := by decide +kernel
theorem l7_348 : pm_ml 7 348 = some (89, 0, 3) := by decide +kernel
theorem l7_359 : pm_ml 7 359 = some (14, 0, 1) := by decide +kernel
theorem l7_363 : pm_ml 7 363 = some (8, 0, 0) := by decide +kernel
theorem l7_372 : pm_ml 7 372 = some (94, 0, 4) := by decide +kernel
theorem l7_376 : pm_ml 7 376 = some (19, 0, 1) := by decide +kernel
theorem l7_379 : pm_ml 7 379 = some (175, 1, 2) := by decide +kernel
theorem l8_120 : pm_ml 8 120 = some (104, 1, 3) := by decide +kernel
theorem l8_126 : pm_ml 8 126 = some (105, 1, 1) := by decide +kernel
theorem l8_130 : pm_ml 8 130 = some (106, 1, 1) := by decide +kernel
theorem l8_155 : pm_ml 8 155 = some (113, 0, 2) := by decide +kernel
theorem l8_159 : pm_ml 8 159 = some (114, 0, 2) := by decide +kernel
theorem l8_162 : pm_ml 8 162 = some (108, 0, 2) := by decide +kernel
theorem l8_168 : pm_ml 8 168 = some (115, 0, 3) := by decide +kernel
theorem l8_186 : pm_ml 8 186 = some (119, 1, 1) := by decide +kernel
theorem l8_193 : pm_ml 8 193 = some (121, 0, 2) := by decide +kernel
theorem l8_196 : pm_ml 8 196 = some (120, 0, 0) := by decide +kernel
theorem l8_210 : pm_ml 8 210 = some (124, 0, 0) := by decide +kernel
theorem l8_216 : pm_ml 8 216 = some (123, 0, 1) := by decide +kernel
theorem l8_219 : pm_ml 8 219 = some (122, 0, 2) := by decide +kernel
theorem l8_223 : pm_ml 8 223 = some (125, 0, 1) := by decide +kernel
theorem l8_228 : pm_ml 8 228 = some (126, 0, 0) := by decide +kernel
theorem l8_231 : pm_ml 8 231 = some (127, 0, 0) := by decide +kernel
theorem l8_234 : pm_ml 8 234 = some (128, 0, 1) := by decide +kernel
theorem l8_237 : pm_ml 8 237 = some (129, 0, 1) := by decide +kernel
theorem l8_240 : pm_ml 8 240 = some (107, 1, 1) := by decide +kernel
theorem l8_243 : pm_ml 8 243 = some (133, 0, 3) := by decide +kernel
theorem l8_258 : pm_ml 8 258 = some (134, 0, 3) := by decide +kernel
theorem l8_263 : pm_ml 8 263 = some (135, 0, 2) := by decide +kernel
theorem l8_270 : pm_ml 8 270 = some (138, 0, 1) := by decide +kernel
theorem l8_275 : pm_ml 8 275 = some (139, 0, 1) := by decide +kernel
theorem l8_280 : pm_ml 8 280 = some (142, 1, 1) := by decide +kernel
theorem l8_286 : pm_ml 8 286 = some (146, 0, 1) := by decide +kernel
theorem l8_289 : pm_ml 8 289 = some (147, 0, 0) := by decide +kernel
theorem l8_293 : pm_ml 8 293 = some (149, 0, 2) := by decide +kernel
theorem l8_299 : pm_ml 8 299 = some (153, 0, 1) := by decide +kernel
theorem l8_302 : pm_ml 8 302 = some (154, 0, 4) := by decide +kernel
theorem l8_306 : pm_ml 8 306 = some (151, 0, 2) := by decide +kernel
theorem l8_309 : pm_ml 8 309 = some (152, 0, 3) := by decide +kernel
theorem l8_313 : pm_ml 8 313 = some (155, 0, 2) := by decide +kernel
theorem l8_318 : pm_ml 8 318 = some (159, 0, 1) := by decide +kernel
theorem l8_325 : pm_ml 8 325 = some (162, 0, 2) := by decide +kernel
theorem l8_337 : pm_ml 8 337 = some (171, 0, 1) := by decide +kernel
theorem l9_9 : pm_ml 9 9 = some (40, 2, 0) := by decide +kernel
theorem l9_12 : pm_ml 9 12 = some (103, 2, 0) := by decide +kernel
theorem l9_13 : pm_ml 9 13 = some (41, 0, 3) := by decide +kernel
theorem l9_17 : pm_ml 9 17 = some (109, 0, 3) := by decide +kernel
theorem l9_18 : pm_ml 9 18 = some (42, 0, 6) := by decide +kernel
theorem l9_22 : pm_ml 9 22 = some (110, 0, 6) := by decide +kernel
theorem l9_23 : pm_ml 9 23 = some (43, 0, 3) := by decide +kernel
theorem l9_26 : pm_ml 9 26 = some (111, 0, 3) := by decide +kernel
theorem l9_27 : pm_ml 9 27 = some (44, 0, 2) := by decide +kernel
theorem l9_31 : pm_ml 9 31 = some (112, 0, 2) := by decide +kernel
theorem l9_32 : pm_ml 9 32 = some (45, 0, 3) := by decide +kernel
theorem l9_35 : pm_ml 9 35 = some (116, 0, 3) := by decide +kernel
theorem l9_38 : pm_ml 9 38 = some (46, 0, 2) := by decide +kernel
theorem l9_42 : pm_ml 9 42 = some (117, 0, 2) := by decide +kernel
theorem l9_43 : pm_ml 9 43 = some (47, 0, 0) := by decide +kernel
theorem l9_47 : pm_ml 9 47 = some (118, 0, 0) := by decide +kernel
theorem l9_48 : pm_ml 9 48 = some (48, 0, 1) := by decide +kernel
theorem l9_52 : pm_ml 9 52 = some (130, 0, 1) := by decide +kernel
theorem l9_53 : pm_ml 9 53 = some (49, 0, 1) := by decide +kernel
theorem l9_56 : pm_ml 9 56 = some (131, 0, 1) := by decide +kernel
theorem l9_57 : pm_ml 9 57 = some (50, 0, 1) := by decide +kernel
theorem l9_60 : pm_ml 9 60 = some (132, 0, 1) := by decide +kernel
theorem l9_61 : pm_ml 9 61 = some (51, 0, 4) := by decide +kernel
theorem l9_65 : pm_ml 9 65 = some (136, 0, 4) := by decide +kernel
theorem l9_66 : pm_ml 9 66 = some (52, 0, 3) := by decide +kernel
theorem l9_69 : pm_ml 9 69 = some (137, 0, 3) := by decide +kernel
theorem l9_70 : pm_ml 9 70 = some (53, 0, 1) := by decide +kernel
theorem l9_73 : pm_ml 9 73 = some (140, 0, 1) := by decide +kernel
theorem l9_74 : pm_ml 9 74 = some (54, 0, 1) := by decide +kernel
theorem l9_77 : pm_ml 9 77 = some (141, 0, 1) := by decide +kernel
theorem l9_78 : pm_ml 9 78 = some (55, 0, 0) := by decide +kernel
theorem l9_81 : pm_ml 9 81 = some (143, 0, 0) := by decide +kernel
theorem l9_82 : pm_ml 9 82 = some (56, 0, 3) := by decide +kernel
theorem l9_85 : pm_ml 9 85 = some (144, 0, 3) := by decide +kernel
theorem l9_86 : pm_ml 9 86 = some (57, 0, 3) := by decide +kernel
theorem l9_89 : pm_ml 9 89 = some (145, 0, 3) := by decide +kernel
theorem l9_90 : pm_ml 9 90 = some (58, 0, 0) := by decide +kernel
theorem l9_93 : pm_ml 9 93 = some (148, 0, 0) := by decide +kernel
theorem l9_94 : pm_ml 9 94 = some (59, 0, 1) := by decide +kernel
theorem l9_97 : pm_ml 9 97 = some (150, 0, 1) := by decide +kernel
theorem l9_98 : pm_ml 9 98 = some (60, 0, 2) := by decide +kernel
theorem l9_101 : pm_ml 9 101 = some (156, 0, 2) := by decide +kernel
theorem l9_102 : pm_ml 9 102 = some (61, 0, 4) := by decide +kernel
theorem l9_105 : pm_ml 9 105 = some (157, 0, 4) := by decide +kernel
theorem l9_106 : pm_ml 9 106 = some (62, 0, 2) := by decide +kernel
theorem l9_109 : pm_ml 9 109 = some (158, 0, 2) := by decide +kernel
theorem l9_110 : pm_ml 9 110 = some (63, 0, 2) := by decide +kernel
theorem l9_113 : pm_ml 9 113 = some (160, 0, 2) := by decide +kernel
theorem l9_114 : pm_ml 9 114 = some (64, 0, 3) := by decide +kernel
theorem l9_117 : pm_ml 9 117 = some (161, 0, 3) := by decide +kernel
theorem l9_118 : pm_ml 9 118 = some (65, 0, 3) := by decide +kernel
theorem l9_121 : pm_ml 9 121 = some (163, 0, 3) := by decide +kernel
theorem l9_122 : pm_ml 9 122 = some (66, 0, 1) := by decide +kernel
theorem l9_125 : pm_ml 9 125 = some (164, 0, 1) := by decide +kernel
theorem l9_126 : pm_ml 9 126 = some (67, 0, 2) := by decide +kernel
theorem l9_129 : pm_ml 9 129 = some (165, 0, 2) := by decide +kernel
theorem l9_130 : pm_ml 9 130 = some (68, 0, 2) := by decide +kernel
theorem l9_133 : pm_ml 9 133 = some (166, 0, 2) := by decide +kernel
theorem l9_134 : pm_ml 9 134 = some (69, 0, 1) := by decide +kernel
theorem l9_137 : pm_ml 9 137 = some (167, 0, 1) := by decide +kernel
theorem l9_138 : pm_ml 9 138 = some (70, 0, 3) := by decide +kernel
theorem l9_141 : pm_ml 9 141 = some (168, 0, 3) := by decide +kernel
theorem l9_142 : pm_ml 9 142 = some (71, 0, 1) := by decide +kernel
theorem l9_145 : pm_ml 9 145 = some (169, 0, 1) := by decide +kernel
theorem l9_146 : pm_ml 9 146 = some (72, 0, 3) := by decide +kernel
theorem l9_149 : pm_ml 9 149 = some (170, 0, 3) := by decide +kernel
theorem l9_150 : pm_ml 9 150 = some (73, 0, 1) := by decide +kernel
theorem l9_154 : pm_ml 9 154 = some (172, 0, 1) := by decide +kernel
theorem l9_155 : pm_ml 9 155 = some (74, 0, 1) := by decide +kernel
theorem l9_158 : pm_ml 9 158 = some (173, 0, 1) := by decide +kernel
theorem l11_335 : pm_ml 11 335 = some (180, 0, 0) := by decide +kernel
theorem l11_492 : pm_ml 11 492 = some (181, 0, 0) := by decide +kernel
theorem l11_495 : pm_ml 11 495 = some (183, 1, 2) := by decide +kernel
theorem l11_1059 : pm_ml 11 1059 = some (185, 1, 3) := by decide +kernel
theorem l12_9 : pm_ml 12 9 = some (182, 1, 2) := by decide +kernel
/-! entries of the method table -/
abbrev pm_E0 : pm_E := (yL_law, code, 4, (some .boolean), 9, 13, 600000, 7302250, [(1355, [false, false, false, false])])
theorem pm_m0 : pm_mt 0 = some pm_E0 := rfl
abbrev pm_E2 : pm_E := (yX0_restart, prog_2_method_2_code, 3, none, 0, 1, 0, 0, [])
theorem pm_m2 : pm_mt 2 = some pm_E2 := rfl
abbrev pm_E3 : pm_E := (yX0_append, prog_2_method_3_code, 6, none, 0, 2, 0, 0, [(85, [true, false, false, false, false, false]), (96, [true, false, false, false, false, false])])
theorem pm_m3 : pm_mt 3 = some pm_E3 := rfl
abbrev pm_E4 : pm_E := (yX0_fillSoot, prog_2_method_4_code, 4, none, 0, 2, 0, 0, [(43, [true, true, false, true]), (50, [false, false, false, false])])
theorem pm_m4 : pm_mt 4 = some pm_E4 := rfl
abbrev pm_E5 : pm_E := (yX0_burnsOff, prog_2_method_5_code, 3, (some .boolean), 0, 1, 0, 0, [(24, [false, false, false]), (25, [false, false, false])])
theorem pm_m5 : pm_mt 5 = some pm_E5 := rfl
abbrev pm_E6 : pm_E := (yX0_fillReadings, prog_2_method_6_code, 3, none, 0, 2, 0, 0, [])
theorem pm_m6 : pm_mt 6 = some pm_E6 := rfl
abbrev pm_E8 : pm_E := (yX1_leastGram, prog_3_method_2_code, 3, (some .int), 1, 1, 0, 0, [(36, [true, false, true]), (49, [false, true, false])])
theorem pm_m8 : pm_mt 8 = some pm_E8 := rfl
abbrev pm_E10 : pm_E := (yX2_append, prog_4_method_2_code, 4, none, 2, 1, 0, 0, [])
theorem pm_m10 : pm_mt 10 = some pm_E10 := rfl
abbrev pm_E12 : pm_E := (yX3_clear, prog_5_method_2_code, 1, none, 3, 1, 0, 0, [])
theorem pm_m12 : pm_mt 12 = some pm_E12 := rfl
abbrev pm_E13 : pm_E := (yX3_add, prog_5_method_3_code, 6, none, 3, 2, 0, 0, [(43, [true, true, false, true, true, true]), (44, [true, true, false, true, true, true]), (96, [false, false, false, false, false, false]), (97, [false, false, false, false, false, false])])
theorem pm_m13 : pm_mt 13 = some pm_E13 := rfl
abbrev pm_E14 : pm_E := (yX3_airUpTo, prog_5_method_4_code, 4, (some .int), 3, 1, 0, 0, [(24, [false, false, true, false])])
theorem pm_m14 : pm_mt 14 = some pm_E14 := rfl
abbrev pm_E16 : pm_E := (yX4_lineFor, prog_6_method_2_code, 3, (some .int), 4, 2, 0, 0, [(27, [false, false, false])])
theorem pm_m16 : pm_mt 16 = some pm_E16 := rfl
abbrev pm_E17 : pm_E := (yX4_isTaken, prog_6_method_3_code, 6, (some .boolean), 4, 1, 0, 0, [(7, [true, true, true, true, true, false]), (68, [false, false, false, false, false, false]), (70, [true, true, true, true, true, false]), (76, [false, false, false, false, false, false])])
theorem pm_m17 : pm_mt 17 = some pm_E17 := rfl
abbrev pm_E18 : pm_E := (yX4_mapOf, prog_6_method_4_code, 2, (some .int), 4, 1, 0, 0, [(15, [false, false])])
theorem pm_m18 : pm_mt 18 = some pm_E18 := rfl
abbrev pm_E19 : pm_E := (yX4_asksFor, prog_6_method_5_code, 5, (some .boolean), 4, 1, 0, 0, [(2, [true, true, true, false, false]), (49, [true, true, true, false, false]), (55, [false, false, false, false, false])])
theorem pm_m19 : pm_mt 19 = some pm_E19 := rfl
abbrev pm_E21 : pm_E := (yX5_append, prog_7_method_2_code, 4, none, 5, 1, 0, 0, [])
theorem pm_m21 : pm_mt 21 = some pm_E21 := rfl
abbrev pm_E22 : pm_E := (yX5_toldReadings, prog_7_method_3_code, 6, (some .int), 5, 1, 0, 0, [(79, [false, false, false, false, true, false])])
theorem pm_m22 : pm_mt 22 = some pm_E22 := rfl
abbrev pm_E23 : pm_E := (yX5_howManyTold, prog_7_method_4_code, 3, (some .int), 5, 1, 0, 0, [(27, [true, false, true]), (28, [true, false, true]), (36, [false, true, false])])
theorem pm_m23 : pm_mt 23 = some pm_E23 := rfl
abbrev pm_E25 : pm_E := (yX6_append, prog_8_method_2_code, 5, none, 6, 1, 0, 0, [(3, [true, true, false, true, true]), (56, [false, false, false, false, false])])
theorem pm_m25 : pm_mt 25 = some pm_E25 := rfl
abbrev pm_E26 : pm_E := (yX6_faultAsProgram, prog_8_method_3_code, 4, (some .int), 6, 9, 0, 0, [(37, [true, true, false, true]), (66, [true, true, false, true]), (67, [true, true, false, true]), (74, [true, false, false, false]), (89, [true, false, false, false]), (93, [false, false, false, false])])
theorem pm_m26 : pm_mt 26 = some pm_E26 := rfl
abbrev pm_E27 : pm_E := (yX6_faultAsLaw, prog_8_method_4_code, 4, (some .int), 6, 9, 0, 0, [(37, [true, true, false, true]), (66, [true, true, false, true]), (67, [true, true, false, true]), (74, [true, false, false, false]), (89, [true, false, false, false]), (93, [false, false, false, false])])
theorem pm_m27 : pm_mt 27 = some pm_E27 := rfl
abbrev pm_E28 : pm_E := (yX6_takesProgramLine, prog_8_method_5_code, 5, (some .boolean), 6, 8, 0, 0, [(18, [true, true, true, false, false]), (41, [true, true, true, false, false]), (77, [true, true, true, false, true]), (110, [true, true, true, false, true]), (111, [true, true, true, false, true]), (118, [false, false, false, false, false])])
theorem pm_m28 : pm_mt 28 = some pm_E28 := rfl
abbrev pm_E29 : pm_E := (yX6_takesTest, prog_8_method_6_code, 3, (some .boolean), 6, 7, 0, 0, [(81, [false, false, false]), (82, [false, false, false])])
theorem pm_m29 : pm_mt 29 = some pm_E29 := rfl
abbrev pm_E30 : pm_E := (yX6_takesLawLine, prog_8_method_7_code, 4, (some .boolean), 6, 8, 0, 0, [(22, [true, true, true, false]), (42, [true, true, true, false]), (46, [true, true, true, false]), (47, [true, true, true, false]), (64, [true, true, true, false]), (71, [false, true, true, false]), (86, [false, false, false, false]), (87, [false, false, false, false])])
theorem pm_m30 : pm_mt 30 = some pm_E30 := rfl
abbrev pm_E31 : pm_E := (yX6_takeKind, prog_8_method_8_code, 1, (some .int), 6, 7, 0, 0, [(46, [false]), (47, [false])])
theorem pm_m31 : pm_mt 31 = some pm_E31 := rfl
abbrev pm_E32 : pm_E := (yX6_takeReading, prog_8_method_9_code, 2, (some .int), 6, 6, 0, 0, [(31, [false, false])])
theorem pm_m32 : pm_mt 32 = some pm_E32 := rfl
abbrev pm_E33 : pm_E := (yX6_wordOf, prog_8_method_10_code, 1, (some (.object "java/lang/String")), 6, 1, 0, 0, [(44, [false]), (47, [false]), (50, [false]), (53, [false]), (56, [false]), (59, [false]), (62, [false]), (65, [false])])
theorem pm_m33 : pm_mt 33 = some pm_E33 := rfl
abbrev pm_E34 : pm_E := (yX6_goToFirst, prog_8_method_11_code, 1, none, 6, 3, 0, 0, [])
theorem pm_m34 : pm_mt 34 = some pm_E34 := rfl
abbrev pm_E35 : pm_E := (yX6_goToNext, prog_8_method_12_code, 1, none, 6, 2, 0, 0, [(111, [false])])
theorem pm_m35 : pm_mt 35 = some pm_E35 := rfl
abbrev pm_E36 : pm_E := (yX6_isOfOneRow, prog_8_method_13_code, 4, (some .boolean), 6, 1, 0, 0, [(28, [true, true, false, false]), (29, [true, true, false, false]), (58, [false, false, true, false]), (59, [false, false, true, false]), (68, [false, false, false, false]), (72, [false, false, false, false]), (73, [false, false, false, false])])
theorem pm_m36 : pm_mt 36 = some pm_E36 := rfl
abbrev pm_E37 : pm_E := (yX6_isAt, prog_8_method_14_code, 3, (some .boolean), 6, 5, 0, 0, [(18, [true, true, false]), (55, [false, false, false])])
theorem pm_m37 : pm_mt 37 = some pm_E37 := rfl
abbrev pm_E38 : pm_E := (yX6_takesWord, prog_8_method_15_code, 2, (some .boolean), 6, 6, 0, 0, [(10, [true, false])])
theorem pm_m38 : pm_mt 38 = some pm_E38 := rfl
abbrev pm_E39 : pm_E := (yX6_takeNumber, prog_8_method_16_code, 4, (some .int), 6, 3, 0, 0, [(52, [false, false, false, false]), (54, [true, true, false, false]), (90, [true, true, true, false]), (97, [true, false, true, false])])
theorem pm_m39 : pm_mt 39 = some pm_E39 := rfl
abbrev pm_E41 : pm_E := (yX7_drive, prog_1_method_2_code, 4, (some .int), 7, 2, 0, 0, [(17, [false, false, false, false])])
theorem pm_m41 : pm_mt 41 = some pm_E41 := rfl
abbrev pm_E42 : pm_E := (yX7_tick, prog_1_method_3_code, 8, (some .int), 7, 3, 0, 0, [(12, [true, true, true, true, true, true, true, false]), (65, [false, false, false, false, false, false, false, false]), (68, [true, true, true, true, true, true, true, false]), (89, [true, false, true, true, true, true, true, true])])
theorem pm_m42 : pm_mt 42 = some pm_E42 := rfl
abbrev pm_E43 : pm_E := (yX7_dose, prog_1_method_4_code, 4, (some .int), 7, 2, 0, 0, [(28, [false, false, false, false])])
theorem pm_m43 : pm_mt 43 = some pm_E43 := rfl
abbrev pm_E44 : pm_E := (yX7_set, prog_1_method_5_code, 5, (some .int), 7, 3, 0, 0, [(30, [false, false, false, false, false]), (33, [true, true, true, false, false]), (46, [true, false, false, true, true]), (75, [false, false, false, true, false])])
theorem pm_m44 : pm_mt 44 = some pm_E44 := rfl
abbrev pm_E45 : pm_E := (yX7_reading, prog_1_method_6_code, 4, (some .int), 7, 3, 0, 0, [])
theorem pm_m45 : pm_mt 45 = some pm_E45 := rfl
abbrev pm_E46 : pm_E := (yX7_write, prog_1_method_7_code, 4, (some .int), 7, 2, 0, 0, [(11, [false, false, false, false]), (14, [true, true, false, true]), (32, [true, true, false, true])])
theorem pm_m46 : pm_mt 46 = some pm_E46 := rfl
abbrev pm_E47 : pm_E := (yX7_erase, prog_1_method_8_code, 2, (some .int), 7, 1, 0, 0, [])
theorem pm_m47 : pm_mt 47 = some pm_E47 := rfl
abbrev pm_E48 : pm_E := (yX7_fault, prog_1_method_9_code, 2, (some .int), 7, 10, 0, 0, [(35, [false, false]), (37, [false, false])])
theorem pm_m48 : pm_mt 48 = some pm_E48 := rfl
abbrev pm_E49 : pm_E := (yX7_program, prog_1_method_10_code, 3, (some .int), 7, 10, 0, 0, [(11, [true, true, false]), (29, [true, true, false])])
theorem pm_m49 : pm_mt 49 = some pm_E49 := rfl
abbrev pm_E50 : pm_E := (yX7_law, prog_1_method_11_code, 3, (some .int), 7, 10, 0, 0, [(11, [true, true, false]), (29, [true, true, false])])
theorem pm_m50 : pm_mt 50 = some pm_E50 := rfl
abbrev pm_E51 : pm_E := (yX7_run, prog_1_method_12_code, 5, (some .int), 7, 4, 0, 0, [(17, [false, false, false, false, false]), (64, [true, false, false, true, false]), (74, [true, false, false, true, false]), (84, [true, false, false, true, false]), (94, [true, false, false, true, false]), (104, [true, false, false, true, false]), (114, [false, false, false, false, false])])
theorem pm_m51 : pm_mt 51 = some pm_E51 := rfl
abbrev pm_E52 : pm_E := (yX7_all, prog_1_method_13_code, 4, (some .int), 7, 4, 0, 0, [(17, [false, false, false, false]), (56, [true, false, false, false]), (64, [true, false, false, false]), (72, [true, false, false, false]), (80, [true, false, false, false]), (88, [false, false, false, false])])
theorem pm_m52 : pm_mt 52 = some pm_E52 := rfl
abbrev pm_E53 : pm_E := (yX7_parts, prog_1_method_14_code, 2, (some .int), 7, 5, 0, 0, [(17, [false, false]), (19, [false, false])])
theorem pm_m53 : pm_mt 53 = some pm_E53 := rfl
abbrev pm_E54 : pm_E := (yX7_bound, prog_1_method_15_code, 2, (some .int), 7, 4, 0, 0, [(17, [false, false]), (19, [false, false])])
theorem pm_m54 : pm_mt 54 = some pm_E54 := rfl
abbrev pm_E55 : pm_E := (yX7_fewest, prog_1_method_16_code, 5, (some .int), 7, 5, 0, 0, [(22, [true, true, true, true, false]), (54, [true, false, true, false, false])])
theorem pm_m55 : pm_mt 55 = some pm_E55 := rfl
abbrev pm_E56 : pm_E := (yX7_spy, prog_1_method_17_code, 7, (some .int), 7, 4, 0, 0, [(25, [false, false, false, false, false, false, false]), (28, [true, true, true, true, false, false, false]), (39, [true, true, false, true, true, true, false]), (49, [true, true, false, true, true, true, true]), (101, [true, true, false, true, true, true, true]), (107, [true, true, false, true, true, true, false]), (113, [false, false, false, false, false, false, false])])
theorem pm_m56 : pm_mt 56 = some pm_E56 := rfl
abbrev pm_E57 : pm_E := (yX7_measure, prog_1_method_18_code, 4, (some .int), 7, 3, 0, 0, [])
theorem pm_m57 : pm_mt 57 = some pm_E57 := rfl
abbrev pm_E58 : pm_E := (yX7_lets, prog_1_method_19_code, 3, (some .int), 7, 5, 0, 0, [(29, [false, true, false])])
theorem pm_m58 : pm_mt 58 = some pm_E58 := rfl
abbrev pm_E59 : pm_E := (yX7_parting, prog_1_method_20_code, 7, (some .int), 7, 6, 0, 0, [(11, [true, true, false, false, false, false, false]), (28, [true, true, true, true, true, true, false]), (58, [true, true, true, true, true, true, false]), (64, [false, true, false, true, true, false, false]), (72, [false, false, false, false, true, false, false]), (74, [false, false, false, false, false, false, false])])
theorem pm_m59 : pm_mt 59 = some pm_E59 := rfl
abbrev pm_E60 : pm_E := (yX7_breaks, prog_1_method_21_code, 3, (some .int), 7, 5, 0, 0, [(16, [false, false, false])])
theorem pm_m60 : pm_mt 60 = some pm_E60 := rfl
abbrev pm_E61 : pm_E := (yX7_cold, prog_1_method_22_code, 8, (some .int), 7, 4, 0, 0, [(16, [false, false, false, false, false, false, false, false]), (19, [true, true, true, true, true, false, false, false]), (37, [false, false, false, false, false, false, false, false]), (40, [true, true, true, true, true, false, false, false]), (49, [true, true, true, false, false, false, false, false]), (51, [true, true, true, false, false, false, false, false]), (59, [true, true, true, false, false, true, true, true]), (106, [true, true, true, false, false, true, true, true]), (112, [false, false, false, false, false, false, true, false])])
theorem pm_m61 : pm_mt 61 = some pm_E61 := rfl
abbrev pm_E62 : pm_E := (yX7_lasts, prog_1_method_23_code, 3, (some .int), 7, 4, 0, 0, [(17, [false, false, false]), (55, [true, false, false])])
theorem pm_m62 : pm_mt 62 = some pm_E62 := rfl
abbrev pm_E63 : pm_E := (yX7_saves, prog_1_method_24_code, 3, (some .int), 7, 5, 0, 0, [(16, [false, false, false])])
theorem pm_m63 : pm_mt 63 = some pm_E63 := rfl
abbrev pm_E64 : pm_E := (yX7_cars, prog_1_method_25_code, 4, (some .int), 7, 2, 0, 0, [(39, [false, false, false, false]), (53, [true, true, false, true]), (57, [false, true, false, true])])
theorem pm_m64 : pm_mt 64 = some pm_E64 := rfl
abbrev pm_E65 : pm_E := (yX7_fix, prog_1_method_26_code, 5, (some .int), 7, 6, 0, 0, [(16, [false, false, false, false, false]), (19, [true, true, true, true, false]), (30, [true, true, true, true, false]), (55, [true, true, false, false, true]), (62, [false, false, false, false, false])])
theorem pm_m65 : pm_mt 65 = some pm_E65 := rfl
abbrev pm_E66 : pm_E := (yX7_owed, prog_1_method_27_code, 6, (some .int), 7, 6, 0, 0, [(11, [true, true, false, false, false, false]), (26, [true, false, true, true, false, true]), (64, [false, false, false, true, false, false])])
theorem pm_m66 : pm_mt 66 = some pm_E66 := rfl
abbrev pm_E67 : pm_E := (yX7_cost, prog_1_method_28_code, 4, (some .int), 7, 2, 0, 0, [(12, [true, true, true, false]), (24, [true, true, true, false])])
theorem pm_m67 : pm_mt 67 = some pm_E67 := rfl
abbrev pm_E68 : pm_E := (yX7_looks, prog_1_method_29_code, 7, (some .int), 7, 6, 0, 0, [(18, [false, false, false, false, false, false, false]), (21, [true, true, true, false, false, false, false]), (48, [true, false, true, true, true, false, false]), (54, [true, false, true, false, true, true, true]), (89, [true, false, true, false, true, true, true]), (95, [true, false, true, false, false, true, false]), (104, [true, false, false, false, false, true, false]), (110, [false, false, false, false, false, false, false])])
theorem pm_m68 : pm_mt 68 = some pm_E68 := rfl
abbrev pm_E69 : pm_E := (yX7_months, prog_1_method_30_code, 2, (some .int), 7, 1, 0, 0, [(23, [false, false])])
theorem pm_m69 : pm_mt 69 = some pm_E69 := rfl
abbrev pm_E70 : pm_E := (yX7_ask, prog_1_method_31_code, 4, (some .int), 7, 2, 0, 0, [(16, [false, false, false, false])])
theorem pm_m70 : pm_mt 70 = some pm_E70 := rfl
abbrev pm_E71 : pm_E := (yX7_tell, prog_1_method_32_code, 2, (some .int), 7, 2, 0, 0, [])
theorem pm_m71 : pm_mt 71 = some pm_E71 := rfl
abbrev pm_E72 : pm_E := (yX7_known, prog_1_method_33_code, 4, (some .int), 7, 2, 0, 0, [(16, [false, false, false, false]), (42, [false, false, false, false]), (44, [false, false, false, false])])
theorem pm_m72 : pm_mt 72 = some pm_E72 := rfl
abbrev pm_E73 : pm_E := (yX7_comes, prog_1_method_34_code, 6, (some .long), 7, 6, 0, 0, [(12, [true, true, false, false, false, false])])
theorem pm_m73 : pm_mt 73 = some pm_E73 := rfl
abbrev pm_E74 : pm_E := (yX7_count, prog_1_method_35_code, 2, (some .int), 7, 2, 0, 0, [(40, [true, false]), (45, [true, false]), (53, [true, false]), (61, [true, false]), (69, [true, false]), (77, [true, false]), (82, [false, false])])
theorem pm_m74 : pm_mt 74 = some pm_E74 := rfl
abbrev pm_E75 : pm_E := (yX7_isBelow, prog_1_method_36_code, 2, (some .boolean), 7, 1, 0, 0, [(13, [false, false]), (14, [false, false])])
theorem pm_m75 : pm_mt 75 = some pm_E75 := rfl
abbrev pm_E76 : pm_E := (yX7_isUpTo, prog_1_method_37_code, 2, (some .boolean), 7, 1, 0, 0, [(13, [false, false]), (14, [false, false])])
theorem pm_m76 : pm_mt 76 = some pm_E76 := rfl
abbrev pm_E77 : pm_E := (yX7_isTick, prog_1_method_38_code, 3, (some .boolean), 7, 2, 0, 0, [(29, [false, false, false]), (30, [false, false, false])])
theorem pm_m77 : pm_mt 77 = some pm_E77 := rfl
abbrev pm_E78 : pm_E := (yX7_replaced, prog_1_method_39_code, 4, (some .int), 7, 1, 0, 0, [])
theorem pm_m78 : pm_mt 78 = some pm_E78 := rfl
abbrev pm_E79 : pm_E := (yX7_ticksOfAllDrives, prog_1_method_40_code, 3, (some .int), 7, 1, 0, 0, [(28, [false, true, false])])
theorem pm_m79 : pm_mt 79 = some pm_E79 := rfl
abbrev pm_E80 : pm_E := (yX7_fillOutcome, prog_1_method_41_code, 11, none, 7, 3, 0, 0, [(33, [true, false, false, true, true, true, true, false, false, false, false]), (182, [false, false, false, false, false, false, false, false, false, false, false])])
theorem pm_m80 : pm_mt 80 = some pm_E80 := rfl
abbrev pm_E81 : pm_E := (yX7_fillTotals, prog_1_method_42_code, 3, none, 7, 4, 0, 0, [(50, [false, false, false])])
theorem pm_m81 : pm_mt 81 = some pm_E81 := rfl
abbrev pm_E82 : pm_E := (yX7_fillAllTotals, prog_1_method_43_code, 2, none, 7, 5, 0, 0, [(18, [false, false])])
theorem pm_m82 : pm_mt 82 = some pm_E82 := rfl
abbrev pm_E83 : pm_E := (yX7_usedOnRoads, prog_1_method_44_code, 4, (some .int), 7, 1, 0, 0, [(40, [false, false, true, false])])
theorem pm_m83 : pm_mt 83 = some pm_E83 := rfl
abbrev pm_E84 : pm_E := (yX7_ticksWithout, prog_1_method_45_code, 6, (some .int), 7, 1, 0, 0, [(49, [false, false, false, false, true, false])])
theorem pm_m84 : pm_mt 84 = some pm_E84 := rfl
abbrev pm_E85 : pm_E := (yX7_isHidden, prog_1_method_46_code, 8, (some .boolean), 7, 3, 0, 0, [(88, [false, false, false, false, false, false, false, false])])
theorem pm_m85 : pm_mt 85 = some pm_E85 := rfl
abbrev pm_E86 : pm_E := (yX7_isAbove, prog_1_method_47_code, 1, (some .boolean), 7, 1, 0, 0, [(11, [false]), (12, [false])])
theorem pm_m86 : pm_mt 86 = some pm_E86 := rfl
abbrev pm_E87 : pm_E := (yX7_numberInTest, prog_1_method_48_code, 8, (some .int), 7, 3, 0, 0, [(10, [true, true, true, true, true, false, false, false]), (29, [true, true, true, true, true, true, true, false]), (92, [true, true, true, false, true, true, true, true]), (95, [true, true, true, true, true, true, true, false]), (101, [true, true, true, true, true, false, false, false]), (107, [false, false, true, true, false, false, false, false]), (114, [false, false, true, true, false, false, false, false]), (124, [false, false, false, true, false, false, false, false]), (127, [false, false, false, false, false, false, false, false])])
theorem pm_m87 : pm_mt 87 = some pm_E87 := rfl
abbrev pm_E88 : pm_E := (yX7_partedRoads, prog_1_method_49_code, 5, (some .int), 7, 4, 0, 0, [(66, [false, false, false, true, false])])
theorem pm_m88 : pm_mt 88 = some pm_E88 := rfl
abbrev pm_E89 : pm_E := (yX7_failsOn, prog_1_method_50_code, 6, (some .boolean), 7, 3, 0, 0, [(3, [true, true, true, true, true, false]), (54, [false, false, false, false, false, false]), (56, [true, true, true, true, true, false]), (62, [false, false, false, false, false, false])])
theorem pm_m89 : pm_mt 89 = some pm_E89 := rfl
abbrev pm_E90 : pm_E := (yX7_addToLeastSets, prog_1_method_51_code, 7, none, 7, 2, 0, 0, [(18, [true, false, true, true, true, true, false]), (75, [true, false, true, true, true, true, false]), (81, [false, false, false, false, false, false, false])])
theorem pm_m90 : pm_mt 90 = some pm_E90 := rfl
abbrev pm_E91 : pm_E := (yX7_isLet, prog_1_method_52_code, 5, (some .boolean), 7, 4, 0, 0, [(2, [true, true, true, false, false]), (75, [true, true, true, false, false]), (81, [false, false, false, false, false])])
theorem pm_m91 : pm_mt 91 = some pm_E91 := rfl
abbrev pm_E92 : pm_E := (yX7_unlikeAirs, prog_1_method_53_code, 7, (some .int), 7, 1, 0, 0, [(5, [true, true, true, true, true, false, false]), (25, [true, true, true, true, true, false, false]), (26, [true, true, true, true, true, false, false]), (78, [true, true, true, true, true, true, false]), (86, [true, true, true, true, true, false, false]), (92, [false, false, false, true, false, false, false])])
theorem pm_m92 : pm_mt 92 = some pm_E92 := rfl
abbrev pm_E93 : pm_E := (yX7_brokenLines, prog_1_method_54_code, 10, (some .int), 7, 2, 0, 0, [(33, [true, true, false, true, true, true, true, true, false, false]), (92, [true, true, false, true, true, true, true, true, true, false]), (107, [true, true, false, true, true, true, true, true, true, false]), (134, [true, true, false, true, true, true, true, true, false, false]), (135, [true, true, false, true, true, true, true, true, false, false]), (140, [true, true, false, true, true, true, true, true, true, false]), (156, [true, true, false, true, true, true, true, true, true, false]), (184, [true, true, false, true, true, true, true, true, false, false]), (185, [true, true, false, true, true, true, true, true, false, false]), (190, [true, true, false, true, true, true, true, true, false, true]), (204, [true, true, false, true, true, true, true, true, false, false]), (210, [false, false, false, false, false, false, true, false, false, false])])
theorem pm_m93 : pm_mt 93 = some pm_E93 := rfl
abbrev pm_E94 : pm_E := (yX7_someAirAbove, prog_1_method_55_code, 7, (some .boolean), 7, 1, 0, 0, [(3, [true, true, true, true, true, true, false]), (52, [true, true, true, true, true, true, false]), (58, [false, false, false, false, false, false, false])])
theorem pm_m94 : pm_mt 94 = some pm_E94 := rfl
abbrev pm_E95 : pm_E := (yX7_lawfulVersions, prog_1_method_56_code, 4, (some .int), 7, 3, 0, 0, [(30, [false, false, true, false])])
theorem pm_m95 : pm_mt 95 = some pm_E95 := rfl
abbrev pm_E96 : pm_E := (yX7_cheapestFix, prog_1_method_57_code, 5, (some .int), 7, 3, 0, 0, [(45, [false, false, false, true, false])])
theorem pm_m96 : pm_mt 96 = some pm_E96 := rfl
abbrev pm_E97 : pm_E := (yX7_fixCost, prog_1_method_58_code, 3, (some .int), 7, 2, 0, 0, [])
theorem pm_m97 : pm_mt 97 = some pm_E97 := rfl
abbrev pm_E98 : pm_E := (yX7_fillCaught, prog_1_method_59_code, 4, none, 7, 1, 0, 0, [(2, [true, true, true, false]), (65, [true, true, true, false]), (71, [false, false, false, false])])
theorem pm_m98 : pm_mt 98 = some pm_E98 := rfl
abbrev pm_E99 : pm_E := (yX7_caughtByAny, prog_1_method_60_code, 4, (some .int), 7, 1, 0, 0, [(34, [false, false, true, false])])
theorem pm_m99 : pm_mt 99 = some pm_E99 := rfl
abbrev pm_E100 : pm_E := (yX7_lookCosts, prog_1_method_61_code, 4, (some .int), 7, 1, 0, 0, [(37, [false, false, true, false])])
theorem pm_m100 : pm_mt 100 = some pm_E100 := rfl
abbrev pm_E101 : pm_E := (yX7_airInStreet, prog_1_method_62_code, 6, (some .long), 7, 1, 0, 0, [(5, [true, true, true, false, true, false]), (43, [true, true, true, false, true, true]), (78, [true, true, true, false, true, false]), (84, [false, false, true, false, false, false])])
theorem pm_m101 : pm_mt 101 = some pm_E101 := rfl
abbrev pm_E102 : pm_E := (yX7_blownAway, prog_1_method_63_code, 3, (some .long), 7, 1, 0, 0, [])
theorem pm_m102 : pm_mt 102 = some pm_E102 := rfl
abbrev pm_E104 : pm_E := (yX8_in, prog_10_method_2_code, 6, (some .boolean), 8, 1, 0, 0, [(17, [false, false, false, false, false, false]), (18, [false, false, false, false, false, false])])
theorem pm_m104 : pm_mt 104 = some pm_E104 := rfl
abbrev pm_E105 : pm_E := (yX8_isDrive, prog_10_method_3_code, 1, (some .boolean), 8, 2, 0, 0, [])
theorem pm_m105 : pm_mt 105 = some pm_E105 := rfl
abbrev pm_E106 : pm_E := (yX8_isFour, prog_10_method_4_code, 1, (some .boolean), 8, 2, 0, 0, [])
theorem pm_m106 : pm_mt 106 = some pm_E106 := rfl
abbrev pm_E107 : pm_E := (yX8_isLand, prog_10_method_5_code, 1, (some .boolean), 8, 2, 0, 0, [])
theorem pm_m107 : pm_mt 107 = some pm_E107 := rfl
abbrev pm_E108 : pm_E := (yX8_isTick, prog_10_method_6_code, 3, (some .boolean), 8, 3, 0, 0, [(29, [false, false, false]), (30, [false, false, false])])
theorem pm_m108 : pm_mt 108 = some pm_E108 := rfl
abbrev pm_E109 : pm_E := (yX8_drive, prog_10_method_7_code, 4, (some .int), 8, 3, 0, 0, [(14, [false, false, false, false])])
theorem pm_m109 : pm_mt 109 = some pm_E109 := rfl
abbrev pm_E110 : pm_E := (yX8_tick, prog_10_method_8_code, 8, (some .int), 8, 3, 0, 0, [(10, [true, true, true, true, true, true, true, false]), (75, [false, false, false, false, false, false, false, false]), (78, [true, true, true, true, true, true, true, false]), (92, [true, true, true, true, true, true, true, false])])
theorem pm_m110 : pm_mt 110 = some pm_E110 := rfl
abbrev pm_E111 : pm_E := (yX8_dose, prog_10_method_9_code, 5, (some .int), 8, 3, 0, 0, [(10, [true, true, true, true, false]), (29, [false, false, false, false, false]), (32, [true, true, true, true, false])])
theorem pm_m111 : pm_mt 111 = some pm_E111 := rfl
abbrev pm_E112 : pm_E := (yX8_set, prog_10_method_10_code, 4, (some .int), 8, 3, 0, 0, [(20, [true, true, true, false]), (21, [true, true, true, false]), (31, [true, true, true, false]), (42, [true, true, true, false]), (53, [true, true, true, false]), (56, [true, true, true, false]), (62, [false, false, false, false]), (65, [true, true, true, false])])
theorem pm_m112 : pm_mt 112 = some pm_E112 := rfl
abbrev pm_E113 : pm_E := (yX8_wheelOf, prog_10_method_11_code, 4, (some .int), 8, 1, 0, 0, [(21, [false, false, false, true]), (22, [false, false, false, false])])
theorem pm_m113 : pm_mt 113 = some pm_E113 := rfl
abbrev pm_E114 : pm_E := (yX8_sootOf, prog_10_method_12_code, 5, (some .int), 8, 1, 0, 0, [(44, [true, true, true, false, true]), (51, [false, false, false, true, false])])
theorem pm_m114 : pm_mt 114 = some pm_E114 := rfl
abbrev pm_E115 : pm_E := (yX8_readingOf, prog_10_method_13_code, 7, (some .int), 8, 2, 0, 0, [(56, [false, false, true, false, false, false, false]), (58, [true, true, true, false, false, false, false]), (65, [true, true, true, false, false, true, false]), (68, [true, true, true, false, false, true, true]), (92, [false, false, false, false, false, true, false]), (95, [true, false, false, false, true, false, false]), (103, [true, false, false, false, true, false, false]), (111, [true, false, false, false, true, false, false]), (119, [true, false, false, false, true, false, false]), (127, [true, true, true, false, false, false, false])])
theorem pm_m115 : pm_mt 115 = some pm_E115 := rfl
abbrev pm_E116 : pm_E := (yX8_reading, prog_10_method_14_code, 4, (some .int), 8, 4, 0, 0, [(34, [false, false, false, false]), (36, [false, false, false, false])])
theorem pm_m116 : pm_mt 116 = some pm_E116 := rfl
abbrev pm_E117 : pm_E := (yX8_write, prog_10_method_15_code, 5, (some .int), 8, 2, 0, 0, [(15, [true, true, false, true, false]), (30, [true, true, false, true, false]), (33, [true, true, false, true, true]), (76, [true, false, false, false, false])])
theorem pm_m117 : pm_mt 117 = some pm_E117 := rfl
abbrev pm_E118 : pm_E := (yX8_erase, prog_10_method_16_code, 2, (some .int), 8, 1, 0, 0, [])
theorem pm_m118 : pm_mt 118 = some pm_E118 := rfl
abbrev pm_E119 : pm_E := (yX8_sort, prog_10_method_17_code, 1, (some .int), 8, 1, 0, 0, [(32, [false]), (33, [false])])
theorem pm_m119 : pm_mt 119 = some pm_E119 := rfl
abbrev pm_E120 : pm_E := (yX8_token, prog_10_method_18_code, 1, none, 8, 2, 0, 0, [])
theorem pm_m120 : pm_mt 120 = some pm_E120 := rfl
abbrev pm_E121 : pm_E := (yX8_isWord, prog_10_method_19_code, 5, (some .boolean), 8, 1, 0, 0, [(17, [true, true, true, false, false]), (18, [true, true, true, false, false]), (63, [true, true, true, false, true]), (64, [true, true, true, false, true]), (71, [false, false, false, true, false])])
theorem pm_m121 : pm_mt 121 = some pm_E121 := rfl
abbrev pm_E122 : pm_E := (yX8_skips, prog_10_method_20_code, 4, (some .boolean), 8, 3, 0, 0, [(15, [false, false, false, true])])
theorem pm_m122 : pm_mt 122 = some pm_E122 := rfl
abbrev pm_E123 : pm_E := (yX8_skipsNumber, prog_10_method_21_code, 4, (some .boolean), 8, 3, 0, 0, [(44, [true, true, false, false]), (45, [true, true, false, false]), (95, [true, true, true, false]), (111, [true, false, false, false]), (112, [true, false, false, false]), (121, [false, false, true, false])])
theorem pm_m123 : pm_mt 123 = some pm_E123 := rfl
abbrev pm_E124 : pm_E := (yX8_skipsReading, prog_10_method_22_code, 2, (some .boolean), 8, 3, 0, 0, [(14, [true, false]), (28, [true, false]), (43, [true, false]), (58, [true, false]), (72, [true, false]), (86, [true, false]), (101, [true, false]), (116, [true, false]), (117, [true, false])])
theorem pm_m124 : pm_mt 124 = some pm_E124 := rfl
abbrev pm_E125 : pm_E := (yX8_readsTest, prog_10_method_23_code, 4, (some .boolean), 8, 4, 0, 0, [(9, [true, true, false, false]), (83, [true, true, true, false]), (84, [true, true, true, false])])
theorem pm_m125 : pm_mt 125 = some pm_E125 := rfl
abbrev pm_E126 : pm_E := (yX8_readsLine, prog_10_method_24_code, 3, (some .boolean), 8, 5, 0, 0, [(36, [false, false, false]), (38, [true, true, false]), (70, [true, true, false]), (95, [true, true, false]), (96, [true, true, false]), (100, [true, false, false])])
theorem pm_m126 : pm_mt 126 = some pm_E126 := rfl
abbrev pm_E127 : pm_E := (yX8_readsLaw, prog_10_method_25_code, 3, (some .boolean), 8, 4, 0, 0, [(24, [true, true, false]), (38, [true, true, false]), (53, [true, true, false]), (68, [true, true, false]), (69, [true, true, false]), (106, [false, false, false])])
theorem pm_m127 : pm_mt 127 = some pm_E127 := rfl
abbrev pm_E128 : pm_E := (yX8_readsOne, prog_10_method_26_code, 2, (some .boolean), 8, 6, 0, 0, [(11, [true, false]), (15, [false, false])])
theorem pm_m128 : pm_mt 128 = some pm_E128 := rfl
abbrev pm_E129 : pm_E := (yX8_faultAs, prog_10_method_27_code, 3, (some .int), 8, 7, 0, 0, [(36, [true, true, false]), (92, [true, true, false]), (103, [true, true, false]), (107, [true, true, false]), (108, [true, true, false]), (132, [true, true, false]), (135, [false, false, false])])
theorem pm_m129 : pm_mt 129 = some pm_E129 := rfl
abbrev pm_E130 : pm_E := (yX8_fault, prog_10_method_28_code, 2, (some .int), 8, 8, 0, 0, [(18, [false, false]), (20, [false, false])])
theorem pm_m130 : pm_mt 130 = some pm_E130 := rfl
abbrev pm_E131 : pm_E := (yX8_program, prog_10_method_29_code, 4, (some .int), 8, 8, 0, 0, [(10, [true, true, false, false]), (22, [true, true, false, false]), (36, [true, true, true, false]), (183, [true, true, true, false]), (189, [true, true, false, false])])
theorem pm_m131 : pm_mt 131 = some pm_E131 := rfl
abbrev pm_E132 : pm_E := (yX8_law, prog_10_method_30_code, 3, (some .int), 8, 8, 0, 0, [(10, [true, true, false]), (22, [true, true, false]), (92, [true, true, false])])
theorem pm_m132 : pm_mt 132 = some pm_E132 := rfl
abbrev pm_E133 : pm_E := (yX8_lineOf, prog_10_method_31_code, 8, (some .int), 8, 3, 0, 0, [(6, [true, true, true, true, true, false, false, false]), (31, [true, true, true, true, true, true, true, false]), (94, [true, true, true, true, true, false, true, true]), (106, [true, true, true, true, true, false, true, false]), (110, [true, true, true, true, true, false, true, false]), (111, [true, true, true, true, true, false, true, false]), (119, [true, true, true, true, true, true, false, false]), (132, [true, true, true, true, true, false, false, false]), (138, [false, false, false, false, false, false, false, false])])
theorem pm_m133 : pm_mt 133 = some pm_E133 := rfl
abbrev pm_E134 : pm_E := (yX8_mapOf, prog_10_method_32_code, 5, (some .int), 8, 4, 0, 0, [(19, [true, true, false, false, true]), (31, [false, false, false, false, false])])
theorem pm_m134 : pm_mt 134 = some pm_E134 := rfl
abbrev pm_E135 : pm_E := (yX8_layRun, prog_10_method_33_code, 9, none, 8, 5, 0, 0, [(33, [true, true, true, true, true, true, false, false, false]), (117, [true, true, true, true, true, true, true, true, false]), (118, [true, true, true, true, true, true, true, true, false]), (161, [true, true, true, true, true, true, true, true, false]), (163, [true, true, true, true, true, true, true, true, false]), (232, [true, true, true, true, true, true, false, false, false]), (286, [false, false, false, false, false, false, false, false, false])])
theorem pm_m135 : pm_mt 135 = some pm_E135 := rfl
abbrev pm_E136 : pm_E := (yX8_run, prog_10_method_34_code, 5, (some .int), 8, 6, 0, 0, [(16, [false, false, false, false, false]), (72, [true, false, false, true, true]), (87, [true, false, false, true, true]), (102, [true, false, false, true, false]), (108, [false, false, false, false, false])])
theorem pm_m136 : pm_mt 136 = some pm_E136 := rfl
abbrev pm_E137 : pm_E := (yX8_all, prog_10_method_35_code, 4, (some .int), 8, 6, 0, 0, [(14, [false, false, false, false]), (52, [true, false, false, true]), (64, [true, false, false, true]), (76, [true, false, false, false]), (80, [false, false, false, false])])
theorem pm_m137 : pm_mt 137 = some pm_E137 := rfl
abbrev pm_E138 : pm_E := (yX8_boundOf, prog_10_method_36_code, 7, (some .int), 8, 3, 0, 0, [(9, [true, true, true, true, true, false, false]), (19, [true, true, true, true, true, true, false]), (66, [true, true, false, true, true, true, true]), (78, [true, true, true, true, true, true, false]), (79, [true, true, true, false, true, true, false]), (86, [true, true, true, true, true, false, false]), (92, [false, true, true, true, false, false, false]), (101, [false, true, true, true, false, false, false]), (113, [false, false, true, false, false, false, false]), (116, [false, false, false, false, false, false, false])])
theorem pm_m138 : pm_mt 138 = some pm_E138 := rfl
abbrev pm_E139 : pm_E := (yX8_partsOf, prog_10_method_37_code, 7, (some .int), 8, 4, 0, 0, [(11, [true, true, true, true, true, false, false]), (26, [true, true, true, true, true, true, false]), (78, [true, true, true, false, true, true, true]), (84, [true, true, true, false, true, true, false]), (88, [true, true, true, false, true, true, false]), (92, [true, true, true, false, true, true, false]), (100, [true, true, true, true, true, false, false]), (106, [false, false, false, true, false, false, false])])
theorem pm_m139 : pm_mt 139 = some pm_E139 := rfl
abbrev pm_E140 : pm_E := (yX8_parts, prog_10_method_38_code, 2, (some .int), 8, 5, 0, 0, [(20, [false, false]), (22, [false, false])])
theorem pm_m140 : pm_mt 140 = some pm_E140 := rfl
abbrev pm_E141 : pm_E := (yX8_bound, prog_10_method_39_code, 2, (some .int), 8, 4, 0, 0, [(20, [false, false]), (22, [false, false])])
theorem pm_m141 : pm_mt 141 = some pm_E141 := rfl
abbrev pm_E142 : pm_E := (yX8_bits, prog_10_method_40_code, 3, (some .int), 8, 1, 0, 0, [(24, [false, true, false])])
theorem pm_m142 : pm_mt 142 = some pm_E142 := rfl
abbrev pm_E143 : pm_E := (yX8_fewest, prog_10_method_41_code, 6, (some .int), 8, 5, 0, 0, [(4, [true, true, true, false, false, false]), (36, [true, true, false, false, false, false]), (42, [true, true, true, true, false, false]), (84, [true, true, true, true, false, true]), (85, [true, true, true, true, false, true]), (94, [true, true, true, true, true, false]), (115, [true, true, true, true, false, false]), (116, [true, true, false, true, false, false]), (123, [false, false, true, false, false, false])])
theorem pm_m143 : pm_mt 143 = some pm_E143 := rfl
abbrev pm_E144 : pm_E := (yX8_spy, prog_10_method_42_code, 9, (some .int), 8, 5, 0, 0, [(21, [false, false, false, false, false, false, false, false, false]), (24, [true, true, true, true, false, false, false, false, false]), (27, [true, true, true, true, true, false, false, false, false]), (37, [true, true, true, true, true, true, false, false, false]), (87, [true, true, true, true, true, true, true, false, false]), (88, [true, true, true, true, true, true, true, false, false]), (126, [true, true, true, true, true, true, true, false, true]), (127, [true, true, true, true, true, true, true, false, true]), (135, [true, true, true, true, true, true, true, true, false]), (163, [true, true, true, true, true, true, false, false, false]), (169, [true, true, true, true, true, false, false, false, false]), (175, [false, false, false, false, false, false, false, false, false])])
theorem pm_m144 : pm_mt 144 = some pm_E144 := rfl
abbrev pm_E145 : pm_E := (yX8_measure, prog_10_method_43_code, 4, (some .int), 8, 4, 0, 0, [])
theorem pm_m145 : pm_mt 145 = some pm_E145 := rfl
abbrev pm_E146 : pm_E := (yX8_isLet, prog_10_method_44_code, 5, (some .boolean), 8, 6, 0, 0, [(2, [true, true, true, false, false]), (31, [true, true, true, false, false]), (74, [true, true, true, true, false]), (86, [true, true, true, false, false]), (92, [false, false, false, false, false])])
theorem pm_m146 : pm_mt 146 = some pm_E146 := rfl
abbrev pm_E147 : pm_E := (yX8_letsNow, prog_10_method_45_code, 3, (some .int), 8, 7, 0, 0, [(24, [true, false, true]), (25, [true, false, true]), (33, [false, true, false])])
theorem pm_m147 : pm_mt 147 = some pm_E147 := rfl
abbrev pm_E148 : pm_E := (yX8_lets, prog_10_method_46_code, 1, (some .int), 8, 8, 0, 0, [])
theorem pm_m148 : pm_mt 148 = some pm_E148 := rfl
abbrev pm_E149 : pm_E := (yX8_unlike, prog_10_method_47_code, 7, (some .int), 8, 6, 0, 0, [(5, [true, true, true, true, true, false, false]), (59, [true, true, true, true, true, false, true]), (63, [true, true, true, true, true, false, true]), (64, [true, true, true, true, true, false, true]), (72, [true, true, true, true, true, true, false]), (90, [true, true, true, true, true, false, false]), (96, [false, false, false, true, false, false, false])])
theorem pm_m149 : pm_mt 149 = some pm_E149 := rfl
abbrev pm_E150 : pm_E := (yX8_parting, prog_10_method_48_code, 7, (some .int), 8, 8, 0, 0, [(13, [true, true, false, false, false, false, false]), (26, [true, true, true, true, true, true, false]), (55, [true, true, true, false, true, true, true]), (68, [true, true, true, true, true, true, false]), (70, [true, true, true, true, false, true, false]), (78, [false, true, true, true, true, false, false]), (88, [false, false, true, true, false, false, false]), (96, [false, false, false, true, false, false, false]), (97, [false, false, false, false, false, false, false])])
theorem pm_m150 : pm_mt 150 = some pm_E150 := rfl
abbrev pm_E151 : pm_E := (yX8_testsOf, prog_10_method_49_code, 6, (some .boolean), 8, 1, 0, 0, [(8, [true, true, true, true, true, false]), (62, [true, true, true, false, true, true]), (66, [true, true, true, false, true, true]), (67, [true, true, true, false, true, true]), (74, [true, true, true, true, true, false]), (80, [false, false, false, true, false, false])])
theorem pm_m151 : pm_mt 151 = some pm_E151 := rfl
abbrev pm_E152 : pm_E := (yX8_wasTold, prog_10_method_50_code, 6, (some .boolean), 8, 1, 0, 0, [(64, [true, true, true, true, false, true]), (68, [true, true, true, true, false, true]), (69, [true, true, true, true, false, true]), (77, [false, false, false, false, true, false])])
theorem pm_m152 : pm_mt 152 = some pm_E152 := rfl
abbrev pm_E153 : pm_E := (yX8_leastGram, prog_10_method_51_code, 4, (some .int), 8, 1, 0, 0, [(46, [true, true, false, true]), (56, [true, true, false, true]), (63, [false, false, true, false])])
theorem pm_m153 : pm_mt 153 = some pm_E153 := rfl
abbrev pm_E154 : pm_E := (yX8_hasMore, prog_10_method_52_code, 7, (some .boolean), 8, 6, 0, 0, [(70, [true, true, true, true, true, false, true]), (74, [true, true, true, true, true, false, true]), (75, [true, true, true, true, true, false, true]), (83, [false, false, false, false, false, true, false])])
theorem pm_m154 : pm_mt 154 = some pm_E154 := rfl
abbrev pm_E155 : pm_E := (yX8_breaksOf, prog_10_method_53_code, 9, (some .int), 8, 7, 0, 0, [(12, [true, true, true, true, true, true, false, false, false]), (69, [true, true, true, true, true, true, true, true, false]), (102, [true, true, true, true, true, true, false, false, false]), (106, [true, true, true, true, true, true, true, true, false]), (133, [true, true, true, true, true, true, false, false, false]), (137, [true, true, true, true, true, true, false, false, false]), (138, [true, true, true, true, true, true, false, false, false]), (153, [true, true, true, false, true, true, false, false, false]), (154, [true, true, true, false, true, true, false, false, false]), (162, [false, false, false, true, false, false, false, false, false])])
theorem pm_m155 : pm_mt 155 = some pm_E155 := rfl
abbrev pm_E156 : pm_E := (yX8_breaks, prog_10_method_54_code, 3, (some .int), 8, 8, 0, 0, [(23, [false, false, false]), (25, [false, false, false])])
theorem pm_m156 : pm_mt 156 = some pm_E156 := rfl
abbrev pm_E157 : pm_E := (yX8_cold, prog_10_method_55_code, 10, (some .int), 8, 5, 0, 0, [(14, [false, false, false, false, false, false, false, false, false, false]), (17, [true, true, true, true, true, false, false, false, false, false]), (40, [false, false, false, false, false, false, false, false, false, false]), (43, [true, true, true, true, true, false, false, false, false, false]), (52, [true, true, true, true, true, true, true, true, false, false]), (62, [true, true, true, true, true, true, true, true, true, false]), (102, [true, true, true, true, true, true, true, true, true, false]), (103, [true, true, true, true, true, true, true, true, true, false]), (116, [true, true, true, true, true, true, false, true, true, true]), (117, [true, true, true, true, true, true, false, true, true, true]), (148, [true, true, true, true, true, false, true, true, true, false]), (149, [true, true, true, true, true, false, true, true, true, false]), (158, [true, true, true, true, true, true, true, true, false, false]), (164, [false, false, false, false, true, true, true, false, false, false]), (174, [false, false, false, false, false, false, true, false, false, false]), (176, [false, false, false, false, false, false, false, false, false, false])])
theorem pm_m157 : pm_mt 157 = some pm_E157 := rfl
abbrev pm_E158 : pm_E := (yX8_lasts, prog_10_method_56_code, 4, (some .int), 8, 6, 0, 0, [(14, [false, false, false, false]), (17, [true, true, true, false]), (29, [true, true, true, false]), (48, [true, false, false, false]), (59, [false, false, false, false]), (73, [false, false, false, true]), (74, [false, false, false, false])])
theorem pm_m158 : pm_mt 158 = some pm_E158 := rfl
abbrev pm_E159 : pm_E := (yX8_usedOnRoads, prog_10_method_57_code, 4, (some .int), 8, 6, 0, 0, [(39, [false, false, true, false])])
theorem pm_m159 : pm_mt 159 = some pm_E159 := rfl
abbrev pm_E160 : pm_E := (yX8_saves, prog_10_method_58_code, 3, (some .int), 8, 7, 0, 0, [(28, [false, false, false]), (31, [false, false, false])])
theorem pm_m160 : pm_mt 160 = some pm_E160 := rfl
abbrev pm_E161 : pm_E := (yX8_cars, prog_10_method_59_code, 5, (some .int), 8, 3, 0, 0, [(10, [true, true, true, true, false]), (33, [true, true, true, true, false]), (36, [true, true, true, true, false]), (42, [false, false, false, false, false]), (45, [true, true, true, true, false]), (58, [true, true, true, true, false]), (64, [true, true, true, true, false]), (100, [true, true, false, false, true]), (106, [false, false, false, false, true])])
theorem pm_m161 : pm_mt 161 = some pm_E161 := rfl
abbrev pm_E162 : pm_E := (yX8_fixOf, prog_10_method_60_code, 8, (some .int), 8, 8, 0, 0, [(19, [true, true, true, true, true, true, false, false]), (46, [true, true, true, true, true, true, true, false]), (53, [true, true, true, true, true, true, true, false]), (63, [true, true, true, true, true, true, false, false]), (64, [true, true, true, true, true, true, false, false]), (95, [true, true, true, true, true, true, false, false]), (101, [true, false, false, true, false, false, false, false]), (126, [false, false, false, true, false, false, false, false])])
theorem pm_m162 : pm_mt 162 = some pm_E162 := rfl
abbrev pm_E163 : pm_E := (yX8_fix, prog_10_method_61_code, 5, (some .int), 8, 9, 0, 0, [(14, [false, false, false, false, false]), (17, [true, true, true, true, false]), (30, [true, true, true, true, false]), (47, [true, false, false, false, false]), (51, [false, false, false, false, false])])
theorem pm_m163 : pm_mt 163 = some pm_E163 := rfl
abbrev pm_E164 : pm_E := (yX8_owed, prog_10_method_62_code, 5, (some .int), 8, 9, 0, 0, [(10, [true, true, false, false, false]), (15, [true, true, true, false, true]), (52, [false, false, true, false, false]), (66, [false, false, true, false, false]), (67, [false, false, false, false, false])])
theorem pm_m164 : pm_mt 164 = some pm_E164 := rfl
abbrev pm_E165 : pm_E := (yX8_cost, prog_10_method_63_code, 4, (some .int), 8, 3, 0, 0, [(10, [true, true, true, false]), (25, [true, true, true, false])])
theorem pm_m165 : pm_mt 165 = some pm_E165 := rfl
abbrev pm_E166 : pm_E := (yX8_looks, prog_10_method_64_code, 10, (some .int), 8, 6, 0, 0, [(24, [false, false, false, false, false, false, false, false, false, false]), (27, [true, true, true, false, false, false, false, false, false, false]), (32, [true, true, true, true, true, false, false, false, false, false]), (50, [true, true, true, true, true, true, false, false, false, false]), (113, [true, true, true, true, true, true, false, false, false, false]), (114, [true, true, true, true, true, true, false, false, false, false]), (122, [true, true, true, true, true, false, false, false, false, false]), (138, [true, false, true, true, false, false, false, false, false, false]), (149, [true, false, true, true, true, true, true, false, false, false]), (165, [true, false, true, true, true, true, true, true, true, true]), (195, [true, false, true, true, true, true, true, false, true, true]), (196, [true, false, true, true, true, true, true, false, true, true]), (222, [true, false, true, true, true, true, true, true, false, true]), (223, [true, false, true, true, true, true, true, true, false, true]), (232, [true, false, true, true, true, true, true, true, true, false]), (253, [true, false, true, true, true, true, true, false, false, false]), (259, [false, false, true, true, true, true, false, false, false, false]), (268, [false, false, true, true, false, true, false, false, false, false]), (278, [false, false, false, true, false, false, false, false, false, false]), (279, [false, false, false, false, false, false, false, false, false, false])])
theorem pm_m166 : pm_mt 166 = some pm_E166 := rfl
abbrev pm_E167 : pm_E := (yX8_months, prog_10_method_65_code, 2, (some .int), 8, 2, 0, 0, [(24, [false, false])])
theorem pm_m167 : pm_mt 167 = some pm_E167 := rfl
abbrev pm_E168 : pm_E := (yX8_ask, prog_10_method_66_code, 4, (some .int), 8, 3, 0, 0, [(14, [false, false, false, false])])
theorem pm_m168 : pm_mt 168 = some pm_E168 := rfl
abbrev pm_E169 : pm_E := (yX8_tell, prog_10_method_67_code, 2, (some .int), 8, 2, 0, 0, [])
theorem pm_m169 : pm_mt 169 = some pm_E169 := rfl
abbrev pm_E170 : pm_E := (yX8_known, prog_10_method_68_code, 7, (some .int), 8, 3, 0, 0, [(14, [false, false, false, false, false, false, false]), (17, [true, true, true, true, false, false, false]), (32, [true, true, true, true, false, false, false]), (38, [true, true, true, true, true, true, false]), (95, [true, true, true, true, true, true, false]), (96, [true, true, true, true, true, true, false]), (117, [true, true, true, true, false, true, false]), (118, [true, true, true, true, false, true, false]), (127, [false, false, false, false, true, false, false])])
theorem pm_m170 : pm_mt 170 = some pm_E170 := rfl
abbrev pm_E171 : pm_E := (yX8_madeIn, prog_10_method_69_code, 6, (some .long), 8, 6, 0, 0, [(5, [true, true, true, false, true, false]), (15, [true, true, true, false, true, true]), (74, [true, true, true, false, true, false]), (80, [false, false, true, false, false, false])])
theorem pm_m171 : pm_mt 171 = some pm_E171 := rfl
abbrev pm_E172 : pm_E := (yX8_comes, prog_10_method_70_code, 4, (some .long), 8, 7, 0, 0, [(11, [true, true, false, false])])
theorem pm_m172 : pm_mt 172 = some pm_E172 := rfl
abbrev pm_E173 : pm_E := (yX8_count, prog_10_method_71_code, 4, (some .int), 8, 1, 0, 0, [(40, [true, false, false, false]), (45, [true, false, false, false]), (50, [true, false, false, false]), (55, [true, false, false, false]), (60, [true, false, true, false]), (62, [true, false, true, true]), (85, [true, false, false, true]), (86, [true, false, false, true]), (94, [false, false, true, false]), (96, [true, false, true, false]), (98, [true, false, true, true]), (119, [false, false, true, false]), (121, [false, false, false, false])])
theorem pm_m173 : pm_mt 173 = some pm_E173 := rfl
abbrev pm_E174 : pm_E := (yJ9_abs_0f7a4, prog_11_method_59_code, 1, (some .int), 10, 1, 0, 0, [(10, [false])])
theorem pm_m174 : pm_mt 174 = some pm_E174 := rfl
abbrev pm_E175 : pm_E := (yJ9_max_7cf53, prog_11_method_65_code, 2, (some .int), 10, 1, 0, 0, [(9, [false, true]), (10, [false, false])])
theorem pm_m175 : pm_mt 175 = some pm_E175 := rfl
abbrev pm_E176 : pm_E := (yJ9_min_7cf53, prog_11_method_69_code, 2, (some .int), 10, 1, 0, 0, [(9, [false, true]), (10, [false, false])])
theorem pm_m176 : pm_mt 176 = some pm_E176 := rfl
abbrev pm_E177 : pm_E := (yJ9_min_f86c9, prog_11_method_70_code, 4, (some .long), 10, 1, 0, 0, [(10, [false, false, true, false]), (11, [false, false, false, false])])
theorem pm_m177 : pm_mt 177 = some pm_E177 := rfl
abbrev pm_E178 : pm_E := (yJ0_length_8abf5, prog_12_method_54_code, 1, (some .int), 11, 2, 0, 0, [])
theorem pm_m178 : pm_mt 178 = some pm_E178 := rfl
abbrev pm_E179 : pm_E := (yJ0_charAt_5068e, prog_12_method_56_code, 2, (some .char), 11, 4, 0, 0, [])
theorem pm_m179 : pm_mt 179 = some pm_E179 := rfl
abbrev pm_E180 : pm_E := (yJ0_coder_7d493, prog_12_method_152_code, 1, (some .byte), 11, 1, 0, 0, [(13, [false]), (14, [false])])
theorem pm_m180 : pm_mt 180 = some pm_E180 := rfl
abbrev pm_E181 : pm_E := (yJ0_isLatin1_aae02, prog_12_method_154_code, 1, (some .boolean), 11, 1, 0, 0, [(17, [false]), (18, [false])])
theorem pm_m181 : pm_mt 181 = some pm_E181 := rfl
abbrev pm_E182 : pm_E := (yJ0_checkIndex_df160, prog_12_method_155_code, 2, none, 11, 2, 0, 0, [])
theorem pm_m182 : pm_mt 182 = some pm_E182 := rfl
abbrev pm_E183 : pm_E := (yJ1_charAt_3b067, prog_13_method_2_code, 2, (some .char), 12, 3, 0, 0, [])
theorem pm_m183 : pm_mt 183 = some pm_E183 := rfl
abbrev pm_E184 : pm_E := (yJ7_fill_53178, prog_16_method_103_code, 4, none, 13, 1, 0, 0, [(20, [false, false, false, false])])
theorem pm_m184 : pm_mt 184 = some pm_E184 := rfl
abbrev pm_E185 : pm_E := (yJ3_checkIndex_8e157, prog_17_method_11_code, 3, (some .int), 14, 1, 0, 0, [(16, [true, false, false])])
theorem pm_m185 : pm_mt 185 = some pm_E185 := rfl
