set_option maxRecDepth 100000 in
theorem fl_J0_1053 : Cond.fieldLink RJ0 1053 "jdk/internal/util/Preconditions" "SIOOBE_FORMATTER" "Ljava/util/function/BiFunction;" ∈ gtbl := gin 611 (by decide +kernel) rfl
set_option maxRecDepth 100000 in
theorem fl_J0_15 : Cond.fieldLink RJ0 15 "java/lang/String" "coder" "B" ∈ gtbl := gin 2139 (by decide +kernel) rfl
set_option maxRecDepth 100000 in
theorem fl_J0_38 : Cond.fieldLink RJ0 38 "java/lang/String" "COMPACT_STRINGS" "Z" ∈ gtbl := gin 568 (by decide +kernel) rfl
set_option maxRecDepth 100000 in
theorem fl_J0_9 : Cond.fieldLink RJ0 9 "java/lang/String" "value" "[B" ∈ gtbl := gin 2140 (by decide +kernel) rfl
set_option maxRecDepth 100000 in
theorem kc_J6_265 : Cond.constant RJ6 265 (1431655765) ∈ gtbl := gin 2019 (by decide +kernel) rfl
set_option maxRecDepth 100000 in
theorem kc_J6_266 : Cond.constant RJ6 266 (858993459) ∈ gtbl := gin 2020 (by decide +kernel) rfl
set_option maxRecDepth 100000 in
theorem kc_J6_267 : Cond.constant RJ6 267 (252645135) ∈ gtbl := gin 2021 (by decide +kernel) rfl
set_option maxRecDepth 100000 in
theorem kc_X11_261 : Cond.constant RX11 261 (-1000000) ∈ gtbl := gin 1106 (by decide +kernel) rfl
set_option maxRecDepth 100000 in
theorem kc_X11_345 : Cond.constant RX11 345 (1000000) ∈ gtbl := gin 1318 (by decide +kernel) rfl
set_option maxRecDepth 100000 in
theorem kc_X11_434 : Cond.constantLong RX11 434 (6364136223846793005) ∈ gtbl := gin 1068 (by decide +kernel) rfl
set_option maxRecDepth 100000 in
theorem kc_X11_436 : Cond.constantLong RX11 436 (1442695040888963407) ∈ gtbl := gin 1069 (by decide +kernel) rfl
set_option maxRecDepth 100000 in
theorem kc_X12_138 : Cond.constantLong RX12 138 (-1000000) ∈ gtbl := gin 1789 (by decide +kernel) rfl
set_option maxRecDepth 100000 in
theorem kc_X12_140 : Cond.constantLong RX12 140 (1000000) ∈ gtbl := gin 1790 (by decide +kernel) rfl
set_option maxRecDepth 100000 in
theorem kc_X12_269 : Cond.constantLong RX12 269 (2) ∈ gtbl := gin 1664 (by decide +kernel) rfl
set_option maxRecDepth 100000 in
theorem kc_X12_303 : Cond.constantLong RX12 303 (10) ∈ gtbl := gin 1897 (by decide +kernel) rfl
set_option maxRecDepth 100000 in
theorem kc_X12_305 : Cond.constantLong RX12 305 (100) ∈ gtbl := gin 1898 (by decide +kernel) rfl
set_option maxRecDepth 100000 in
theorem kc_X12_307 : Cond.constantLong RX12 307 (100000) ∈ gtbl := gin 1899 (by decide +kernel) rfl
set_option maxRecDepth 100000 in
theorem kc_X12_309 : Cond.constantLong RX12 309 (8191) ∈ gtbl := gin 1900 (by decide +kernel) rfl
set_option maxRecDepth 100000 in
theorem kc_X12_346 : Cond.constantLong RX12 346 (3) ∈ gtbl := gin 1834 (by decide +kernel) rfl
set_option maxRecDepth 100000 in
theorem kc_X12_348 : Cond.constantLong RX12 348 (4) ∈ gtbl := gin 1843 (by decide +kernel) rfl
set_option maxRecDepth 100000 in
theorem kc_X12_350 : Cond.constantLong RX12 350 (9) ∈ gtbl := gin 1860 (by decide +kernel) rfl
set_option maxRecDepth 100000 in
theorem kc_X12_385 : Cond.constantLong RX12 385 (6364136223846793005) ∈ gtbl := gin 1954 (by decide +kernel) rfl
set_option maxRecDepth 100000 in
theorem kc_X12_387 : Cond.constantLong RX12 387 (1442695040888963407) ∈ gtbl := gin 1955 (by decide +kernel) rfl
set_option maxRecDepth 100000 in
theorem kc_X12_392 : Cond.constantLong RX12 392 (30) ∈ gtbl := gin 1945 (by decide +kernel) rfl
set_option maxRecDepth 100000 in
theorem kc_X12_400 : Cond.constant RX12 400 (-1000000) ∈ gtbl := gin 1972 (by decide +kernel) rfl
set_option maxRecDepth 100000 in
theorem kc_X12_437 : Cond.constantLong RX12 437 (99) ∈ gtbl := gin 2026 (by decide +kernel) rfl
set_option maxRecDepth 100000 in
theorem kc_X12_466 : Cond.constant RX12 466 (1000000) ∈ gtbl := gin 2079 (by decide +kernel) rfl
set_option maxRecDepth 100000 in
theorem kc_X12_467 : Cond.constantLong RX12 467 (7) ∈ gtbl := gin 2092 (by decide +kernel) rfl
set_option maxRecDepth 100000 in
theorem kc_X4_100 : Cond.constant RX4 100 (1000000) ∈ gtbl := gin 962 (by decide +kernel) rfl
set_option maxRecDepth 100000 in
theorem kc_X4_101 : Cond.constantLong RX4 101 (-1000000) ∈ gtbl := gin 963 (by decide +kernel) rfl
set_option maxRecDepth 100000 in
theorem kc_X4_103 : Cond.constant RX4 103 (-1000000) ∈ gtbl := gin 964 (by decide +kernel) rfl
set_option maxRecDepth 100000 in
theorem kc_X4_54 : Cond.constantLong RX4 54 (10) ∈ gtbl := gin 939 (by decide +kernel) rfl
set_option maxRecDepth 100000 in
theorem kc_X4_56 : Cond.constantLong RX4 56 (64) ∈ gtbl := gin 940 (by decide +kernel) rfl
set_option maxRecDepth 100000 in
theorem kc_X4_58 : Cond.constantLong RX4 58 (16384) ∈ gtbl := gin 941 (by decide +kernel) rfl
set_option maxRecDepth 100000 in
theorem kc_X4_60 : Cond.constantLong RX4 60 (-7046029254386353131) ∈ gtbl := gin 942 (by decide +kernel) rfl
set_option maxRecDepth 100000 in
theorem kc_X4_66 : Cond.constantLong RX4 66 (31) ∈ gtbl := gin 968 (by decide +kernel) rfl
set_option maxRecDepth 100000 in
theorem kc_X4_98 : Cond.constantLong RX4 98 (1000000) ∈ gtbl := gin 961 (by decide +kernel) rfl
set_option maxRecDepth 100000 in
theorem ml_J0_1059 : Cond.methodLink RJ0 1059 yJ3_checkIndex_8e157 ∈ gtbl := gin 1710 (by decide +kernel) rfl
set_option maxRecDepth 100000 in
theorem ml_J0_335 : Cond.methodLink RJ0 335 yJ0_coder_7d493 ∈ gtbl := gin 574 (by decide +kernel) rfl
set_option maxRecDepth 100000 in
theorem ml_J0_492 : Cond.methodLink RJ0 492 yJ0_isLatin1_aae02 ∈ gtbl := gin 564 (by decide +kernel) rfl
set_option maxRecDepth 100000 in
theorem ml_J0_495 : Cond.methodLink RJ0 495 yJ1_charAt_3b067 ∈ gtbl := gin 1704 (by decide +kernel) rfl
set_option maxRecDepth 100000 in
theorem ml_J0_505 : Cond.methodLink RJ0 505 yJ0_length_8abf5 ∈ gtbl := gin 570 (by decide +kernel) rfl
set_option maxRecDepth 100000 in
theorem ml_J0_633 : Cond.methodLink RJ0 633 yJ0_indexOf_7cf53 ∈ gtbl := gin 560 (by decide +kernel) rfl
set_option maxRecDepth 100000 in
theorem ml_J0_637 : Cond.methodLink RJ0 637 yJ1_indexOf_4cfef ∈ gtbl := gin 578 (by decide +kernel) rfl
set_option maxRecDepth 100000 in
theorem ml_J1_38 : Cond.methodLink RJ1 38 yJ9_min_7cf53 ∈ gtbl := gin 587 (by decide +kernel) rfl
set_option maxRecDepth 100000 in
theorem ml_J1_88 : Cond.methodLink RJ1 88 yJ1_canEncode_9a6ad ∈ gtbl := gin 581 (by decide +kernel) rfl
set_option maxRecDepth 100000 in
theorem ml_J1_9 : Cond.methodLink RJ1 9 yJ0_checkIndex_df160 ∈ gtbl := gin 1707 (by decide +kernel) rfl
set_option maxRecDepth 100000 in
theorem ml_J1_92 : Cond.methodLink RJ1 92 yJ9_max_7cf53 ∈ gtbl := gin 584 (by decide +kernel) rfl
set_option maxRecDepth 100000 in
theorem ml_J1_95 : Cond.methodLink RJ1 95 yJ1_indexOfChar_4cfef ∈ gtbl := gin 590 (by decide +kernel) rfl
set_option maxRecDepth 100000 in
theorem ml_X0_24 : Cond.methodLink RX0 24 yX1_firstVoiceOf ∈ gtbl := gin 789 (by decide +kernel) rfl
set_option maxRecDepth 100000 in
theorem ml_X0_30 : (RX0, 30, yX11_put, "MonsterCot") ∈ nsT := List.mem_of_getElem? (i := 13) (by decide +kernel)
set_option maxRecDepth 100000 in
theorem ml_X0_34 : Cond.methodLink RX0 34 yJ7_fill_53178 ∈ gtbl := gin 798 (by decide +kernel) rfl
set_option maxRecDepth 100000 in
theorem ml_X0_40 : Cond.methodLink RX0 40 yX1_calmAtFirst ∈ gtbl := gin 799 (by decide +kernel) rfl
set_option maxRecDepth 100000 in
theorem ml_X0_63 : Cond.methodLink RX0 63 yX0_forgetEvening ∈ gtbl := gin 803 (by decide +kernel) rfl
set_option maxRecDepth 100000 in
theorem ml_X0_76 : (RX0, 76, yX11_copy, "MonsterCot") ∈ nsT := List.mem_of_getElem? (i := 17) (by decide +kernel)
set_option maxRecDepth 100000 in
theorem ml_X10_31 : Cond.methodLink RX10 31 yX10_takeStep ∈ gtbl := gin 749 (by decide +kernel) rfl
set_option maxRecDepth 100000 in
theorem ml_X10_35 : Cond.methodLink RX10 35 yX7_isAtEnd ∈ gtbl := gin 763 (by decide +kernel) rfl
set_option maxRecDepth 100000 in
theorem ml_X10_42 : Cond.methodLink RX10 42 yX7_take ∈ gtbl := gin 764 (by decide +kernel) rfl
set_option maxRecDepth 100000 in
theorem ml_X10_48 : Cond.methodLink RX10 48 yX7_takeOneOf ∈ gtbl := gin 754 (by decide +kernel) rfl
set_option maxRecDepth 100000 in
theorem ml_X10_55 : (RX10, 55, yX11_at, "MonsterCot") ∈ nsT := List.mem_of_getElem? (i := 10) (by decide +kernel)
set_option maxRecDepth 100000 in
theorem ml_X10_59 : Cond.methodLink RX10 59 yX7_takeDigit ∈ gtbl := gin 758 (by decide +kernel) rfl
set_option maxRecDepth 100000 in
theorem ml_X10_63 : (RX10, 63, yX11_put, "MonsterCot") ∈ nsT := List.mem_of_getElem? (i := 11) (by decide +kernel)
set_option maxRecDepth 100000 in
theorem ml_X10_70 : Cond.methodLink RX10 70 yX10_has ∈ gtbl := gin 1098 (by decide +kernel) rfl
set_option maxRecDepth 100000 in
theorem ml_X10_73 : Cond.methodLink RX10 73 yX10_sizeOf ∈ gtbl := gin 1102 (by decide +kernel) rfl
set_option maxRecDepth 100000 in
theorem ml_X10_77 : Cond.methodLink RX10 77 yX10_hasStep ∈ gtbl := gin 1111 (by decide +kernel) rfl
set_option maxRecDepth 100000 in
theorem ml_X10_81 : Cond.methodLink RX10 81 yX10_sortOf ∈ gtbl := gin 1118 (by decide +kernel) rfl
set_option maxRecDepth 100000 in
theorem ml_X11_103 : Cond.methodLink RX11 103 yX7_cutTo ∈ gtbl := gin 506 (by decide +kernel) rfl
set_option maxRecDepth 100000 in
theorem ml_X11_107 : Cond.methodLink RX11 107 yX11_isRight ∈ gtbl := gin 514 (by decide +kernel) rfl
set_option maxRecDepth 100000 in
theorem ml_X11_113 : Cond.methodLink RX11 113 yX11_moveIn ∈ gtbl := gin 770 (by decide +kernel) rfl
set_option maxRecDepth 100000 in
theorem ml_X11_117 : Cond.methodLink RX11 117 yX4_keep ∈ gtbl := gin 812 (by decide +kernel) rfl
set_option maxRecDepth 100000 in
theorem ml_X11_121 : Cond.methodLink RX11 121 yX10_keepDraft ∈ gtbl := gin 818 (by decide +kernel) rfl
set_option maxRecDepth 100000 in
theorem ml_X11_124 : Cond.methodLink RX11 124 yX1_stands ∈ gtbl := gin 826 (by decide +kernel) rfl
set_option maxRecDepth 100000 in
theorem ml_X11_131 : Cond.methodLink RX11 131 yX1_enough ∈ gtbl := gin 831 (by decide +kernel) rfl
set_option maxRecDepth 100000 in
theorem ml_X11_134 : Cond.methodLink RX11 134 yX1_loses ∈ gtbl := gin 835 (by decide +kernel) rfl
set_option maxRecDepth 100000 in
theorem ml_X11_137 : Cond.methodLink RX11 137 yX1_hasBook ∈ gtbl := gin 843 (by decide +kernel) rfl
set_option maxRecDepth 100000 in
theorem ml_X11_140 : Cond.methodLink RX11 140 yX1_pagesOf ∈ gtbl := gin 848 (by decide +kernel) rfl
set_option maxRecDepth 100000 in
theorem ml_X11_144 : Cond.methodLink RX11 144 yX1_calmingOf ∈ gtbl := gin 852 (by decide +kernel) rfl
set_option maxRecDepth 100000 in
theorem ml_X11_147 : Cond.methodLink RX11 147 yX1_kindOf ∈ gtbl := gin 856 (by decide +kernel) rfl
set_option maxRecDepth 100000 in
theorem ml_X11_150 : Cond.methodLink RX11 150 yX0_wasRead ∈ gtbl := gin 860 (by decide +kernel) rfl
set_option maxRecDepth 100000 in
theorem ml_X11_153 : Cond.methodLink RX11 153 yX1_hasHouse ∈ gtbl := gin 1013 (by decide +kernel) rfl
set_option maxRecDepth 100000 in
theorem ml_X11_163 : Cond.methodLink RX11 163 yX1_childrenOf ∈ gtbl := gin 1319 (by decide +kernel) rfl
set_option maxRecDepth 100000 in
theorem ml_X11_173 : Cond.methodLink RX11 173 yX11_at ∈ gtbl := gin 871 (by decide +kernel) rfl
set_option maxRecDepth 100000 in
theorem ml_X11_183 : Cond.methodLink RX11 183 yX11_isKind ∈ gtbl := gin 868 (by decide +kernel) rfl
set_option maxRecDepth 100000 in
theorem ml_X11_189 : Cond.methodLink RX11 189 yX4_hold ∈ gtbl := gin 876 (by decide +kernel) rfl
set_option maxRecDepth 100000 in
theorem ml_X11_195 : Cond.methodLink RX11 195 yX9_canRead ∈ gtbl := gin 888 (by decide +kernel) rfl
set_option maxRecDepth 100000 in
theorem ml_X11_199 : Cond.methodLink RX11 199 yX5_keep ∈ gtbl := gin 908 (by decide +kernel) rfl
set_option maxRecDepth 100000 in
theorem ml_X11_202 : Cond.methodLink RX11 202 yX9_doRead ∈ gtbl := gin 918 (by decide +kernel) rfl
set_option maxRecDepth 100000 in
theorem ml_X11_206 : Cond.methodLink RX11 206 yX9_canDrink ∈ gtbl := gin 984 (by decide +kernel) rfl
set_option maxRecDepth 100000 in
theorem ml_X11_210 : Cond.methodLink RX11 210 yX9_drink ∈ gtbl := gin 989 (by decide +kernel) rfl
set_option maxRecDepth 100000 in
theorem ml_X11_213 : Cond.methodLink RX11 213 yX9_canGo ∈ gtbl := gin 997 (by decide +kernel) rfl
set_option maxRecDepth 100000 in
theorem ml_X11_217 : Cond.methodLink RX11 217 yX9_go ∈ gtbl := gin 1005 (by decide +kernel) rfl
set_option maxRecDepth 100000 in
theorem ml_X11_224 : Cond.methodLink RX11 224 yX11_put ∈ gtbl := gin 1014 (by decide +kernel) rfl
set_option maxRecDepth 100000 in
theorem ml_X11_228 : Cond.methodLink RX11 228 yX9_canPass ∈ gtbl := gin 1019 (by decide +kernel) rfl
set_option maxRecDepth 100000 in
theorem ml_X11_231 : Cond.methodLink RX11 231 yX11_passLoggedNight ∈ gtbl := gin 1023 (by decide +kernel) rfl
set_option maxRecDepth 100000 in
theorem ml_X11_241 : Cond.methodLink RX11 241 yX11_readByDraw ∈ gtbl := gin 1059 (by decide +kernel) rfl
set_option maxRecDepth 100000 in
theorem ml_X11_244 : Cond.methodLink RX11 244 yX11_draw ∈ gtbl := gin 1064 (by decide +kernel) rfl
set_option maxRecDepth 100000 in
theorem ml_X11_247 : Cond.methodLink RX11 247 yX5_takeBack ∈ gtbl := gin 1074 (by decide +kernel) rfl
set_option maxRecDepth 100000 in
theorem ml_X11_253 : Cond.methodLink RX11 253 yX5_logged ∈ gtbl := gin 1082 (by decide +kernel) rfl
set_option maxRecDepth 100000 in
theorem ml_X11_257 : Cond.methodLink RX11 257 yX10_hasStep ∈ gtbl := gin 1094 (by decide +kernel) rfl
set_option maxRecDepth 100000 in
theorem ml_X11_262 : Cond.methodLink RX11 262 yX10_stepOf ∈ gtbl := gin 1107 (by decide +kernel) rfl
set_option maxRecDepth 100000 in
theorem ml_X11_266 : Cond.methodLink RX11 266 yX10_sortOf ∈ gtbl := gin 1112 (by decide +kernel) rfl
set_option maxRecDepth 100000 in
theorem ml_X11_269 : Cond.methodLink RX11 269 yX10_hasDigit ∈ gtbl := gin 1115 (by decide +kernel) rfl
set_option maxRecDepth 100000 in
theorem ml_X11_272 : Cond.methodLink RX11 272 yX10_digitOf ∈ gtbl := gin 1119 (by decide +kernel) rfl
set_option maxRecDepth 100000 in
theorem ml_X11_275 : Cond.methodLink RX11 275 yX10_has ∈ gtbl := gin 1126 (by decide +kernel) rfl
set_option maxRecDepth 100000 in
theorem ml_X11_278 : Cond.methodLink RX11 278 yX0_copyFrom ∈ gtbl := gin 1127 (by decide +kernel) rfl
set_option maxRecDepth 100000 in
theorem ml_X11_281 : Cond.methodLink RX11 281 yX10_sizeOf ∈ gtbl := gin 1128 (by decide +kernel) rfl
set_option maxRecDepth 100000 in
theorem ml_X11_284 : Cond.methodLink RX11 284 yX9_canStep ∈ gtbl := gin 1129 (by decide +kernel) rfl
set_option maxRecDepth 100000 in
theorem ml_X11_287 : Cond.methodLink RX11 287 yX9_doStep ∈ gtbl := gin 1139 (by decide +kernel) rfl
set_option maxRecDepth 100000 in
theorem ml_X11_291 : Cond.methodLink RX11 291 yX9_hasPages ∈ gtbl := gin 1155 (by decide +kernel) rfl
set_option maxRecDepth 100000 in
theorem ml_X11_294 : Cond.methodLink RX11 294 yX9_leftOf ∈ gtbl := gin 1156 (by decide +kernel) rfl
set_option maxRecDepth 100000 in
theorem ml_X11_297 : Cond.methodLink RX11 297 yX9_calmNow ∈ gtbl := gin 1157 (by decide +kernel) rfl
set_option maxRecDepth 100000 in
theorem ml_X11_300 : Cond.methodLink RX11 300 yX6_findLeast ∈ gtbl := gin 1162 (by decide +kernel) rfl
set_option maxRecDepth 100000 in
theorem ml_X11_309 : Cond.methodLink RX11 309 yX1_books ∈ gtbl := gin 1063 (by decide +kernel) rfl
set_option maxRecDepth 100000 in
theorem ml_X11_312 : Cond.methodLink RX11 312 yX6_findRoster ∈ gtbl := gin 1199 (by decide +kernel) rfl
set_option maxRecDepth 100000 in
theorem ml_X11_316 : Cond.methodLink RX11 316 yX8_note ∈ gtbl := gin 1221 (by decide +kernel) rfl
set_option maxRecDepth 100000 in
theorem ml_X11_321 : Cond.methodLink RX11 321 yX8_liked ∈ gtbl := gin 1230 (by decide +kernel) rfl
set_option maxRecDepth 100000 in
theorem ml_X11_324 : Cond.methodLink RX11 324 yX8_bookToTry ∈ gtbl := gin 1256 (by decide +kernel) rfl
set_option maxRecDepth 100000 in
theorem ml_X11_327 : Cond.methodLink RX11 327 yX6_setsFor ∈ gtbl := gin 1273 (by decide +kernel) rfl
set_option maxRecDepth 100000 in
theorem ml_X11_330 : Cond.methodLink RX11 330 yX11_canPlay ∈ gtbl := gin 1285 (by decide +kernel) rfl
set_option maxRecDepth 100000 in
theorem ml_X11_334 : Cond.methodLink RX11 334 yX6_enoughBehind ∈ gtbl := gin 1289 (by decide +kernel) rfl
set_option maxRecDepth 100000 in
theorem ml_X11_337 : Cond.methodLink RX11 337 yX6_gain ∈ gtbl := gin 1293 (by decide +kernel) rfl
set_option maxRecDepth 100000 in
theorem ml_X11_341 : Cond.methodLink RX11 341 yX6_restsOf ∈ gtbl := gin 1300 (by decide +kernel) rfl
set_option maxRecDepth 100000 in
theorem ml_X11_346 : Cond.methodLink RX11 346 yX6_readingsOf ∈ gtbl := gin 1324 (by decide +kernel) rfl
set_option maxRecDepth 100000 in
theorem ml_X11_349 : Cond.methodLink RX11 349 yX6_nightsToQuiet ∈ gtbl := gin 1333 (by decide +kernel) rfl
set_option maxRecDepth 100000 in
theorem ml_X11_352 : Cond.methodLink RX11 352 yX6_fairest ∈ gtbl := gin 1341 (by decide +kernel) rfl
set_option maxRecDepth 100000 in
theorem ml_X11_355 : Cond.methodLink RX11 355 yX6_strongest ∈ gtbl := gin 1345 (by decide +kernel) rfl
set_option maxRecDepth 100000 in
theorem ml_X11_358 : Cond.methodLink RX11 358 yX6_loudest ∈ gtbl := gin 1350 (by decide +kernel) rfl
set_option maxRecDepth 100000 in
theorem ml_X11_361 : Cond.methodLink RX11 361 yX6_fullest ∈ gtbl := gin 1354 (by decide +kernel) rfl
set_option maxRecDepth 100000 in
theorem ml_X11_364 : Cond.methodLink RX11 364 yX6_longest ∈ gtbl := gin 1358 (by decide +kernel) rfl
set_option maxRecDepth 100000 in
theorem ml_X11_367 : Cond.methodLink RX11 367 yX6_freshKinds ∈ gtbl := gin 1362 (by decide +kernel) rfl
set_option maxRecDepth 100000 in
theorem ml_X11_370 : Cond.methodLink RX11 370 yX6_openBooks ∈ gtbl := gin 1366 (by decide +kernel) rfl
set_option maxRecDepth 100000 in
theorem ml_X11_373 : Cond.methodLink RX11 373 yX5_keepImage ∈ gtbl := gin 1383 (by decide +kernel) rfl
set_option maxRecDepth 100000 in
theorem ml_X11_376 : Cond.methodLink RX11 376 yX5_bringBack ∈ gtbl := gin 1392 (by decide +kernel) rfl
set_option maxRecDepth 100000 in
theorem ml_X11_379 : Cond.methodLink RX11 379 yX1_houses ∈ gtbl := gin 811 (by decide +kernel) rfl
set_option maxRecDepth 100000 in
theorem ml_X11_387 : Cond.methodLink RX11 387 yX11_countOfNow ∈ gtbl := gin 1400 (by decide +kernel) rfl
set_option maxRecDepth 100000 in
theorem ml_X11_403 : Cond.methodLink RX11 403 yX5_lengthOf ∈ gtbl := gin 1404 (by decide +kernel) rfl
set_option maxRecDepth 100000 in
theorem ml_X11_407 : Cond.methodLink RX11 407 yX2_isRight ∈ gtbl := gin 518 (by decide +kernel) rfl
set_option maxRecDepth 100000 in
theorem ml_X11_409 : Cond.methodLink RX11 409 yX3_isRight ∈ gtbl := gin 689 (by decide +kernel) rfl
set_option maxRecDepth 100000 in
theorem ml_X11_410 : Cond.methodLink RX11 410 yX10_isRight ∈ gtbl := gin 745 (by decide +kernel) rfl
set_option maxRecDepth 100000 in
theorem ml_X11_414 : Cond.methodLink RX11 414 yX1_copyFrom ∈ gtbl := gin 774 (by decide +kernel) rfl
set_option maxRecDepth 100000 in
theorem ml_X11_417 : Cond.methodLink RX11 417 yX0_begin ∈ gtbl := gin 785 (by decide +kernel) rfl
set_option maxRecDepth 100000 in
theorem ml_X11_420 : Cond.methodLink RX11 420 yX5_forget ∈ gtbl := gin 807 (by decide +kernel) rfl
set_option maxRecDepth 100000 in
theorem ml_X11_423 : Cond.methodLink RX11 423 yX9_pass ∈ gtbl := gin 1027 (by decide +kernel) rfl
set_option maxRecDepth 100000 in
theorem ml_X11_426 : Cond.methodLink RX11 426 yX5_note ∈ gtbl := gin 1047 (by decide +kernel) rfl
set_option maxRecDepth 100000 in
theorem ml_X11_429 : Cond.methodLink RX11 429 yJ9_min_7cf53 ∈ gtbl := gin 781 (by decide +kernel) rfl
set_option maxRecDepth 100000 in
theorem ml_X11_438 : Cond.methodLink RX11 438 yJ9_max_7cf53 ∈ gtbl := gin 1044 (by decide +kernel) rfl
set_option maxRecDepth 100000 in
theorem ml_X11_441 : Cond.methodLink RX11 441 arraycopyName ∈ gtbl := gin 782 (by decide +kernel) rfl
set_option maxRecDepth 100000 in
theorem ml_X11_95 : Cond.methodLink RX11 95 yX7_takesIn ∈ gtbl := gin 491 (by decide +kernel) rfl
set_option maxRecDepth 100000 in
theorem ml_X12_102 : Cond.methodLink RX12 102 yJ0_charAt_5068e ∈ gtbl := gin 1700 (by decide +kernel) rfl
set_option maxRecDepth 100000 in
theorem ml_X12_108 : Cond.methodLink RX12 108 yX12_bytesIn ∈ gtbl := gin 1649 (by decide +kernel) rfl
set_option maxRecDepth 100000 in
theorem ml_X12_112 : Cond.methodLink RX12 112 yX12_put ∈ gtbl := gin 1652 (by decide +kernel) rfl
set_option maxRecDepth 100000 in
theorem ml_X12_131 : Cond.methodLink RX12 131 yX12_fails ∈ gtbl := gin 1687 (by decide +kernel) rfl
set_option maxRecDepth 100000 in
theorem ml_X12_135 : Cond.methodLink RX12 135 yX12_look ∈ gtbl := gin 1683 (by decide +kernel) rfl
set_option maxRecDepth 100000 in
theorem ml_X12_142 : Cond.methodLink RX12 142 yJ9_min_f86c9 ∈ gtbl := gin 1791 (by decide +kernel) rfl
set_option maxRecDepth 100000 in
theorem ml_X12_148 : Cond.methodLink RX12 148 yJ9_max_f86c9 ∈ gtbl := gin 1794 (by decide +kernel) rfl
set_option maxRecDepth 100000 in
theorem ml_X12_151 : Cond.methodLink RX12 151 yX12_isAmong ∈ gtbl := gin 1751 (by decide +kernel) rfl
set_option maxRecDepth 100000 in
theorem ml_X12_155 : Cond.methodLink RX12 155 yX12_goesIn ∈ gtbl := gin 1782 (by decide +kernel) rfl
set_option maxRecDepth 100000 in
theorem ml_X12_158 : Cond.methodLink RX12 158 yX12_sum ∈ gtbl := gin 1770 (by decide +kernel) rfl
set_option maxRecDepth 100000 in
theorem ml_X12_161 : Cond.methodLink RX12 161 yX12_takes ∈ gtbl := gin 1754 (by decide +kernel) rfl
set_option maxRecDepth 100000 in
theorem ml_X12_165 : Cond.methodLink RX12 165 yX12_isDigit ∈ gtbl := gin 1733 (by decide +kernel) rfl
set_option maxRecDepth 100000 in
theorem ml_X12_168 : Cond.methodLink RX12 168 yX12_atom ∈ gtbl := gin 1778 (by decide +kernel) rfl
set_option maxRecDepth 100000 in
theorem ml_X12_171 : Cond.methodLink RX12 171 yX12_within ∈ gtbl := gin 1786 (by decide +kernel) rfl
set_option maxRecDepth 100000 in
theorem ml_X12_175 : Cond.methodLink RX12 175 yX12_term ∈ gtbl := gin 1774 (by decide +kernel) rfl
set_option maxRecDepth 100000 in
theorem ml_X12_178 : Cond.methodLink RX12 178 yX12_isSign ∈ gtbl := gin 1797 (by decide +kernel) rfl
set_option maxRecDepth 100000 in
theorem ml_X12_181 : Cond.methodLink RX12 181 yX12_unit ∈ gtbl := gin 1800 (by decide +kernel) rfl
set_option maxRecDepth 100000 in
theorem ml_X12_184 : Cond.methodLink RX12 184 yX12_condition ∈ gtbl := gin 1758 (by decide +kernel) rfl
set_option maxRecDepth 100000 in
theorem ml_X12_188 : Cond.methodLink RX12 188 yX12_compares ∈ gtbl := gin 1766 (by decide +kernel) rfl
set_option maxRecDepth 100000 in
theorem ml_X12_191 : Cond.methodLink RX12 191 yX12_part ∈ gtbl := gin 1762 (by decide +kernel) rfl
set_option maxRecDepth 100000 in
theorem ml_X12_204 : Cond.methodLink RX12 204 yX12_starts ∈ gtbl := gin 1672 (by decide +kernel) rfl
set_option maxRecDepth 100000 in
theorem ml_X12_208 : Cond.methodLink RX12 208 yX12_clause ∈ gtbl := gin 1747 (by decide +kernel) rfl
set_option maxRecDepth 100000 in
theorem ml_X12_211 : Cond.methodLink RX12 211 yX12_here ∈ gtbl := gin 1737 (by decide +kernel) rfl
set_option maxRecDepth 100000 in
theorem ml_X12_214 : Cond.methodLink RX12 214 yX12_isIn ∈ gtbl := gin 1665 (by decide +kernel) rfl
set_option maxRecDepth 100000 in
theorem ml_X12_218 : Cond.methodLink RX12 218 yX12_usual ∈ gtbl := gin 1676 (by decide +kernel) rfl
set_option maxRecDepth 100000 in
theorem ml_X12_222 : Cond.methodLink RX12 222 yX12_spotOf ∈ gtbl := gin 1697 (by decide +kernel) rfl
set_option maxRecDepth 100000 in
theorem ml_X12_226 : Cond.methodLink RX12 226 yX12_has ∈ gtbl := gin 1720 (by decide +kernel) rfl
set_option maxRecDepth 100000 in
theorem ml_X12_230 : Cond.methodLink RX12 230 yX12_leastOf ∈ gtbl := gin 1723 (by decide +kernel) rfl
set_option maxRecDepth 100000 in
theorem ml_X12_233 : Cond.methodLink RX12 233 yX12_mostOf ∈ gtbl := gin 1726 (by decide +kernel) rfl
set_option maxRecDepth 100000 in
theorem ml_X12_236 : Cond.methodLink RX12 236 yX12_number ∈ gtbl := gin 1729 (by decide +kernel) rfl
set_option maxRecDepth 100000 in
theorem ml_X12_250 : Cond.methodLink RX12 250 yX12_readItems ∈ gtbl := gin 1692 (by decide +kernel) rfl
set_option maxRecDepth 100000 in
theorem ml_X12_258 : Cond.methodLink RX12 258 yX12_readClause ∈ gtbl := gin 1679 (by decide +kernel) rfl
set_option maxRecDepth 100000 in
theorem ml_X12_263 : Cond.methodLink RX12 263 yX12_digit ∈ gtbl := gin 1813 (by decide +kernel) rfl
set_option maxRecDepth 100000 in
theorem ml_X12_266 : Cond.methodLink RX12 266 yX12_readStep ∈ gtbl := gin 1808 (by decide +kernel) rfl
set_option maxRecDepth 100000 in
theorem ml_X12_271 : Cond.methodLink RX12 271 yX12_readLanding ∈ gtbl := gin 1668 (by decide +kernel) rfl
set_option maxRecDepth 100000 in
theorem ml_X12_274 : Cond.methodLink RX12 274 yX12_goThrough ∈ gtbl := gin 1743 (by decide +kernel) rfl
set_option maxRecDepth 100000 in
theorem ml_X12_277 : Cond.methodLink RX12 277 yX12_readWeek ∈ gtbl := gin 1804 (by decide +kernel) rfl
set_option maxRecDepth 100000 in
theorem ml_X12_286 : Cond.methodLink RX12 286 yX12_fault ∈ gtbl := gin 1821 (by decide +kernel) rfl
set_option maxRecDepth 100000 in
theorem ml_X12_311 : Cond.methodLink RX12 311 yX12_pageWorth ∈ gtbl := gin 1893 (by decide +kernel) rfl
set_option maxRecDepth 100000 in
theorem ml_X12_315 : Cond.methodLink RX12 315 yJ9_min_7cf53 ∈ gtbl := gin 1901 (by decide +kernel) rfl
set_option maxRecDepth 100000 in
theorem ml_X12_317 : Cond.methodLink RX12 317 yJ9_max_7cf53 ∈ gtbl := gin 1902 (by decide +kernel) rfl
set_option maxRecDepth 100000 in
theorem ml_X12_319 : Cond.methodLink RX12 319 yX12_isBook ∈ gtbl := gin 1830 (by decide +kernel) rfl
set_option maxRecDepth 100000 in
theorem ml_X12_322 : Cond.methodLink RX12 322 yX12_pagesOf ∈ gtbl := gin 1873 (by decide +kernel) rfl
set_option maxRecDepth 100000 in
theorem ml_X12_325 : Cond.methodLink RX12 325 yX12_strength ∈ gtbl := gin 1844 (by decide +kernel) rfl
set_option maxRecDepth 100000 in
theorem ml_X12_328 : Cond.methodLink RX12 328 yX12_kindOf ∈ gtbl := gin 1885 (by decide +kernel) rfl
set_option maxRecDepth 100000 in
theorem ml_X12_331 : Cond.methodLink RX12 331 yX12_page ∈ gtbl := gin 1889 (by decide +kernel) rfl
set_option maxRecDepth 100000 in
theorem ml_X12_334 : Cond.methodLink RX12 334 yX12_held ∈ gtbl := gin 1903 (by decide +kernel) rfl
set_option maxRecDepth 100000 in
theorem ml_X12_337 : Cond.methodLink RX12 337 yX12_isHouse ∈ gtbl := gin 1839 (by decide +kernel) rfl
set_option maxRecDepth 100000 in
theorem ml_X12_340 : Cond.methodLink RX12 340 yX12_isEnough ∈ gtbl := gin 1933 (by decide +kernel) rfl
set_option maxRecDepth 100000 in
theorem ml_X12_343 : Cond.methodLink RX12 343 yX12_behind ∈ gtbl := gin 1937 (by decide +kernel) rfl
set_option maxRecDepth 100000 in
theorem ml_X12_355 : Cond.methodLink RX12 355 yX12_canRead ∈ gtbl := gin 1869 (by decide +kernel) rfl
set_option maxRecDepth 100000 in
theorem ml_X12_359 : Cond.methodLink RX12 359 yX12_mayRead ∈ gtbl := gin 1865 (by decide +kernel) rfl
set_option maxRecDepth 100000 in
theorem ml_X12_362 : Cond.methodLink RX12 362 yX12_remember ∈ gtbl := gin 1877 (by decide +kernel) rfl
set_option maxRecDepth 100000 in
theorem ml_X12_365 : Cond.methodLink RX12 365 yX12_reads ∈ gtbl := gin 1881 (by decide +kernel) rfl
set_option maxRecDepth 100000 in
theorem ml_X12_369 : Cond.methodLink RX12 369 yX12_drinks ∈ gtbl := gin 1910 (by decide +kernel) rfl
set_option maxRecDepth 100000 in
theorem ml_X12_373 : Cond.methodLink RX12 373 yX12_canGo ∈ gtbl := gin 1917 (by decide +kernel) rfl
set_option maxRecDepth 100000 in
theorem ml_X12_377 : Cond.methodLink RX12 377 yX12_goNight ∈ gtbl := gin 1929 (by decide +kernel) rfl
set_option maxRecDepth 100000 in
theorem ml_X12_389 : Cond.methodLink RX12 389 yX12_draw ∈ gtbl := gin 1950 (by decide +kernel) rfl
set_option maxRecDepth 100000 in
theorem ml_X12_394 : Cond.methodLink RX12 394 yX12_drawsReading ∈ gtbl := gin 1946 (by decide +kernel) rfl
set_option maxRecDepth 100000 in
theorem ml_X12_397 : Cond.methodLink RX12 397 yX12_isWeek ∈ gtbl := gin 1968 (by decide +kernel) rfl
set_option maxRecDepth 100000 in
theorem ml_X12_401 : Cond.methodLink RX12 401 yX12_copy ∈ gtbl := gin 1977 (by decide +kernel) rfl
set_option maxRecDepth 100000 in
theorem ml_X12_405 : Cond.methodLink RX12 405 yX12_canStep ∈ gtbl := gin 1980 (by decide +kernel) rfl
set_option maxRecDepth 100000 in
theorem ml_X12_408 : Cond.methodLink RX12 408 yX12_steps ∈ gtbl := gin 1984 (by decide +kernel) rfl
set_option maxRecDepth 100000 in
theorem ml_X12_418 : Cond.methodLink RX12 418 yX12_goLeast ∈ gtbl := gin 2000 (by decide +kernel) rfl
set_option maxRecDepth 100000 in
theorem ml_X12_428 : Cond.methodLink RX12 428 yJ6_bitCount_0f7a4 ∈ gtbl := gin 2016 (by decide +kernel) rfl
set_option maxRecDepth 100000 in
theorem ml_X12_433 : Cond.methodLink RX12 433 yX12_goRoster ∈ gtbl := gin 2012 (by decide +kernel) rfl
set_option maxRecDepth 100000 in
theorem ml_X12_439 : Cond.methodLink RX12 439 yX12_calmIf ∈ gtbl := gin 2038 (by decide +kernel) rfl
set_option maxRecDepth 100000 in
theorem ml_X12_443 : Cond.methodLink RX12 443 yX12_isCode ∈ gtbl := gin 2031 (by decide +kernel) rfl
set_option maxRecDepth 100000 in
theorem ml_X12_446 : Cond.methodLink RX12 446 yX12_isLiked ∈ gtbl := gin 2034 (by decide +kernel) rfl
set_option maxRecDepth 100000 in
theorem ml_X12_449 : Cond.methodLink RX12 449 yJ9_abs_0f7a4 ∈ gtbl := gin 2046 (by decide +kernel) rfl
set_option maxRecDepth 100000 in
theorem ml_X12_452 : Cond.methodLink RX12 452 yX12_isReadTo ∈ gtbl := gin 2051 (by decide +kernel) rfl
set_option maxRecDepth 100000 in
theorem ml_X12_455 : Cond.methodLink RX12 455 yX12_calmBy ∈ gtbl := gin 2067 (by decide +kernel) rfl
set_option maxRecDepth 100000 in
theorem ml_X12_459 : Cond.methodLink RX12 459 yX12_isGame ∈ gtbl := gin 2059 (by decide +kernel) rfl
set_option maxRecDepth 100000 in
theorem ml_X12_463 : Cond.methodLink RX12 463 yX12_gameOf ∈ gtbl := gin 2063 (by decide +kernel) rfl
set_option maxRecDepth 100000 in
theorem ml_X12_469 : Cond.methodLink RX12 469 yX12_longest ∈ gtbl := gin 2093 (by decide +kernel) rfl
set_option maxRecDepth 100000 in
theorem ml_X12_472 : Cond.methodLink RX12 472 yX12_valueOf ∈ gtbl := gin 2097 (by decide +kernel) rfl
set_option maxRecDepth 100000 in
theorem ml_X12_96 : Cond.methodLink RX12 96 yJ0_length_8abf5 ∈ gtbl := gin 1696 (by decide +kernel) rfl
set_option maxRecDepth 100000 in
theorem ml_X1_18 : Cond.methodLink RX1 18 yJ7_fill_53178 ∈ gtbl := gin 526 (by decide +kernel) rfl
set_option maxRecDepth 100000 in
theorem ml_X1_24 : Cond.methodLink RX1 24 yX1_fillUsual ∈ gtbl := gin 529 (by decide +kernel) rfl
set_option maxRecDepth 100000 in
theorem ml_X1_31 : (RX1, 31, yX11_at, "MonsterCot") ∈ nsT := List.mem_of_getElem? (i := 6) (by decide +kernel)
set_option maxRecDepth 100000 in
theorem ml_X1_35 : Cond.methodLink RX1 35 yX1_tell ∈ gtbl := gin 538 (by decide +kernel) rfl
set_option maxRecDepth 100000 in
theorem ml_X1_42 : (RX1, 42, yX11_put, "MonsterCot") ∈ nsT := List.mem_of_getElem? (i := 7) (by decide +kernel)
set_option maxRecDepth 100000 in
theorem ml_X1_49 : (RX1, 49, yX11_copy, "MonsterCot") ∈ nsT := List.mem_of_getElem? (i := 12) (by decide +kernel)
set_option maxRecDepth 100000 in
theorem ml_X1_53 : Cond.methodLink RX1 53 yX1_houses ∈ gtbl := gin 830 (by decide +kernel) rfl
set_option maxRecDepth 100000 in
theorem ml_X1_57 : Cond.methodLink RX1 57 yX1_books ∈ gtbl := gin 847 (by decide +kernel) rfl
set_option maxRecDepth 100000 in
theorem ml_X1_60 : Cond.methodLink RX1 60 yX1_told ∈ gtbl := gin 793 (by decide +kernel) rfl
set_option maxRecDepth 100000 in
theorem ml_X2_28 : Cond.methodLink RX2 28 yX1_clear ∈ gtbl := gin 522 (by decide +kernel) rfl
set_option maxRecDepth 100000 in
theorem ml_X2_31 : Cond.methodLink RX2 31 yX2_takeClause ∈ gtbl := gin 547 (by decide +kernel) rfl
set_option maxRecDepth 100000 in
theorem ml_X2_35 : Cond.methodLink RX2 35 yX7_isAtEnd ∈ gtbl := gin 673 (by decide +kernel) rfl
set_option maxRecDepth 100000 in
theorem ml_X2_38 : Cond.methodLink RX2 38 yX1_books ∈ gtbl := gin 677 (by decide +kernel) rfl
set_option maxRecDepth 100000 in
theorem ml_X2_42 : Cond.methodLink RX2 42 yX1_houses ∈ gtbl := gin 681 (by decide +kernel) rfl
set_option maxRecDepth 100000 in
theorem ml_X2_45 : Cond.methodLink RX2 45 yX7_take ∈ gtbl := gin 685 (by decide +kernel) rfl
set_option maxRecDepth 100000 in
theorem ml_X2_51 : Cond.methodLink RX2 51 yX7_sign ∈ gtbl := gin 552 (by decide +kernel) rfl
set_option maxRecDepth 100000 in
theorem ml_X2_55 : Cond.methodLink RX2 55 yJ0_indexOf_0f7a4 ∈ gtbl := gin 556 (by decide +kernel) rfl
set_option maxRecDepth 100000 in
theorem ml_X2_61 : Cond.methodLink RX2 61 yX1_open ∈ gtbl := gin 642 (by decide +kernel) rfl
set_option maxRecDepth 100000 in
theorem ml_X2_70 : Cond.methodLink RX2 70 yX2_takeItem ∈ gtbl := gin 651 (by decide +kernel) rfl
set_option maxRecDepth 100000 in
theorem ml_X2_74 : Cond.methodLink RX2 74 yX7_takeNumber ∈ gtbl := gin 655 (by decide +kernel) rfl
set_option maxRecDepth 100000 in
theorem ml_X2_81 : (RX2, 81, yX11_at, "MonsterCot") ∈ nsT := List.mem_of_getElem? (i := 8) (by decide +kernel)
set_option maxRecDepth 100000 in
theorem ml_X2_88 : Cond.methodLink RX2 88 yX1_tell ∈ gtbl := gin 672 (by decide +kernel) rfl
set_option maxRecDepth 100000 in
theorem ml_X3_30 : Cond.methodLink RX3 30 yX3_takeClause ∈ gtbl := gin 693 (by decide +kernel) rfl
set_option maxRecDepth 100000 in
theorem ml_X3_34 : Cond.methodLink RX3 34 yX7_isAtEnd ∈ gtbl := gin 744 (by decide +kernel) rfl
set_option maxRecDepth 100000 in
theorem ml_X3_37 : Cond.methodLink RX3 37 yX7_take ∈ gtbl := gin 697 (by decide +kernel) rfl
set_option maxRecDepth 100000 in
theorem ml_X3_43 : Cond.methodLink RX3 43 yX7_sign ∈ gtbl := gin 699 (by decide +kernel) rfl
set_option maxRecDepth 100000 in
theorem ml_X3_47 : Cond.methodLink RX3 47 yJ0_indexOf_0f7a4 ∈ gtbl := gin 700 (by decide +kernel) rfl
set_option maxRecDepth 100000 in
theorem ml_X3_53 : Cond.methodLink RX3 53 yX3_takeSum ∈ gtbl := gin 701 (by decide +kernel) rfl
set_option maxRecDepth 100000 in
theorem ml_X3_59 : Cond.methodLink RX3 59 yX3_order ∈ gtbl := gin 719 (by decide +kernel) rfl
set_option maxRecDepth 100000 in
theorem ml_X3_63 : Cond.methodLink RX3 63 yX3_takeCondition ∈ gtbl := gin 728 (by decide +kernel) rfl
set_option maxRecDepth 100000 in
theorem ml_X3_67 : (RX3, 67, yX11_put, "MonsterCot") ∈ nsT := List.mem_of_getElem? (i := 9) (by decide +kernel)
set_option maxRecDepth 100000 in
theorem ml_X3_71 : Cond.methodLink RX3 71 yX3_takeTruth ∈ gtbl := gin 732 (by decide +kernel) rfl
set_option maxRecDepth 100000 in
theorem ml_X3_74 : Cond.methodLink RX3 74 yX3_takeUnit ∈ gtbl := gin 736 (by decide +kernel) rfl
set_option maxRecDepth 100000 in
theorem ml_X3_77 : Cond.methodLink RX3 77 yX3_takeInnerUnit ∈ gtbl := gin 740 (by decide +kernel) rfl
set_option maxRecDepth 100000 in
theorem ml_X3_81 : Cond.methodLink RX3 81 yX7_takeOneOf ∈ gtbl := gin 714 (by decide +kernel) rfl
set_option maxRecDepth 100000 in
theorem ml_X3_85 : Cond.methodLink RX3 85 yX3_takeTerm ∈ gtbl := gin 705 (by decide +kernel) rfl
set_option maxRecDepth 100000 in
theorem ml_X3_90 : Cond.methodLink RX3 90 yX3_takeAtom ∈ gtbl := gin 709 (by decide +kernel) rfl
set_option maxRecDepth 100000 in
theorem ml_X3_97 : Cond.methodLink RX3 97 yX7_takeNumber ∈ gtbl := gin 724 (by decide +kernel) rfl
set_option maxRecDepth 100000 in
theorem ml_X4_41 : (RX4, 41, yX11_copy, "MonsterCot") ∈ nsT := List.mem_of_getElem? (i := 14) (by decide +kernel)
set_option maxRecDepth 100000 in
theorem ml_X4_46 : (RX4, 46, yX11_put, "MonsterCot") ∈ nsT := List.mem_of_getElem? (i := 15) (by decide +kernel)
set_option maxRecDepth 100000 in
theorem ml_X4_50 : (RX4, 50, yX11_within, "MonsterCot") ∈ nsT := List.mem_of_getElem? (i := 18) (by decide +kernel)
set_option maxRecDepth 100000 in
theorem ml_X4_62 : Cond.methodLink RX4 62 yX4_worthByLaw ∈ gtbl := gin 943 (by decide +kernel) rfl
set_option maxRecDepth 100000 in
theorem ml_X4_68 : (RX4, 68, yX11_at, "MonsterCot") ∈ nsT := List.mem_of_getElem? (i := 19) (by decide +kernel)
set_option maxRecDepth 100000 in
theorem ml_X4_72 : Cond.methodLink RX4 72 yJ9_min_7cf53 ∈ gtbl := gin 948 (by decide +kernel) rfl
set_option maxRecDepth 100000 in
theorem ml_X4_81 : Cond.methodLink RX4 81 yX4_pop ∈ gtbl := gin 949 (by decide +kernel) rfl
set_option maxRecDepth 100000 in
theorem ml_X4_84 : Cond.methodLink RX4 84 yJ9_max_7cf53 ∈ gtbl := gin 953 (by decide +kernel) rfl
set_option maxRecDepth 100000 in
theorem ml_X4_87 : Cond.methodLink RX4 87 yX4_push ∈ gtbl := gin 954 (by decide +kernel) rfl
set_option maxRecDepth 100000 in
theorem ml_X4_91 : Cond.methodLink RX4 91 yX4_reckon ∈ gtbl := gin 958 (by decide +kernel) rfl
set_option maxRecDepth 100000 in
theorem ml_X4_94 : Cond.methodLink RX4 94 yX4_compare ∈ gtbl := gin 965 (by decide +kernel) rfl
set_option maxRecDepth 100000 in
theorem ml_X5_40 : Cond.methodLink RX5 40 yX0_copyFrom ∈ gtbl := gin 912 (by decide +kernel) rfl
set_option maxRecDepth 100000 in
theorem ml_X5_44 : Cond.methodLink RX5 44 yJ9_min_7cf53 ∈ gtbl := gin 917 (by decide +kernel) rfl
set_option maxRecDepth 100000 in
theorem ml_X5_53 : Cond.methodLink RX5 53 yJ9_floorMod_7cf53 ∈ gtbl := gin 1051 (by decide +kernel) rfl
set_option maxRecDepth 100000 in
theorem ml_X5_56 : (RX5, 56, yX11_put, "MonsterCot") ∈ nsT := List.mem_of_getElem? (i := 23) (by decide +kernel)
set_option maxRecDepth 100000 in
theorem ml_X5_60 : Cond.methodLink RX5 60 yX5_lengthOf ∈ gtbl := gin 1086 (by decide +kernel) rfl
set_option maxRecDepth 100000 in
theorem ml_X5_64 : (RX5, 64, yX11_at, "MonsterCot") ∈ nsT := List.mem_of_getElem? (i := 24) (by decide +kernel)
set_option maxRecDepth 100000 in
theorem ml_X5_68 : (RX5, 68, yX11_copy, "MonsterCot") ∈ nsT := List.mem_of_getElem? (i := 32) (by decide +kernel)
set_option maxRecDepth 100000 in
theorem ml_X6_104 : Cond.methodLink RX6 104 yX1_enough ∈ gtbl := gin 1182 (by decide +kernel) rfl
set_option maxRecDepth 100000 in
theorem ml_X6_110 : Cond.methodLink RX6 110 yX4_worthOf ∈ gtbl := gin 1183 (by decide +kernel) rfl
set_option maxRecDepth 100000 in
theorem ml_X6_116 : (RX6, 116, yX11_heldCalm, "MonsterCot") ∈ nsT := List.mem_of_getElem? (i := 27) (by decide +kernel)
set_option maxRecDepth 100000 in
theorem ml_X6_119 : Cond.methodLink RX6 119 yX6_offerRow ∈ gtbl := gin 1185 (by decide +kernel) rfl
set_option maxRecDepth 100000 in
theorem ml_X6_123 : Cond.methodLink RX6 123 yX9_moreBored ∈ gtbl := gin 1189 (by decide +kernel) rfl
set_option maxRecDepth 100000 in
theorem ml_X6_126 : (RX6, 126, yX11_put, "MonsterCot") ∈ nsT := List.mem_of_getElem? (i := 28) (by decide +kernel)
set_option maxRecDepth 100000 in
theorem ml_X6_133 : Cond.methodLink RX6 133 yX6_growRoster ∈ gtbl := gin 1203 (by decide +kernel) rfl
set_option maxRecDepth 100000 in
theorem ml_X6_136 : Cond.methodLink RX6 136 yX1_houses ∈ gtbl := gin 1207 (by decide +kernel) rfl
set_option maxRecDepth 100000 in
theorem ml_X6_139 : Cond.methodLink RX6 139 yX9_restedFrom ∈ gtbl := gin 1208 (by decide +kernel) rfl
set_option maxRecDepth 100000 in
theorem ml_X6_142 : Cond.methodLink RX6 142 yX0_wasRead ∈ gtbl := gin 1212 (by decide +kernel) rfl
set_option maxRecDepth 100000 in
theorem ml_X6_146 : Cond.methodLink RX6 146 yX9_calmBehind ∈ gtbl := gin 1213 (by decide +kernel) rfl
set_option maxRecDepth 100000 in
theorem ml_X6_150 : Cond.methodLink RX6 150 yJ9_max_7cf53 ∈ gtbl := gin 1214 (by decide +kernel) rfl
set_option maxRecDepth 100000 in
theorem ml_X6_153 : Cond.methodLink RX6 153 yX1_childrenOf ∈ gtbl := gin 1215 (by decide +kernel) rfl
set_option maxRecDepth 100000 in
theorem ml_X6_156 : Cond.methodLink RX6 156 yX9_calmBehindNight ∈ gtbl := gin 1216 (by decide +kernel) rfl
set_option maxRecDepth 100000 in
theorem ml_X6_159 : Cond.methodLink RX6 159 yX6_calmBehindSet ∈ gtbl := gin 1277 (by decide +kernel) rfl
set_option maxRecDepth 100000 in
theorem ml_X6_162 : Cond.methodLink RX6 162 yX6_enoughBehind ∈ gtbl := gin 1304 (by decide +kernel) rfl
set_option maxRecDepth 100000 in
theorem ml_X6_166 : Cond.methodLink RX6 166 yX6_isRest ∈ gtbl := gin 1305 (by decide +kernel) rfl
set_option maxRecDepth 100000 in
theorem ml_X6_170 : Cond.methodLink RX6 170 yX6_isEnough ∈ gtbl := gin 1309 (by decide +kernel) rfl
set_option maxRecDepth 100000 in
theorem ml_X6_174 : Cond.methodLink RX6 174 yX6_gain ∈ gtbl := gin 1313 (by decide +kernel) rfl
set_option maxRecDepth 100000 in
theorem ml_X6_178 : Cond.methodLink RX6 178 yX9_worthOf ∈ gtbl := gin 1328 (by decide +kernel) rfl
set_option maxRecDepth 100000 in
theorem ml_X6_182 : Cond.methodLink RX6 182 yX9_leftOf ∈ gtbl := gin 1349 (by decide +kernel) rfl
set_option maxRecDepth 100000 in
theorem ml_X6_186 : Cond.methodLink RX6 186 yX9_canRead ∈ gtbl := gin 1370 (by decide +kernel) rfl
set_option maxRecDepth 100000 in
theorem ml_X6_48 : (RX6, 48, yX11_copy, "MonsterCot") ∈ nsT := List.mem_of_getElem? (i := 25) (by decide +kernel)
set_option maxRecDepth 100000 in
theorem ml_X6_55 : Cond.methodLink RX6 55 yX6_growRow ∈ gtbl := gin 1167 (by decide +kernel) rfl
set_option maxRecDepth 100000 in
theorem ml_X6_59 : Cond.methodLink RX6 59 yX1_books ∈ gtbl := gin 1171 (by decide +kernel) rfl
set_option maxRecDepth 100000 in
theorem ml_X6_68 : Cond.methodLink RX6 68 yX6_growRowBy ∈ gtbl := gin 1172 (by decide +kernel) rfl
set_option maxRecDepth 100000 in
theorem ml_X6_72 : Cond.methodLink RX6 72 yX1_calmingOf ∈ gtbl := gin 1176 (by decide +kernel) rfl
set_option maxRecDepth 100000 in
theorem ml_X6_76 : Cond.methodLink RX6 76 yX1_kindOf ∈ gtbl := gin 1177 (by decide +kernel) rfl
set_option maxRecDepth 100000 in
theorem ml_X6_79 : (RX6, 79, yX11_at, "MonsterCot") ∈ nsT := List.mem_of_getElem? (i := 26) (by decide +kernel)
set_option maxRecDepth 100000 in
theorem ml_X6_92 : Cond.methodLink RX6 92 yX1_strengthOf ∈ gtbl := gin 1179 (by decide +kernel) rfl
set_option maxRecDepth 100000 in
theorem ml_X6_95 : Cond.methodLink RX6 95 yX1_pagesOf ∈ gtbl := gin 1180 (by decide +kernel) rfl
set_option maxRecDepth 100000 in
theorem ml_X6_98 : Cond.methodLink RX6 98 yJ9_min_7cf53 ∈ gtbl := gin 1181 (by decide +kernel) rfl
set_option maxRecDepth 100000 in
theorem ml_X7_19 : Cond.methodLink RX7 19 yX7_bytesOf ∈ gtbl := gin 495 (by decide +kernel) rfl
set_option maxRecDepth 100000 in
theorem ml_X7_23 : Cond.methodLink RX7 23 yX7_add ∈ gtbl := gin 498 (by decide +kernel) rfl
set_option maxRecDepth 100000 in
theorem ml_X7_30 : Cond.methodLink RX7 30 yX7_sign ∈ gtbl := gin 659 (by decide +kernel) rfl
set_option maxRecDepth 100000 in
theorem ml_X7_34 : Cond.methodLink RX7 34 yJ0_indexOf_0f7a4 ∈ gtbl := gin 718 (by decide +kernel) rfl
set_option maxRecDepth 100000 in
theorem ml_X7_39 : Cond.methodLink RX7 39 yX7_isDigit ∈ gtbl := gin 660 (by decide +kernel) rfl
set_option maxRecDepth 100000 in
theorem ml_X7_43 : Cond.methodLink RX7 43 yX7_touching ∈ gtbl := gin 663 (by decide +kernel) rfl
set_option maxRecDepth 100000 in
theorem ml_X8_34 : (RX8, 34, yX11_put, "MonsterCot") ∈ nsT := List.mem_of_getElem? (i := 29) (by decide +kernel)
set_option maxRecDepth 100000 in
theorem ml_X8_38 : Cond.methodLink RX8 38 yX1_kindOf ∈ gtbl := gin 1245 (by decide +kernel) rfl
set_option maxRecDepth 100000 in
theorem ml_X8_49 : (RX8, 49, yX11_at, "MonsterCot") ∈ nsT := List.mem_of_getElem? (i := 30) (by decide +kernel)
set_option maxRecDepth 100000 in
theorem ml_X8_53 : Cond.methodLink RX8 53 yX9_worthOf ∈ gtbl := gin 1246 (by decide +kernel) rfl
set_option maxRecDepth 100000 in
theorem ml_X8_57 : Cond.methodLink RX8 57 yJ9_min_7cf53 ∈ gtbl := gin 1250 (by decide +kernel) rfl
set_option maxRecDepth 100000 in
theorem ml_X8_63 : (RX8, 63, yX11_heldCalm, "MonsterCot") ∈ nsT := List.mem_of_getElem? (i := 31) (by decide +kernel)
set_option maxRecDepth 100000 in
theorem ml_X8_66 : Cond.methodLink RX8 66 yX8_calmBy ∈ gtbl := gin 1241 (by decide +kernel) rfl
set_option maxRecDepth 100000 in
theorem ml_X8_73 : Cond.methodLink RX8 73 yX8_fits ∈ gtbl := gin 1236 (by decide +kernel) rfl
set_option maxRecDepth 100000 in
theorem ml_X8_77 : Cond.methodLink RX8 77 yX1_books ∈ gtbl := gin 1260 (by decide +kernel) rfl
set_option maxRecDepth 100000 in
theorem ml_X8_81 : Cond.methodLink RX8 81 yX8_apartBy ∈ gtbl := gin 1261 (by decide +kernel) rfl
set_option maxRecDepth 100000 in
theorem ml_X8_84 : Cond.methodLink RX8 84 yX1_pagesOf ∈ gtbl := gin 1265 (by decide +kernel) rfl
set_option maxRecDepth 100000 in
theorem ml_X8_87 : Cond.methodLink RX8 87 yJ9_abs_0f7a4 ∈ gtbl := gin 1266 (by decide +kernel) rfl
set_option maxRecDepth 100000 in
theorem ml_X9_103 : Cond.methodLink RX9 103 yX9_moreBored ∈ gtbl := gin 976 (by decide +kernel) rfl
set_option maxRecDepth 100000 in
theorem ml_X9_106 : Cond.methodLink RX9 106 yJ9_min_7cf53 ∈ gtbl := gin 979 (by decide +kernel) rfl
set_option maxRecDepth 100000 in
theorem ml_X9_112 : Cond.methodLink RX9 112 yX1_stands ∈ gtbl := gin 988 (by decide +kernel) rfl
set_option maxRecDepth 100000 in
theorem ml_X9_120 : Cond.methodLink RX9 120 yX1_hasHouse ∈ gtbl := gin 1001 (by decide +kernel) rfl
set_option maxRecDepth 100000 in
theorem ml_X9_126 : Cond.methodLink RX9 126 yX1_enough ∈ gtbl := gin 1035 (by decide +kernel) rfl
set_option maxRecDepth 100000 in
theorem ml_X9_130 : Cond.methodLink RX9 130 yX1_loses ∈ gtbl := gin 1040 (by decide +kernel) rfl
set_option maxRecDepth 100000 in
theorem ml_X9_133 : Cond.methodLink RX9 133 yJ9_max_7cf53 ∈ gtbl := gin 1211 (by decide +kernel) rfl
set_option maxRecDepth 100000 in
theorem ml_X9_136 : Cond.methodLink RX9 136 yX1_childrenOf ∈ gtbl := gin 1031 (by decide +kernel) rfl
set_option maxRecDepth 100000 in
theorem ml_X9_145 : Cond.methodLink RX9 145 yX9_calmBehindNight ∈ gtbl := gin 1036 (by decide +kernel) rfl
set_option maxRecDepth 100000 in
theorem ml_X9_148 : (RX9, 148, yX11_lessen, "MonsterCot") ∈ nsT := List.mem_of_getElem? (i := 22) (by decide +kernel)
set_option maxRecDepth 100000 in
theorem ml_X9_155 : Cond.methodLink RX9 155 yX1_houses ∈ gtbl := gin 1045 (by decide +kernel) rfl
set_option maxRecDepth 100000 in
theorem ml_X9_158 : Cond.methodLink RX9 158 yX0_forgetEvening ∈ gtbl := gin 1046 (by decide +kernel) rfl
set_option maxRecDepth 100000 in
theorem ml_X9_161 : Cond.methodLink RX9 161 yX10_digitOf ∈ gtbl := gin 1133 (by decide +kernel) rfl
set_option maxRecDepth 100000 in
theorem ml_X9_166 : Cond.methodLink RX9 166 yX10_sortOf ∈ gtbl := gin 1134 (by decide +kernel) rfl
set_option maxRecDepth 100000 in
theorem ml_X9_169 : Cond.methodLink RX9 169 yX9_canRead ∈ gtbl := gin 1135 (by decide +kernel) rfl
set_option maxRecDepth 100000 in
theorem ml_X9_173 : Cond.methodLink RX9 173 yX9_canDrink ∈ gtbl := gin 1136 (by decide +kernel) rfl
set_option maxRecDepth 100000 in
theorem ml_X9_177 : Cond.methodLink RX9 177 yX9_canPass ∈ gtbl := gin 1137 (by decide +kernel) rfl
set_option maxRecDepth 100000 in
theorem ml_X9_180 : Cond.methodLink RX9 180 yX9_canGo ∈ gtbl := gin 1138 (by decide +kernel) rfl
set_option maxRecDepth 100000 in
theorem ml_X9_184 : Cond.methodLink RX9 184 yX9_doRead ∈ gtbl := gin 1143 (by decide +kernel) rfl
set_option maxRecDepth 100000 in
theorem ml_X9_188 : Cond.methodLink RX9 188 yX9_drink ∈ gtbl := gin 1144 (by decide +kernel) rfl
set_option maxRecDepth 100000 in
theorem ml_X9_19 : Cond.methodLink RX9 19 yX1_hasBook ∈ gtbl := gin 896 (by decide +kernel) rfl
set_option maxRecDepth 100000 in
theorem ml_X9_192 : Cond.methodLink RX9 192 yX9_pass ∈ gtbl := gin 1145 (by decide +kernel) rfl
set_option maxRecDepth 100000 in
theorem ml_X9_196 : Cond.methodLink RX9 196 yX9_go ∈ gtbl := gin 1146 (by decide +kernel) rfl
set_option maxRecDepth 100000 in
theorem ml_X9_25 : Cond.methodLink RX9 25 yX1_pagesOf ∈ gtbl := gin 897 (by decide +kernel) rfl
set_option maxRecDepth 100000 in
theorem ml_X9_29 : Cond.methodLink RX9 29 yX1_strengthOf ∈ gtbl := gin 903 (by decide +kernel) rfl
set_option maxRecDepth 100000 in
theorem ml_X9_38 : (RX9, 38, yX11_at, "MonsterCot") ∈ nsT := List.mem_of_getElem? (i := 16) (by decide +kernel)
set_option maxRecDepth 100000 in
theorem ml_X9_42 : Cond.methodLink RX9 42 yX1_calmingOf ∈ gtbl := gin 931 (by decide +kernel) rfl
set_option maxRecDepth 100000 in
theorem ml_X9_45 : Cond.methodLink RX9 45 yX4_worthOf ∈ gtbl := gin 932 (by decide +kernel) rfl
set_option maxRecDepth 100000 in
theorem ml_X9_51 : (RX9, 51, yX11_heldCalm, "MonsterCot") ∈ nsT := List.mem_of_getElem? (i := 20) (by decide +kernel)
set_option maxRecDepth 100000 in
theorem ml_X9_57 : Cond.methodLink RX9 57 yX1_kindOf ∈ gtbl := gin 926 (by decide +kernel) rfl
set_option maxRecDepth 100000 in
theorem ml_X9_73 : Cond.methodLink RX9 73 yX9_calmBehind ∈ gtbl := gin 927 (by decide +kernel) rfl
set_option maxRecDepth 100000 in
theorem ml_X9_77 : Cond.methodLink RX9 77 yX9_hasPages ∈ gtbl := gin 892 (by decide +kernel) rfl
set_option maxRecDepth 100000 in
theorem ml_X9_81 : Cond.methodLink RX9 81 yX0_wasRead ∈ gtbl := gin 898 (by decide +kernel) rfl
set_option maxRecDepth 100000 in
theorem ml_X9_84 : Cond.methodLink RX9 84 yX9_leftOf ∈ gtbl := gin 899 (by decide +kernel) rfl
set_option maxRecDepth 100000 in
theorem ml_X9_88 : Cond.methodLink RX9 88 yX9_calmNow ∈ gtbl := gin 922 (by decide +kernel) rfl
set_option maxRecDepth 100000 in
theorem ml_X9_92 : (RX9, 92, yX11_put, "MonsterCot") ∈ nsT := List.mem_of_getElem? (i := 21) (by decide +kernel)
set_option maxRecDepth 100000 in
theorem ml_X9_96 : Cond.methodLink RX9 96 yX9_bore ∈ gtbl := gin 973 (by decide +kernel) rfl
set_option maxRecDepth 100000 in
theorem sc_1020 : ("MonsterCot$LandingText", 49, "sbh", 1020) ∈ sT := List.mem_of_getElem? (i := 0) (by decide +kernel)
set_option maxRecDepth 100000 in
theorem sc_1021 : ("MonsterCot$LandingText", 64, "cel", 1021) ∈ sT := List.mem_of_getElem? (i := 1) (by decide +kernel)
set_option maxRecDepth 100000 in
theorem sc_1022 : ("MonsterCot$LandingText", 66, "pck", 1022) ∈ sT := List.mem_of_getElem? (i := 2) (by decide +kernel)
set_option maxRecDepth 100000 in
theorem sc_1023 : ("MonsterCot$LandingText", 68, "nsv", 1023) ∈ sT := List.mem_of_getElem? (i := 3) (by decide +kernel)
set_option maxRecDepth 100000 in
theorem sc_1024 : ("MonsterCot$LawText", 41, "!(", 1024) ∈ sT := List.mem_of_getElem? (i := 4) (by decide +kernel)
set_option maxRecDepth 100000 in
theorem sc_1025 : ("MonsterCot$LawText", 95, "cvbpnt", 1025) ∈ sT := List.mem_of_getElem? (i := 5) (by decide +kernel)
set_option maxRecDepth 100000 in
theorem sc_1026 : ("MonsterCot$LawText", 93, "*/", 1026) ∈ sT := List.mem_of_getElem? (i := 6) (by decide +kernel)
set_option maxRecDepth 100000 in
theorem sc_1027 : ("MonsterCot$LawText", 88, "+-", 1027) ∈ sT := List.mem_of_getElem? (i := 7) (by decide +kernel)
set_option maxRecDepth 100000 in
theorem sc_1028 : ("MonsterCot$LawText", 57, "=<>", 1028) ∈ sT := List.mem_of_getElem? (i := 8) (by decide +kernel)
set_option maxRecDepth 100000 in
theorem sc_1029 : ("MonsterCot$Weeks", 46, "rkmng", 1029) ∈ sT := List.mem_of_getElem? (i := 9) (by decide +kernel)
set_option maxRecDepth 100000 in
theorem sc_1031 : ("MonsterCotModel", 26, "y", 1031) ∈ sT := List.mem_of_getElem? (i := 11) (by decide +kernel)
set_option maxRecDepth 100000 in
theorem sc_1032 : ("MonsterCotModel", 32, "cvbpnt", 1032) ∈ sT := List.mem_of_getElem? (i := 12) (by decide +kernel)
set_option maxRecDepth 100000 in
theorem sc_1033 : ("MonsterCotModel", 248, "cel", 1033) ∈ sT := List.mem_of_getElem? (i := 13) (by decide +kernel)
set_option maxRecDepth 100000 in
theorem sc_1034 : ("MonsterCotModel", 254, "pck", 1034) ∈ sT := List.mem_of_getElem? (i := 14) (by decide +kernel)
set_option maxRecDepth 100000 in
theorem sc_1035 : ("MonsterCotModel", 256, "nsv", 1035) ∈ sT := List.mem_of_getElem? (i := 15) (by decide +kernel)
set_option maxRecDepth 100000 in
theorem sc_1036 : ("MonsterCotModel", 261, "rkmng", 1036) ∈ sT := List.mem_of_getElem? (i := 16) (by decide +kernel)
set_option maxRecDepth 100000 in
theorem sl_X10_52 : Cond.fieldLink RX10 52 "MonsterCot$Weeks" "DIGITS" "[I" ∈ gtbl := gin 755 (by decide +kernel) rfl
set_option maxRecDepth 100000 in
theorem sl_X1_28 : Cond.fieldLink RX1 28 "MonsterCot$Land" "USUAL" "[I" ∈ gtbl := gin 533 (by decide +kernel) rfl
set_option maxRecDepth 100000 in
theorem sl_X1_39 : Cond.fieldLink RX1 39 "MonsterCot$Land" "MOST" "[I" ∈ gtbl := gin 646 (by decide +kernel) rfl
set_option maxRecDepth 100000 in
theorem sl_X1_46 : Cond.fieldLink RX1 46 "MonsterCot$Land" "FIRST" "[I" ∈ gtbl := gin 542 (by decide +kernel) rfl
set_option maxRecDepth 100000 in
theorem sl_X2_77 : Cond.fieldLink RX2 77 "MonsterCot$LandingText" "LOWEST" "[I" ∈ gtbl := gin 667 (by decide +kernel) rfl
set_option maxRecDepth 100000 in
theorem sl_X2_85 : Cond.fieldLink RX2 85 "MonsterCot$LandingText" "HIGHEST" "[I" ∈ gtbl := gin 670 (by decide +kernel) rfl
set_option maxRecDepth 100000 in
theorem sl_X8_70 : Cond.fieldLink RX8 70 "MonsterCot$Watch" "TASTES" "[I" ∈ gtbl := gin 1234 (by decide +kernel) rfl
set_option maxRecDepth 100000 in
theorem zm_1001 : ("MonsterCot$Land", "FIRST", 1001) ∈ zT := List.mem_of_getElem? (i := 0) (by decide +kernel)
set_option maxRecDepth 100000 in
theorem zm_1002 : ("MonsterCot$Land", "MOST", 1002) ∈ zT := List.mem_of_getElem? (i := 1) (by decide +kernel)
set_option maxRecDepth 100000 in
theorem zm_1003 : ("MonsterCot$Land", "USUAL", 1003) ∈ zT := List.mem_of_getElem? (i := 2) (by decide +kernel)
set_option maxRecDepth 100000 in
theorem zm_1004 : ("MonsterCot$LandingText", "LOWEST", 1004) ∈ zT := List.mem_of_getElem? (i := 3) (by decide +kernel)
set_option maxRecDepth 100000 in
theorem zm_1005 : ("MonsterCot$LandingText", "HIGHEST", 1005) ∈ zT := List.mem_of_getElem? (i := 4) (by decide +kernel)
set_option maxRecDepth 100000 in
theorem zm_1006 : ("MonsterCot$Weeks", "DIGITS", 1006) ∈ zT := List.mem_of_getElem? (i := 5) (by decide +kernel)
set_option maxRecDepth 100000 in
theorem zm_1007 : ("MonsterCot$Watch", "TASTES", 1007) ∈ zT := List.mem_of_getElem? (i := 6) (by decide +kernel)
