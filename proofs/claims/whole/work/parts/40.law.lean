set_option maxRecDepth 100000 in
theorem kc_L_89 : Cond.constantLong RL 89 4294967295 ∈ gtbl := gin 2121 (by decide +kernel) rfl
set_option maxRecDepth 100000 in
theorem ml_L_100 : Cond.methodLink RL 100 yX11_log ∈ gtbl := gin 1078 (by decide +kernel) rfl
set_option maxRecDepth 100000 in
theorem ml_L_103 : Cond.methodLink RL 103 yX12_log ∈ gtbl := gin 1960 (by decide +kernel) rfl
set_option maxRecDepth 100000 in
theorem ml_L_104 : Cond.methodLink RL 104 yX11_step ∈ gtbl := gin 1090 (by decide +kernel) rfl
set_option maxRecDepth 100000 in
theorem ml_L_108 : Cond.methodLink RL 108 yX12_step ∈ gtbl := gin 1964 (by decide +kernel) rfl
set_option maxRecDepth 100000 in
theorem ml_L_109 : Cond.methodLink RL 109 yX11_run ∈ gtbl := gin 1122 (by decide +kernel) rfl
set_option maxRecDepth 100000 in
theorem ml_L_112 : Cond.methodLink RL 112 yX12_run ∈ gtbl := gin 1973 (by decide +kernel) rfl
set_option maxRecDepth 100000 in
theorem ml_L_113 : Cond.methodLink RL 113 yX11_perform ∈ gtbl := gin 1147 (by decide +kernel) rfl
set_option maxRecDepth 100000 in
theorem ml_L_116 : Cond.methodLink RL 116 yX12_perform ∈ gtbl := gin 1988 (by decide +kernel) rfl
set_option maxRecDepth 100000 in
theorem ml_L_117 : Cond.methodLink RL 117 yX11_calms ∈ gtbl := gin 1151 (by decide +kernel) rfl
set_option maxRecDepth 100000 in
theorem ml_L_120 : Cond.methodLink RL 120 yX12_calms ∈ gtbl := gin 1992 (by decide +kernel) rfl
set_option maxRecDepth 100000 in
theorem ml_L_121 : Cond.methodLink RL 121 yX11_least ∈ gtbl := gin 1158 (by decide +kernel) rfl
set_option maxRecDepth 100000 in
theorem ml_L_124 : Cond.methodLink RL 124 yX12_least ∈ gtbl := gin 1996 (by decide +kernel) rfl
set_option maxRecDepth 100000 in
theorem ml_L_125 : Cond.methodLink RL 125 yX11_best ∈ gtbl := gin 1191 (by decide +kernel) rfl
set_option maxRecDepth 100000 in
theorem ml_L_128 : Cond.methodLink RL 128 yX12_best ∈ gtbl := gin 2004 (by decide +kernel) rfl
set_option maxRecDepth 100000 in
theorem ml_L_129 : Cond.methodLink RL 129 yX11_roster ∈ gtbl := gin 1195 (by decide +kernel) rfl
set_option maxRecDepth 100000 in
theorem ml_L_132 : Cond.methodLink RL 132 yX12_roster ∈ gtbl := gin 2008 (by decide +kernel) rfl
set_option maxRecDepth 100000 in
theorem ml_L_133 : Cond.methodLink RL 133 yX11_seen ∈ gtbl := gin 1217 (by decide +kernel) rfl
set_option maxRecDepth 100000 in
theorem ml_L_137 : Cond.methodLink RL 137 yX12_seen ∈ gtbl := gin 2022 (by decide +kernel) rfl
set_option maxRecDepth 100000 in
theorem ml_L_138 : Cond.methodLink RL 138 yX11_likes ∈ gtbl := gin 1226 (by decide +kernel) rfl
set_option maxRecDepth 100000 in
theorem ml_L_141 : Cond.methodLink RL 141 yX12_likes ∈ gtbl := gin 2027 (by decide +kernel) rfl
set_option maxRecDepth 100000 in
theorem ml_L_142 : Cond.methodLink RL 142 yX11_probe ∈ gtbl := gin 1252 (by decide +kernel) rfl
set_option maxRecDepth 100000 in
theorem ml_L_145 : Cond.methodLink RL 145 yX12_probe ∈ gtbl := gin 2042 (by decide +kernel) rfl
set_option maxRecDepth 100000 in
theorem ml_L_146 : Cond.methodLink RL 146 yX11_which ∈ gtbl := gin 1269 (by decide +kernel) rfl
set_option maxRecDepth 100000 in
theorem ml_L_149 : Cond.methodLink RL 149 yX12_which ∈ gtbl := gin 2047 (by decide +kernel) rfl
set_option maxRecDepth 100000 in
theorem ml_L_150 : Cond.methodLink RL 150 yX11_game ∈ gtbl := gin 1281 (by decide +kernel) rfl
set_option maxRecDepth 100000 in
theorem ml_L_154 : Cond.methodLink RL 154 yX12_game ∈ gtbl := gin 2055 (by decide +kernel) rfl
set_option maxRecDepth 100000 in
theorem ml_L_155 : Cond.methodLink RL 155 yX11_rests ∈ gtbl := gin 1296 (by decide +kernel) rfl
set_option maxRecDepth 100000 in
theorem ml_L_159 : Cond.methodLink RL 159 yX12_rests ∈ gtbl := gin 2071 (by decide +kernel) rfl
set_option maxRecDepth 100000 in
theorem ml_L_160 : Cond.methodLink RL 160 yX11_odds ∈ gtbl := gin 1314 (by decide +kernel) rfl
set_option maxRecDepth 100000 in
theorem ml_L_163 : Cond.methodLink RL 163 yX12_odds ∈ gtbl := gin 2075 (by decide +kernel) rfl
set_option maxRecDepth 100000 in
theorem ml_L_164 : Cond.methodLink RL 164 yX11_lasts ∈ gtbl := gin 1320 (by decide +kernel) rfl
set_option maxRecDepth 100000 in
theorem ml_L_167 : Cond.methodLink RL 167 yX12_lasts ∈ gtbl := gin 2080 (by decide +kernel) rfl
set_option maxRecDepth 100000 in
theorem ml_L_168 : Cond.methodLink RL 168 yX11_quiet ∈ gtbl := gin 1329 (by decide +kernel) rfl
set_option maxRecDepth 100000 in
theorem ml_L_171 : Cond.methodLink RL 171 yX12_quiet ∈ gtbl := gin 2084 (by decide +kernel) rfl
set_option maxRecDepth 100000 in
theorem ml_L_172 : Cond.methodLink RL 172 yX11_all ∈ gtbl := gin 1337 (by decide +kernel) rfl
set_option maxRecDepth 100000 in
theorem ml_L_175 : Cond.methodLink RL 175 yX12_all ∈ gtbl := gin 2088 (by decide +kernel) rfl
set_option maxRecDepth 100000 in
theorem ml_L_176 : Cond.methodLink RL 176 yX11_pages ∈ gtbl := gin 1371 (by decide +kernel) rfl
set_option maxRecDepth 100000 in
theorem ml_L_179 : Cond.methodLink RL 179 yX12_pages ∈ gtbl := gin 2101 (by decide +kernel) rfl
set_option maxRecDepth 100000 in
theorem ml_L_180 : Cond.methodLink RL 180 yX11_left ∈ gtbl := gin 1375 (by decide +kernel) rfl
set_option maxRecDepth 100000 in
theorem ml_L_183 : Cond.methodLink RL 183 yX12_left ∈ gtbl := gin 2105 (by decide +kernel) rfl
set_option maxRecDepth 100000 in
theorem ml_L_184 : Cond.methodLink RL 184 yX11_image ∈ gtbl := gin 1379 (by decide +kernel) rfl
set_option maxRecDepth 100000 in
theorem ml_L_187 : Cond.methodLink RL 187 yX12_image ∈ gtbl := gin 2109 (by decide +kernel) rfl
set_option maxRecDepth 100000 in
theorem ml_L_188 : Cond.methodLink RL 188 yX11_back ∈ gtbl := gin 1388 (by decide +kernel) rfl
set_option maxRecDepth 100000 in
theorem ml_L_19 : Cond.methodLink RL 19 yX11_feed ∈ gtbl := gin 487 (by decide +kernel) rfl
set_option maxRecDepth 100000 in
theorem ml_L_191 : Cond.methodLink RL 191 yX12_back ∈ gtbl := gin 2113 (by decide +kernel) rfl
set_option maxRecDepth 100000 in
theorem ml_L_192 : Cond.methodLink RL 192 yX11_count ∈ gtbl := gin 1396 (by decide +kernel) rfl
set_option maxRecDepth 100000 in
theorem ml_L_195 : Cond.methodLink RL 195 yX12_count ∈ gtbl := gin 2117 (by decide +kernel) rfl
set_option maxRecDepth 100000 in
theorem ml_L_23 : Cond.methodLink RL 23 yX12_feed ∈ gtbl := gin 1645 (by decide +kernel) rfl
set_option maxRecDepth 100000 in
theorem ml_L_24 : Cond.methodLink RL 24 yX11_end ∈ gtbl := gin 502 (by decide +kernel) rfl
set_option maxRecDepth 100000 in
theorem ml_L_28 : Cond.methodLink RL 28 yX12_end ∈ gtbl := gin 1656 (by decide +kernel) rfl
set_option maxRecDepth 100000 in
theorem ml_L_29 : Cond.methodLink RL 29 yX11_fault ∈ gtbl := gin 510 (by decide +kernel) rfl
set_option maxRecDepth 100000 in
theorem ml_L_33 : Cond.methodLink RL 33 yX12_fault ∈ gtbl := gin 1660 (by decide +kernel) rfl
set_option maxRecDepth 100000 in
theorem ml_L_34 : Cond.methodLink RL 34 yX11_text ∈ gtbl := gin 766 (by decide +kernel) rfl
set_option maxRecDepth 100000 in
theorem ml_L_37 : Cond.methodLink RL 37 yX12_text ∈ gtbl := gin 1817 (by decide +kernel) rfl
set_option maxRecDepth 100000 in
theorem ml_L_38 : Cond.methodLink RL 38 yX11_rule ∈ gtbl := gin 822 (by decide +kernel) rfl
set_option maxRecDepth 100000 in
theorem ml_L_41 : Cond.methodLink RL 41 yX12_rule ∈ gtbl := gin 1822 (by decide +kernel) rfl
set_option maxRecDepth 100000 in
theorem ml_L_42 : Cond.methodLink RL 42 yX11_tome ∈ gtbl := gin 839 (by decide +kernel) rfl
set_option maxRecDepth 100000 in
theorem ml_L_45 : Cond.methodLink RL 45 yX12_tome ∈ gtbl := gin 1826 (by decide +kernel) rfl
set_option maxRecDepth 100000 in
theorem ml_L_56 : Cond.methodLink RL 56 yX11_bored ∈ gtbl := gin 864 (by decide +kernel) rfl
set_option maxRecDepth 100000 in
theorem ml_L_59 : Cond.methodLink RL 59 yX12_bored ∈ gtbl := gin 1848 (by decide +kernel) rfl
set_option maxRecDepth 100000 in
theorem ml_L_60 : Cond.methodLink RL 60 yX11_law ∈ gtbl := gin 872 (by decide +kernel) rfl
set_option maxRecDepth 100000 in
theorem ml_L_63 : Cond.methodLink RL 63 yX12_law ∈ gtbl := gin 1852 (by decide +kernel) rfl
set_option maxRecDepth 100000 in
theorem ml_L_64 : Cond.methodLink RL 64 yX11_hush ∈ gtbl := gin 880 (by decide +kernel) rfl
set_option maxRecDepth 100000 in
theorem ml_L_67 : Cond.methodLink RL 67 yX12_hush ∈ gtbl := gin 1856 (by decide +kernel) rfl
set_option maxRecDepth 100000 in
theorem ml_L_68 : Cond.methodLink RL 68 yX11_read ∈ gtbl := gin 884 (by decide +kernel) rfl
set_option maxRecDepth 100000 in
theorem ml_L_72 : Cond.methodLink RL 72 yX12_read ∈ gtbl := gin 1861 (by decide +kernel) rfl
set_option maxRecDepth 100000 in
theorem ml_L_73 : Cond.methodLink RL 73 yX11_milk ∈ gtbl := gin 980 (by decide +kernel) rfl
set_option maxRecDepth 100000 in
theorem ml_L_76 : Cond.methodLink RL 76 yX12_milk ∈ gtbl := gin 1906 (by decide +kernel) rfl
set_option maxRecDepth 100000 in
theorem ml_L_77 : Cond.methodLink RL 77 yX11_goes ∈ gtbl := gin 993 (by decide +kernel) rfl
set_option maxRecDepth 100000 in
theorem ml_L_80 : Cond.methodLink RL 80 yX12_goes ∈ gtbl := gin 1913 (by decide +kernel) rfl
set_option maxRecDepth 100000 in
theorem ml_L_81 : Cond.methodLink RL 81 yX11_voice ∈ gtbl := gin 1009 (by decide +kernel) rfl
set_option maxRecDepth 100000 in
theorem ml_L_84 : Cond.methodLink RL 84 yX12_voice ∈ gtbl := gin 1921 (by decide +kernel) rfl
set_option maxRecDepth 100000 in
theorem ml_L_85 : Cond.methodLink RL 85 yX11_night ∈ gtbl := gin 1015 (by decide +kernel) rfl
set_option maxRecDepth 100000 in
theorem ml_L_88 : Cond.methodLink RL 88 yX12_night ∈ gtbl := gin 1925 (by decide +kernel) rfl
set_option maxRecDepth 100000 in
theorem ml_L_91 : Cond.methodLink RL 91 yX11_years ∈ gtbl := gin 1055 (by decide +kernel) rfl
set_option maxRecDepth 100000 in
theorem ml_L_95 : Cond.methodLink RL 95 yX12_years ∈ gtbl := gin 1941 (by decide +kernel) rfl
set_option maxRecDepth 100000 in
theorem ml_L_96 : Cond.methodLink RL 96 yX11_undo ∈ gtbl := gin 1070 (by decide +kernel) rfl
set_option maxRecDepth 100000 in
theorem ml_L_99 : Cond.methodLink RL 99 yX12_undo ∈ gtbl := gin 1956 (by decide +kernel) rfl
set_option maxRecDepth 100000 in
theorem mf_X11_all : mV yX11_all cX11_all 2 (some .int) 1 11 := ⟨⟨gin 1340 (by decide +kernel) rfl, ⟨by decide +kernel, by decide +kernel, by decide +kernel⟩, by decide, gin 92 (by decide +kernel) rfl⟩, gin 1338 (by decide +kernel) rfl, gin 1339 (by decide +kernel) rfl, ⟨TX11, 14, rfl⟩⟩
set_option maxRecDepth 100000 in
theorem mf_X11_back : mV yX11_back cX11_back 1 (some .int) 0 11 := ⟨⟨gin 1391 (by decide +kernel) rfl, ⟨by decide +kernel, by decide +kernel, by decide +kernel⟩, by decide, gin 92 (by decide +kernel) rfl⟩, gin 1389 (by decide +kernel) rfl, gin 1390 (by decide +kernel) rfl, ⟨TX11, 14, rfl⟩⟩
set_option maxRecDepth 100000 in
theorem mf_X11_best : mV yX11_best cX11_best 7 (some .int) 2 11 := ⟨⟨gin 1194 (by decide +kernel) rfl, ⟨by decide +kernel, by decide +kernel, by decide +kernel⟩, by decide, gin 92 (by decide +kernel) rfl⟩, gin 1192 (by decide +kernel) rfl, gin 1193 (by decide +kernel) rfl, ⟨TX11, 14, rfl⟩⟩
set_option maxRecDepth 100000 in
theorem mf_X11_bored : mV yX11_bored cX11_bored 2 (some .int) 1 11 := ⟨⟨gin 867 (by decide +kernel) rfl, ⟨by decide +kernel, by decide +kernel, by decide +kernel⟩, by decide, gin 92 (by decide +kernel) rfl⟩, gin 865 (by decide +kernel) rfl, gin 866 (by decide +kernel) rfl, ⟨TX11, 14, rfl⟩⟩
set_option maxRecDepth 100000 in
theorem mf_X11_calms : mV yX11_calms cX11_calms 3 (some .int) 2 11 := ⟨⟨gin 1154 (by decide +kernel) rfl, ⟨by decide +kernel, by decide +kernel, by decide +kernel⟩, by decide, gin 92 (by decide +kernel) rfl⟩, gin 1152 (by decide +kernel) rfl, gin 1153 (by decide +kernel) rfl, ⟨TX11, 14, rfl⟩⟩
set_option maxRecDepth 100000 in
theorem mf_X11_count : mV yX11_count cX11_count 2 (some .int) 1 11 := ⟨⟨gin 1399 (by decide +kernel) rfl, ⟨by decide +kernel, by decide +kernel, by decide +kernel⟩, by decide, gin 92 (by decide +kernel) rfl⟩, gin 1397 (by decide +kernel) rfl, gin 1398 (by decide +kernel) rfl, ⟨TX11, 14, rfl⟩⟩
set_option maxRecDepth 100000 in
theorem mf_X11_end : mV yX11_end cX11_end 2 (some .boolean) 1 11 := ⟨⟨gin 505 (by decide +kernel) rfl, ⟨by decide +kernel, by decide +kernel, by decide +kernel⟩, by decide, gin 92 (by decide +kernel) rfl⟩, gin 503 (by decide +kernel) rfl, gin 504 (by decide +kernel) rfl, ⟨TX11, 14, rfl⟩⟩
set_option maxRecDepth 100000 in
theorem mf_X11_fault : mV yX11_fault cX11_fault 2 (some .int) 1 11 := ⟨⟨gin 513 (by decide +kernel) rfl, ⟨by decide +kernel, by decide +kernel, by decide +kernel⟩, by decide, gin 92 (by decide +kernel) rfl⟩, gin 511 (by decide +kernel) rfl, gin 512 (by decide +kernel) rfl, ⟨TX11, 14, rfl⟩⟩
set_option maxRecDepth 100000 in
theorem mf_X11_feed : mV yX11_feed cX11_feed 6 (some .int) 5 11 := ⟨⟨gin 490 (by decide +kernel) rfl, ⟨by decide +kernel, by decide +kernel, by decide +kernel⟩, by decide, gin 92 (by decide +kernel) rfl⟩, gin 488 (by decide +kernel) rfl, gin 489 (by decide +kernel) rfl, ⟨TX11, 14, rfl⟩⟩
set_option maxRecDepth 100000 in
theorem mf_X11_game : mV yX11_game cX11_game 9 (some .int) 6 11 := ⟨⟨gin 1284 (by decide +kernel) rfl, ⟨by decide +kernel, by decide +kernel, by decide +kernel⟩, by decide, gin 92 (by decide +kernel) rfl⟩, gin 1282 (by decide +kernel) rfl, gin 1283 (by decide +kernel) rfl, ⟨TX11, 14, rfl⟩⟩
set_option maxRecDepth 100000 in
theorem mf_X11_goes : mV yX11_goes cX11_goes 2 (some .int) 1 11 := ⟨⟨gin 996 (by decide +kernel) rfl, ⟨by decide +kernel, by decide +kernel, by decide +kernel⟩, by decide, gin 92 (by decide +kernel) rfl⟩, gin 994 (by decide +kernel) rfl, gin 995 (by decide +kernel) rfl, ⟨TX11, 14, rfl⟩⟩
set_option maxRecDepth 100000 in
theorem mf_X11_hush : mV yX11_hush cX11_hush 2 (some .boolean) 1 11 := ⟨⟨gin 883 (by decide +kernel) rfl, ⟨by decide +kernel, by decide +kernel, by decide +kernel⟩, by decide, gin 92 (by decide +kernel) rfl⟩, gin 881 (by decide +kernel) rfl, gin 882 (by decide +kernel) rfl, ⟨TX11, 14, rfl⟩⟩
set_option maxRecDepth 100000 in
theorem mf_X11_image : mV yX11_image cX11_image 1 (some .int) 0 11 := ⟨⟨gin 1382 (by decide +kernel) rfl, ⟨by decide +kernel, by decide +kernel, by decide +kernel⟩, by decide, gin 92 (by decide +kernel) rfl⟩, gin 1380 (by decide +kernel) rfl, gin 1381 (by decide +kernel) rfl, ⟨TX11, 14, rfl⟩⟩
set_option maxRecDepth 100000 in
theorem mf_X11_lasts : mV yX11_lasts cX11_lasts 2 (some .int) 1 11 := ⟨⟨gin 1323 (by decide +kernel) rfl, ⟨by decide +kernel, by decide +kernel, by decide +kernel⟩, by decide, gin 92 (by decide +kernel) rfl⟩, gin 1321 (by decide +kernel) rfl, gin 1322 (by decide +kernel) rfl, ⟨TX11, 14, rfl⟩⟩
set_option maxRecDepth 100000 in
theorem mf_X11_law : mV yX11_law cX11_law 2 (some .boolean) 1 11 := ⟨⟨gin 875 (by decide +kernel) rfl, ⟨by decide +kernel, by decide +kernel, by decide +kernel⟩, by decide, gin 92 (by decide +kernel) rfl⟩, gin 873 (by decide +kernel) rfl, gin 874 (by decide +kernel) rfl, ⟨TX11, 14, rfl⟩⟩
set_option maxRecDepth 100000 in
theorem mf_X11_least : mV yX11_least cX11_least 2 (some .int) 1 11 := ⟨⟨gin 1161 (by decide +kernel) rfl, ⟨by decide +kernel, by decide +kernel, by decide +kernel⟩, by decide, gin 92 (by decide +kernel) rfl⟩, gin 1159 (by decide +kernel) rfl, gin 1160 (by decide +kernel) rfl, ⟨TX11, 14, rfl⟩⟩
set_option maxRecDepth 100000 in
theorem mf_X11_left : mV yX11_left cX11_left 2 (some .int) 1 11 := ⟨⟨gin 1378 (by decide +kernel) rfl, ⟨by decide +kernel, by decide +kernel, by decide +kernel⟩, by decide, gin 92 (by decide +kernel) rfl⟩, gin 1376 (by decide +kernel) rfl, gin 1377 (by decide +kernel) rfl, ⟨TX11, 14, rfl⟩⟩
set_option maxRecDepth 100000 in
theorem mf_X11_likes : mV yX11_likes cX11_likes 2 (some .int) 1 11 := ⟨⟨gin 1229 (by decide +kernel) rfl, ⟨by decide +kernel, by decide +kernel, by decide +kernel⟩, by decide, gin 92 (by decide +kernel) rfl⟩, gin 1227 (by decide +kernel) rfl, gin 1228 (by decide +kernel) rfl, ⟨TX11, 14, rfl⟩⟩
set_option maxRecDepth 100000 in
theorem mf_X11_log : mV yX11_log cX11_log 3 (some .int) 2 11 := ⟨⟨gin 1081 (by decide +kernel) rfl, ⟨by decide +kernel, by decide +kernel, by decide +kernel⟩, by decide, gin 92 (by decide +kernel) rfl⟩, gin 1079 (by decide +kernel) rfl, gin 1080 (by decide +kernel) rfl, ⟨TX11, 14, rfl⟩⟩
set_option maxRecDepth 100000 in
theorem mf_X11_milk : mV yX11_milk cX11_milk 1 (some .int) 0 11 := ⟨⟨gin 983 (by decide +kernel) rfl, ⟨by decide +kernel, by decide +kernel, by decide +kernel⟩, by decide, gin 92 (by decide +kernel) rfl⟩, gin 981 (by decide +kernel) rfl, gin 982 (by decide +kernel) rfl, ⟨TX11, 14, rfl⟩⟩
set_option maxRecDepth 100000 in
theorem mf_X11_night : mV yX11_night cX11_night 1 (some .int) 0 11 := ⟨⟨gin 1018 (by decide +kernel) rfl, ⟨by decide +kernel, by decide +kernel, by decide +kernel⟩, by decide, gin 92 (by decide +kernel) rfl⟩, gin 1016 (by decide +kernel) rfl, gin 1017 (by decide +kernel) rfl, ⟨TX11, 14, rfl⟩⟩
set_option maxRecDepth 100000 in
theorem mf_X11_odds : mV yX11_odds cX11_odds 5 (some .int) 2 11 := ⟨⟨gin 1317 (by decide +kernel) rfl, ⟨by decide +kernel, by decide +kernel, by decide +kernel⟩, by decide, gin 92 (by decide +kernel) rfl⟩, gin 1315 (by decide +kernel) rfl, gin 1316 (by decide +kernel) rfl, ⟨TX11, 14, rfl⟩⟩
set_option maxRecDepth 100000 in
theorem mf_X11_pages : mV yX11_pages cX11_pages 4 (some .int) 1 11 := ⟨⟨gin 1374 (by decide +kernel) rfl, ⟨by decide +kernel, by decide +kernel, by decide +kernel⟩, by decide, gin 92 (by decide +kernel) rfl⟩, gin 1372 (by decide +kernel) rfl, gin 1373 (by decide +kernel) rfl, ⟨TX11, 14, rfl⟩⟩
set_option maxRecDepth 100000 in
theorem mf_X11_perform : mV yX11_perform cX11_perform 5 (some .int) 1 11 := ⟨⟨gin 1150 (by decide +kernel) rfl, ⟨by decide +kernel, by decide +kernel, by decide +kernel⟩, by decide, gin 92 (by decide +kernel) rfl⟩, gin 1148 (by decide +kernel) rfl, gin 1149 (by decide +kernel) rfl, ⟨TX11, 14, rfl⟩⟩
set_option maxRecDepth 100000 in
theorem mf_X11_probe : mV yX11_probe cX11_probe 3 (some .int) 2 11 := ⟨⟨gin 1255 (by decide +kernel) rfl, ⟨by decide +kernel, by decide +kernel, by decide +kernel⟩, by decide, gin 92 (by decide +kernel) rfl⟩, gin 1253 (by decide +kernel) rfl, gin 1254 (by decide +kernel) rfl, ⟨TX11, 14, rfl⟩⟩
set_option maxRecDepth 100000 in
theorem mf_X11_quiet : mV yX11_quiet cX11_quiet 1 (some .int) 0 11 := ⟨⟨gin 1332 (by decide +kernel) rfl, ⟨by decide +kernel, by decide +kernel, by decide +kernel⟩, by decide, gin 92 (by decide +kernel) rfl⟩, gin 1330 (by decide +kernel) rfl, gin 1331 (by decide +kernel) rfl, ⟨TX11, 14, rfl⟩⟩
set_option maxRecDepth 100000 in
theorem mf_X11_read : mV yX11_read cX11_read 4 (some .int) 3 11 := ⟨⟨gin 887 (by decide +kernel) rfl, ⟨by decide +kernel, by decide +kernel, by decide +kernel⟩, by decide, gin 92 (by decide +kernel) rfl⟩, gin 885 (by decide +kernel) rfl, gin 886 (by decide +kernel) rfl, ⟨TX11, 14, rfl⟩⟩
set_option maxRecDepth 100000 in
theorem mf_X11_rests : mV yX11_rests cX11_rests 5 (some .int) 4 11 := ⟨⟨gin 1299 (by decide +kernel) rfl, ⟨by decide +kernel, by decide +kernel, by decide +kernel⟩, by decide, gin 92 (by decide +kernel) rfl⟩, gin 1297 (by decide +kernel) rfl, gin 1298 (by decide +kernel) rfl, ⟨TX11, 14, rfl⟩⟩
set_option maxRecDepth 100000 in
theorem mf_X11_roster : mV yX11_roster cX11_roster 3 (some .int) 2 11 := ⟨⟨gin 1198 (by decide +kernel) rfl, ⟨by decide +kernel, by decide +kernel, by decide +kernel⟩, by decide, gin 92 (by decide +kernel) rfl⟩, gin 1196 (by decide +kernel) rfl, gin 1197 (by decide +kernel) rfl, ⟨TX11, 14, rfl⟩⟩
set_option maxRecDepth 100000 in
theorem mf_X11_rule : mV yX11_rule cX11_rule 2 (some .int) 1 11 := ⟨⟨gin 825 (by decide +kernel) rfl, ⟨by decide +kernel, by decide +kernel, by decide +kernel⟩, by decide, gin 92 (by decide +kernel) rfl⟩, gin 823 (by decide +kernel) rfl, gin 824 (by decide +kernel) rfl, ⟨TX11, 14, rfl⟩⟩
set_option maxRecDepth 100000 in
theorem mf_X11_run : mV yX11_run cX11_run 8 (some .int) 2 11 := ⟨⟨gin 1125 (by decide +kernel) rfl, ⟨by decide +kernel, by decide +kernel, by decide +kernel⟩, by decide, gin 92 (by decide +kernel) rfl⟩, gin 1123 (by decide +kernel) rfl, gin 1124 (by decide +kernel) rfl, ⟨TX11, 14, rfl⟩⟩
set_option maxRecDepth 100000 in
theorem mf_X11_seen : mV yX11_seen cX11_seen 6 (some .int) 5 11 := ⟨⟨gin 1220 (by decide +kernel) rfl, ⟨by decide +kernel, by decide +kernel, by decide +kernel⟩, by decide, gin 92 (by decide +kernel) rfl⟩, gin 1218 (by decide +kernel) rfl, gin 1219 (by decide +kernel) rfl, ⟨TX11, 14, rfl⟩⟩
set_option maxRecDepth 100000 in
theorem mf_X11_step : mV yX11_step cX11_step 5 (some .int) 3 11 := ⟨⟨gin 1093 (by decide +kernel) rfl, ⟨by decide +kernel, by decide +kernel, by decide +kernel⟩, by decide, gin 92 (by decide +kernel) rfl⟩, gin 1091 (by decide +kernel) rfl, gin 1092 (by decide +kernel) rfl, ⟨TX11, 14, rfl⟩⟩
set_option maxRecDepth 100000 in
theorem mf_X11_text : mV yX11_text cX11_text 3 (some .int) 1 11 := ⟨⟨gin 769 (by decide +kernel) rfl, ⟨by decide +kernel, by decide +kernel, by decide +kernel⟩, by decide, gin 92 (by decide +kernel) rfl⟩, gin 767 (by decide +kernel) rfl, gin 768 (by decide +kernel) rfl, ⟨TX11, 14, rfl⟩⟩
set_option maxRecDepth 100000 in
theorem mf_X11_tome : mV yX11_tome cX11_tome 3 (some .int) 2 11 := ⟨⟨gin 842 (by decide +kernel) rfl, ⟨by decide +kernel, by decide +kernel, by decide +kernel⟩, by decide, gin 92 (by decide +kernel) rfl⟩, gin 840 (by decide +kernel) rfl, gin 841 (by decide +kernel) rfl, ⟨TX11, 14, rfl⟩⟩
set_option maxRecDepth 100000 in
theorem mf_X11_undo : mV yX11_undo cX11_undo 1 (some .int) 0 11 := ⟨⟨gin 1073 (by decide +kernel) rfl, ⟨by decide +kernel, by decide +kernel, by decide +kernel⟩, by decide, gin 92 (by decide +kernel) rfl⟩, gin 1071 (by decide +kernel) rfl, gin 1072 (by decide +kernel) rfl, ⟨TX11, 14, rfl⟩⟩
set_option maxRecDepth 100000 in
theorem mf_X11_voice : mV yX11_voice cX11_voice 4 (some .int) 2 11 := ⟨⟨gin 1012 (by decide +kernel) rfl, ⟨by decide +kernel, by decide +kernel, by decide +kernel⟩, by decide, gin 92 (by decide +kernel) rfl⟩, gin 1010 (by decide +kernel) rfl, gin 1011 (by decide +kernel) rfl, ⟨TX11, 14, rfl⟩⟩
set_option maxRecDepth 100000 in
theorem mf_X11_which : mV yX11_which cX11_which 3 (some .int) 2 11 := ⟨⟨gin 1272 (by decide +kernel) rfl, ⟨by decide +kernel, by decide +kernel, by decide +kernel⟩, by decide, gin 92 (by decide +kernel) rfl⟩, gin 1270 (by decide +kernel) rfl, gin 1271 (by decide +kernel) rfl, ⟨TX11, 14, rfl⟩⟩
set_option maxRecDepth 100000 in
theorem mf_X11_years : mV yX11_years cX11_years 5 (some .int) 2 11 := ⟨⟨gin 1058 (by decide +kernel) rfl, ⟨by decide +kernel, by decide +kernel, by decide +kernel⟩, by decide, gin 92 (by decide +kernel) rfl⟩, gin 1056 (by decide +kernel) rfl, gin 1057 (by decide +kernel) rfl, ⟨TX11, 14, rfl⟩⟩
set_option maxRecDepth 100000 in
theorem mf_X12_all : mV yX12_all cX12_all 5 (some .int) 1 12 := ⟨⟨gin 2091 (by decide +kernel) rfl, ⟨by decide +kernel, by decide +kernel, by decide +kernel⟩, by decide, gin 104 (by decide +kernel) rfl⟩, gin 2089 (by decide +kernel) rfl, gin 2090 (by decide +kernel) rfl, ⟨TX12, 51, rfl⟩⟩
set_option maxRecDepth 100000 in
theorem mf_X12_back : mV yX12_back cX12_back 2 (some .int) 0 12 := ⟨⟨gin 2116 (by decide +kernel) rfl, ⟨by decide +kernel, by decide +kernel, by decide +kernel⟩, by decide, gin 104 (by decide +kernel) rfl⟩, gin 2114 (by decide +kernel) rfl, gin 2115 (by decide +kernel) rfl, ⟨TX12, 51, rfl⟩⟩
set_option maxRecDepth 100000 in
theorem mf_X12_best : mV yX12_best cX12_best 6 (some .int) 2 12 := ⟨⟨gin 2007 (by decide +kernel) rfl, ⟨by decide +kernel, by decide +kernel, by decide +kernel⟩, by decide, gin 104 (by decide +kernel) rfl⟩, gin 2005 (by decide +kernel) rfl, gin 2006 (by decide +kernel) rfl, ⟨TX12, 51, rfl⟩⟩
set_option maxRecDepth 100000 in
theorem mf_X12_bored : mV yX12_bored cX12_bored 2 (some .int) 1 12 := ⟨⟨gin 1851 (by decide +kernel) rfl, ⟨by decide +kernel, by decide +kernel, by decide +kernel⟩, by decide, gin 104 (by decide +kernel) rfl⟩, gin 1849 (by decide +kernel) rfl, gin 1850 (by decide +kernel) rfl, ⟨TX12, 51, rfl⟩⟩
set_option maxRecDepth 100000 in
theorem mf_X12_calms : mV yX12_calms cX12_calms 3 (some .int) 2 12 := ⟨⟨gin 1995 (by decide +kernel) rfl, ⟨by decide +kernel, by decide +kernel, by decide +kernel⟩, by decide, gin 104 (by decide +kernel) rfl⟩, gin 1993 (by decide +kernel) rfl, gin 1994 (by decide +kernel) rfl, ⟨TX12, 51, rfl⟩⟩
set_option maxRecDepth 100000 in
theorem mf_X12_count : mV yX12_count cX12_count 2 (some .int) 1 12 := ⟨⟨gin 2120 (by decide +kernel) rfl, ⟨by decide +kernel, by decide +kernel, by decide +kernel⟩, by decide, gin 104 (by decide +kernel) rfl⟩, gin 2118 (by decide +kernel) rfl, gin 2119 (by decide +kernel) rfl, ⟨TX12, 51, rfl⟩⟩
set_option maxRecDepth 100000 in
theorem mf_X12_end : mV yX12_end cX12_end 2 (some .boolean) 1 12 := ⟨⟨gin 1659 (by decide +kernel) rfl, ⟨by decide +kernel, by decide +kernel, by decide +kernel⟩, by decide, gin 104 (by decide +kernel) rfl⟩, gin 1657 (by decide +kernel) rfl, gin 1658 (by decide +kernel) rfl, ⟨TX12, 51, rfl⟩⟩
set_option maxRecDepth 100000 in
theorem mf_X12_feed : mV yX12_feed cX12_feed 6 (some .int) 5 12 := ⟨⟨gin 1648 (by decide +kernel) rfl, ⟨by decide +kernel, by decide +kernel, by decide +kernel⟩, by decide, gin 104 (by decide +kernel) rfl⟩, gin 1646 (by decide +kernel) rfl, gin 1647 (by decide +kernel) rfl, ⟨TX12, 51, rfl⟩⟩
set_option maxRecDepth 100000 in
theorem mf_X12_game : mV yX12_game cX12_game 7 (some .int) 6 12 := ⟨⟨gin 2058 (by decide +kernel) rfl, ⟨by decide +kernel, by decide +kernel, by decide +kernel⟩, by decide, gin 104 (by decide +kernel) rfl⟩, gin 2056 (by decide +kernel) rfl, gin 2057 (by decide +kernel) rfl, ⟨TX12, 51, rfl⟩⟩
set_option maxRecDepth 100000 in
theorem mf_X12_goes : mV yX12_goes cX12_goes 2 (some .int) 1 12 := ⟨⟨gin 1916 (by decide +kernel) rfl, ⟨by decide +kernel, by decide +kernel, by decide +kernel⟩, by decide, gin 104 (by decide +kernel) rfl⟩, gin 1914 (by decide +kernel) rfl, gin 1915 (by decide +kernel) rfl, ⟨TX12, 51, rfl⟩⟩
set_option maxRecDepth 100000 in
theorem mf_X12_hush : mV yX12_hush cX12_hush 2 (some .boolean) 1 12 := ⟨⟨gin 1859 (by decide +kernel) rfl, ⟨by decide +kernel, by decide +kernel, by decide +kernel⟩, by decide, gin 104 (by decide +kernel) rfl⟩, gin 1857 (by decide +kernel) rfl, gin 1858 (by decide +kernel) rfl, ⟨TX12, 51, rfl⟩⟩
set_option maxRecDepth 100000 in
theorem mf_X12_image : mV yX12_image cX12_image 2 (some .int) 0 12 := ⟨⟨gin 2112 (by decide +kernel) rfl, ⟨by decide +kernel, by decide +kernel, by decide +kernel⟩, by decide, gin 104 (by decide +kernel) rfl⟩, gin 2110 (by decide +kernel) rfl, gin 2111 (by decide +kernel) rfl, ⟨TX12, 51, rfl⟩⟩
set_option maxRecDepth 100000 in
theorem mf_X12_lasts : mV yX12_lasts cX12_lasts 6 (some .int) 1 12 := ⟨⟨gin 2083 (by decide +kernel) rfl, ⟨by decide +kernel, by decide +kernel, by decide +kernel⟩, by decide, gin 104 (by decide +kernel) rfl⟩, gin 2081 (by decide +kernel) rfl, gin 2082 (by decide +kernel) rfl, ⟨TX12, 51, rfl⟩⟩
set_option maxRecDepth 100000 in
theorem mf_X12_law : mV yX12_law cX12_law 2 (some .boolean) 1 12 := ⟨⟨gin 1855 (by decide +kernel) rfl, ⟨by decide +kernel, by decide +kernel, by decide +kernel⟩, by decide, gin 104 (by decide +kernel) rfl⟩, gin 1853 (by decide +kernel) rfl, gin 1854 (by decide +kernel) rfl, ⟨TX12, 51, rfl⟩⟩
set_option maxRecDepth 100000 in
theorem mf_X12_least : mV yX12_least cX12_least 2 (some .int) 1 12 := ⟨⟨gin 1999 (by decide +kernel) rfl, ⟨by decide +kernel, by decide +kernel, by decide +kernel⟩, by decide, gin 104 (by decide +kernel) rfl⟩, gin 1997 (by decide +kernel) rfl, gin 1998 (by decide +kernel) rfl, ⟨TX12, 51, rfl⟩⟩
set_option maxRecDepth 100000 in
theorem mf_X12_left : mV yX12_left cX12_left 2 (some .int) 1 12 := ⟨⟨gin 2108 (by decide +kernel) rfl, ⟨by decide +kernel, by decide +kernel, by decide +kernel⟩, by decide, gin 104 (by decide +kernel) rfl⟩, gin 2106 (by decide +kernel) rfl, gin 2107 (by decide +kernel) rfl, ⟨TX12, 51, rfl⟩⟩
set_option maxRecDepth 100000 in
theorem mf_X12_likes : mV yX12_likes cX12_likes 4 (some .int) 1 12 := ⟨⟨gin 2030 (by decide +kernel) rfl, ⟨by decide +kernel, by decide +kernel, by decide +kernel⟩, by decide, gin 104 (by decide +kernel) rfl⟩, gin 2028 (by decide +kernel) rfl, gin 2029 (by decide +kernel) rfl, ⟨TX12, 51, rfl⟩⟩
set_option maxRecDepth 100000 in
theorem mf_X12_log : mV yX12_log cX12_log 3 (some .int) 2 12 := ⟨⟨gin 1963 (by decide +kernel) rfl, ⟨by decide +kernel, by decide +kernel, by decide +kernel⟩, by decide, gin 104 (by decide +kernel) rfl⟩, gin 1961 (by decide +kernel) rfl, gin 1962 (by decide +kernel) rfl, ⟨TX12, 51, rfl⟩⟩
set_option maxRecDepth 100000 in
theorem mf_X12_milk : mV yX12_milk cX12_milk 1 (some .int) 0 12 := ⟨⟨gin 1909 (by decide +kernel) rfl, ⟨by decide +kernel, by decide +kernel, by decide +kernel⟩, by decide, gin 104 (by decide +kernel) rfl⟩, gin 1907 (by decide +kernel) rfl, gin 1908 (by decide +kernel) rfl, ⟨TX12, 51, rfl⟩⟩
set_option maxRecDepth 100000 in
theorem mf_X12_night : mV yX12_night cX12_night 1 (some .int) 0 12 := ⟨⟨gin 1928 (by decide +kernel) rfl, ⟨by decide +kernel, by decide +kernel, by decide +kernel⟩, by decide, gin 104 (by decide +kernel) rfl⟩, gin 1926 (by decide +kernel) rfl, gin 1927 (by decide +kernel) rfl, ⟨TX12, 51, rfl⟩⟩
set_option maxRecDepth 100000 in
theorem mf_X12_odds : mV yX12_odds cX12_odds 5 (some .int) 2 12 := ⟨⟨gin 2078 (by decide +kernel) rfl, ⟨by decide +kernel, by decide +kernel, by decide +kernel⟩, by decide, gin 104 (by decide +kernel) rfl⟩, gin 2076 (by decide +kernel) rfl, gin 2077 (by decide +kernel) rfl, ⟨TX12, 51, rfl⟩⟩
set_option maxRecDepth 100000 in
theorem mf_X12_pages : mV yX12_pages cX12_pages 4 (some .int) 1 12 := ⟨⟨gin 2104 (by decide +kernel) rfl, ⟨by decide +kernel, by decide +kernel, by decide +kernel⟩, by decide, gin 104 (by decide +kernel) rfl⟩, gin 2102 (by decide +kernel) rfl, gin 2103 (by decide +kernel) rfl, ⟨TX12, 51, rfl⟩⟩
set_option maxRecDepth 100000 in
theorem mf_X12_perform : mV yX12_perform cX12_perform 4 (some .int) 1 12 := ⟨⟨gin 1991 (by decide +kernel) rfl, ⟨by decide +kernel, by decide +kernel, by decide +kernel⟩, by decide, gin 104 (by decide +kernel) rfl⟩, gin 1989 (by decide +kernel) rfl, gin 1990 (by decide +kernel) rfl, ⟨TX12, 51, rfl⟩⟩
set_option maxRecDepth 100000 in
theorem mf_X12_probe : mV yX12_probe cX12_probe 9 (some .int) 2 12 := ⟨⟨gin 2045 (by decide +kernel) rfl, ⟨by decide +kernel, by decide +kernel, by decide +kernel⟩, by decide, gin 104 (by decide +kernel) rfl⟩, gin 2043 (by decide +kernel) rfl, gin 2044 (by decide +kernel) rfl, ⟨TX12, 51, rfl⟩⟩
set_option maxRecDepth 100000 in
theorem mf_X12_quiet : mV yX12_quiet cX12_quiet 3 (some .int) 0 12 := ⟨⟨gin 2087 (by decide +kernel) rfl, ⟨by decide +kernel, by decide +kernel, by decide +kernel⟩, by decide, gin 104 (by decide +kernel) rfl⟩, gin 2085 (by decide +kernel) rfl, gin 2086 (by decide +kernel) rfl, ⟨TX12, 51, rfl⟩⟩
set_option maxRecDepth 100000 in
theorem mf_X12_read : mV yX12_read cX12_read 4 (some .int) 3 12 := ⟨⟨gin 1864 (by decide +kernel) rfl, ⟨by decide +kernel, by decide +kernel, by decide +kernel⟩, by decide, gin 104 (by decide +kernel) rfl⟩, gin 1862 (by decide +kernel) rfl, gin 1863 (by decide +kernel) rfl, ⟨TX12, 51, rfl⟩⟩
set_option maxRecDepth 100000 in
theorem mf_X12_rests : mV yX12_rests cX12_rests 11 (some .int) 4 12 := ⟨⟨gin 2074 (by decide +kernel) rfl, ⟨by decide +kernel, by decide +kernel, by decide +kernel⟩, by decide, gin 104 (by decide +kernel) rfl⟩, gin 2072 (by decide +kernel) rfl, gin 2073 (by decide +kernel) rfl, ⟨TX12, 51, rfl⟩⟩
set_option maxRecDepth 100000 in
theorem mf_X12_roster : mV yX12_roster cX12_roster 3 (some .int) 2 12 := ⟨⟨gin 2011 (by decide +kernel) rfl, ⟨by decide +kernel, by decide +kernel, by decide +kernel⟩, by decide, gin 104 (by decide +kernel) rfl⟩, gin 2009 (by decide +kernel) rfl, gin 2010 (by decide +kernel) rfl, ⟨TX12, 51, rfl⟩⟩
set_option maxRecDepth 100000 in
theorem mf_X12_rule : mV yX12_rule cX12_rule 2 (some .int) 1 12 := ⟨⟨gin 1825 (by decide +kernel) rfl, ⟨by decide +kernel, by decide +kernel, by decide +kernel⟩, by decide, gin 104 (by decide +kernel) rfl⟩, gin 1823 (by decide +kernel) rfl, gin 1824 (by decide +kernel) rfl, ⟨TX12, 51, rfl⟩⟩
set_option maxRecDepth 100000 in
theorem mf_X12_run : mV yX12_run cX12_run 5 (some .int) 2 12 := ⟨⟨gin 1976 (by decide +kernel) rfl, ⟨by decide +kernel, by decide +kernel, by decide +kernel⟩, by decide, gin 104 (by decide +kernel) rfl⟩, gin 1974 (by decide +kernel) rfl, gin 1975 (by decide +kernel) rfl, ⟨TX12, 51, rfl⟩⟩
set_option maxRecDepth 100000 in
theorem mf_X12_seen : mV yX12_seen cX12_seen 7 (some .int) 5 12 := ⟨⟨gin 2025 (by decide +kernel) rfl, ⟨by decide +kernel, by decide +kernel, by decide +kernel⟩, by decide, gin 104 (by decide +kernel) rfl⟩, gin 2023 (by decide +kernel) rfl, gin 2024 (by decide +kernel) rfl, ⟨TX12, 51, rfl⟩⟩
set_option maxRecDepth 100000 in
theorem mf_X12_step : mV yX12_step cX12_step 4 (some .int) 3 12 := ⟨⟨gin 1967 (by decide +kernel) rfl, ⟨by decide +kernel, by decide +kernel, by decide +kernel⟩, by decide, gin 104 (by decide +kernel) rfl⟩, gin 1965 (by decide +kernel) rfl, gin 1966 (by decide +kernel) rfl, ⟨TX12, 51, rfl⟩⟩
set_option maxRecDepth 100000 in
theorem mf_X12_text : mV yX12_text cX12_text 4 (some .int) 1 12 := ⟨⟨gin 1820 (by decide +kernel) rfl, ⟨by decide +kernel, by decide +kernel, by decide +kernel⟩, by decide, gin 104 (by decide +kernel) rfl⟩, gin 1818 (by decide +kernel) rfl, gin 1819 (by decide +kernel) rfl, ⟨TX12, 51, rfl⟩⟩
set_option maxRecDepth 100000 in
theorem mf_X12_tome : mV yX12_tome cX12_tome 3 (some .int) 2 12 := ⟨⟨gin 1829 (by decide +kernel) rfl, ⟨by decide +kernel, by decide +kernel, by decide +kernel⟩, by decide, gin 104 (by decide +kernel) rfl⟩, gin 1827 (by decide +kernel) rfl, gin 1828 (by decide +kernel) rfl, ⟨TX12, 51, rfl⟩⟩
set_option maxRecDepth 100000 in
theorem mf_X12_undo : mV yX12_undo cX12_undo 2 (some .int) 0 12 := ⟨⟨gin 1959 (by decide +kernel) rfl, ⟨by decide +kernel, by decide +kernel, by decide +kernel⟩, by decide, gin 104 (by decide +kernel) rfl⟩, gin 1957 (by decide +kernel) rfl, gin 1958 (by decide +kernel) rfl, ⟨TX12, 51, rfl⟩⟩
set_option maxRecDepth 100000 in
theorem mf_X12_voice : mV yX12_voice cX12_voice 4 (some .int) 2 12 := ⟨⟨gin 1924 (by decide +kernel) rfl, ⟨by decide +kernel, by decide +kernel, by decide +kernel⟩, by decide, gin 104 (by decide +kernel) rfl⟩, gin 1922 (by decide +kernel) rfl, gin 1923 (by decide +kernel) rfl, ⟨TX12, 51, rfl⟩⟩
set_option maxRecDepth 100000 in
theorem mf_X12_which : mV yX12_which cX12_which 5 (some .int) 2 12 := ⟨⟨gin 2050 (by decide +kernel) rfl, ⟨by decide +kernel, by decide +kernel, by decide +kernel⟩, by decide, gin 104 (by decide +kernel) rfl⟩, gin 2048 (by decide +kernel) rfl, gin 2049 (by decide +kernel) rfl, ⟨TX12, 51, rfl⟩⟩
set_option maxRecDepth 100000 in
theorem mf_X12_years : mV yX12_years cX12_years 6 (some .int) 2 12 := ⟨⟨gin 1944 (by decide +kernel) rfl, ⟨by decide +kernel, by decide +kernel, by decide +kernel⟩, by decide, gin 104 (by decide +kernel) rfl⟩, gin 1942 (by decide +kernel) rfl, gin 1943 (by decide +kernel) rfl, ⟨TX12, 51, rfl⟩⟩
theorem dL_law_216 : decode cL_law 216 = .ok (.aload_n 1, 1) := by decide +kernel
theorem dL_law_217 : decode cL_law 217 = .ok (.aload_n 0, 1) := by decide +kernel
theorem dL_law_218 : decode cL_law 218 = .ok (.iload 4, 2) := by decide +kernel
theorem dL_law_220 : decode cL_law 220 = .ok (.iconst 1, 1) := by decide +kernel
theorem dL_law_221 : decode cL_law 221 = .ok (.iadd, 1) := by decide +kernel
theorem dL_law_222 : decode cL_law 222 = .ok (.iaload, 1) := by decide +kernel
theorem dL_law_223 : decode cL_law 223 = .ok (.aload_n 0, 1) := by decide +kernel
theorem dL_law_224 : decode cL_law 224 = .ok (.iload 4, 2) := by decide +kernel
theorem dL_law_226 : decode cL_law 226 = .ok (.iconst 2, 1) := by decide +kernel
theorem dL_law_227 : decode cL_law 227 = .ok (.iadd, 1) := by decide +kernel
theorem dL_law_228 : decode cL_law 228 = .ok (.iaload, 1) := by decide +kernel
theorem dL_law_229 : decode cL_law 229 = .ok (.aload_n 0, 1) := by decide +kernel
theorem dL_law_230 : decode cL_law 230 = .ok (.iload 4, 2) := by decide +kernel
theorem dL_law_232 : decode cL_law 232 = .ok (.iconst 3, 1) := by decide +kernel
theorem dL_law_233 : decode cL_law 233 = .ok (.iadd, 1) := by decide +kernel
theorem dL_law_234 : decode cL_law 234 = .ok (.iaload, 1) := by decide +kernel
theorem dL_law_235 : decode cL_law 235 = .ok (.aload_n 0, 1) := by decide +kernel
theorem dL_law_236 : decode cL_law 236 = .ok (.iload 4, 2) := by decide +kernel
theorem dL_law_238 : decode cL_law 238 = .ok (.iconst 4, 1) := by decide +kernel
theorem dL_law_239 : decode cL_law 239 = .ok (.iadd, 1) := by decide +kernel
theorem dL_law_240 : decode cL_law 240 = .ok (.iaload, 1) := by decide +kernel
theorem dL_law_241 : decode cL_law 241 = .ok (.aload_n 0, 1) := by decide +kernel
theorem dL_law_242 : decode cL_law 242 = .ok (.iload 4, 2) := by decide +kernel
theorem dL_law_244 : decode cL_law 244 = .ok (.iconst 5, 1) := by decide +kernel
theorem dL_law_245 : decode cL_law 245 = .ok (.iadd, 1) := by decide +kernel
theorem dL_law_246 : decode cL_law 246 = .ok (.iaload, 1) := by decide +kernel
theorem dL_law_247 : decode cL_law 247 = .ok (.invokevirtual 19, 3) := by decide +kernel
theorem dL_law_250 : decode cL_law 250 = .ok (.aload_n 2, 1) := by decide +kernel
theorem dL_law_251 : decode cL_law 251 = .ok (.aload_n 0, 1) := by decide +kernel
theorem dL_law_252 : decode cL_law 252 = .ok (.iload 4, 2) := by decide +kernel
theorem dL_law_254 : decode cL_law 254 = .ok (.iconst 1, 1) := by decide +kernel
theorem dL_law_255 : decode cL_law 255 = .ok (.iadd, 1) := by decide +kernel
theorem dL_law_256 : decode cL_law 256 = .ok (.iaload, 1) := by decide +kernel
theorem dL_law_257 : decode cL_law 257 = .ok (.aload_n 0, 1) := by decide +kernel
theorem dL_law_258 : decode cL_law 258 = .ok (.iload 4, 2) := by decide +kernel
theorem dL_law_260 : decode cL_law 260 = .ok (.iconst 2, 1) := by decide +kernel
theorem dL_law_261 : decode cL_law 261 = .ok (.iadd, 1) := by decide +kernel
theorem dL_law_262 : decode cL_law 262 = .ok (.iaload, 1) := by decide +kernel
theorem dL_law_263 : decode cL_law 263 = .ok (.aload_n 0, 1) := by decide +kernel
theorem dL_law_264 : decode cL_law 264 = .ok (.iload 4, 2) := by decide +kernel
theorem dL_law_266 : decode cL_law 266 = .ok (.iconst 3, 1) := by decide +kernel
theorem dL_law_267 : decode cL_law 267 = .ok (.iadd, 1) := by decide +kernel
theorem dL_law_268 : decode cL_law 268 = .ok (.iaload, 1) := by decide +kernel
theorem dL_law_269 : decode cL_law 269 = .ok (.aload_n 0, 1) := by decide +kernel
theorem dL_law_270 : decode cL_law 270 = .ok (.iload 4, 2) := by decide +kernel
theorem dL_law_272 : decode cL_law 272 = .ok (.iconst 4, 1) := by decide +kernel
theorem dL_law_273 : decode cL_law 273 = .ok (.iadd, 1) := by decide +kernel
theorem dL_law_274 : decode cL_law 274 = .ok (.iaload, 1) := by decide +kernel
theorem dL_law_275 : decode cL_law 275 = .ok (.aload_n 0, 1) := by decide +kernel
theorem dL_law_276 : decode cL_law 276 = .ok (.iload 4, 2) := by decide +kernel
theorem dL_law_278 : decode cL_law 278 = .ok (.iconst 5, 1) := by decide +kernel
theorem dL_law_279 : decode cL_law 279 = .ok (.iadd, 1) := by decide +kernel
theorem dL_law_280 : decode cL_law 280 = .ok (.iaload, 1) := by decide +kernel
theorem dL_law_281 : decode cL_law 281 = .ok (.invokevirtual 23, 3) := by decide +kernel
theorem dL_law_284 : decode cL_law 284 = .ok (.if_icmp .eq 1341, 3) := by decide +kernel
theorem dL_law_289 : decode cL_law 289 = .ok (.aload_n 1, 1) := by decide +kernel
theorem dL_law_290 : decode cL_law 290 = .ok (.aload_n 0, 1) := by decide +kernel
theorem dL_law_291 : decode cL_law 291 = .ok (.iload 4, 2) := by decide +kernel
theorem dL_law_293 : decode cL_law 293 = .ok (.iconst 1, 1) := by decide +kernel
theorem dL_law_294 : decode cL_law 294 = .ok (.iadd, 1) := by decide +kernel
theorem dL_law_295 : decode cL_law 295 = .ok (.iaload, 1) := by decide +kernel
theorem dL_law_296 : decode cL_law 296 = .ok (.invokevirtual 24, 3) := by decide +kernel
theorem dL_law_299 : decode cL_law 299 = .ok (.aload_n 2, 1) := by decide +kernel
theorem dL_law_300 : decode cL_law 300 = .ok (.aload_n 0, 1) := by decide +kernel
theorem dL_law_301 : decode cL_law 301 = .ok (.iload 4, 2) := by decide +kernel
theorem dL_law_303 : decode cL_law 303 = .ok (.iconst 1, 1) := by decide +kernel
theorem dL_law_304 : decode cL_law 304 = .ok (.iadd, 1) := by decide +kernel
theorem dL_law_305 : decode cL_law 305 = .ok (.iaload, 1) := by decide +kernel
theorem dL_law_306 : decode cL_law 306 = .ok (.invokevirtual 28, 3) := by decide +kernel
theorem dL_law_309 : decode cL_law 309 = .ok (.if_icmp .eq 1316, 3) := by decide +kernel
theorem dL_law_314 : decode cL_law 314 = .ok (.aload_n 1, 1) := by decide +kernel
theorem dL_law_315 : decode cL_law 315 = .ok (.aload_n 0, 1) := by decide +kernel
theorem dL_law_316 : decode cL_law 316 = .ok (.iload 4, 2) := by decide +kernel
theorem dL_law_318 : decode cL_law 318 = .ok (.iconst 1, 1) := by decide +kernel
theorem dL_law_319 : decode cL_law 319 = .ok (.iadd, 1) := by decide +kernel
theorem dL_law_320 : decode cL_law 320 = .ok (.iaload, 1) := by decide +kernel
theorem dL_law_321 : decode cL_law 321 = .ok (.invokevirtual 29, 3) := by decide +kernel
theorem dL_law_324 : decode cL_law 324 = .ok (.aload_n 2, 1) := by decide +kernel
theorem dL_law_325 : decode cL_law 325 = .ok (.aload_n 0, 1) := by decide +kernel
theorem dL_law_326 : decode cL_law 326 = .ok (.iload 4, 2) := by decide +kernel
theorem dL_law_328 : decode cL_law 328 = .ok (.iconst 1, 1) := by decide +kernel
theorem dL_law_329 : decode cL_law 329 = .ok (.iadd, 1) := by decide +kernel
theorem dL_law_330 : decode cL_law 330 = .ok (.iaload, 1) := by decide +kernel
theorem dL_law_331 : decode cL_law 331 = .ok (.invokevirtual 33, 3) := by decide +kernel
theorem dL_law_334 : decode cL_law 334 = .ok (.if_icmp .eq 1291, 3) := by decide +kernel
theorem dL_law_339 : decode cL_law 339 = .ok (.aload_n 1, 1) := by decide +kernel
theorem dL_law_340 : decode cL_law 340 = .ok (.aload_n 0, 1) := by decide +kernel
theorem dL_law_341 : decode cL_law 341 = .ok (.iload 4, 2) := by decide +kernel
theorem dL_law_343 : decode cL_law 343 = .ok (.iconst 1, 1) := by decide +kernel
theorem dL_law_344 : decode cL_law 344 = .ok (.iadd, 1) := by decide +kernel
theorem dL_law_345 : decode cL_law 345 = .ok (.iaload, 1) := by decide +kernel
theorem dL_law_346 : decode cL_law 346 = .ok (.invokevirtual 34, 3) := by decide +kernel
theorem dL_law_349 : decode cL_law 349 = .ok (.aload_n 2, 1) := by decide +kernel
theorem dL_law_350 : decode cL_law 350 = .ok (.aload_n 0, 1) := by decide +kernel
theorem dL_law_351 : decode cL_law 351 = .ok (.iload 4, 2) := by decide +kernel
theorem dL_law_353 : decode cL_law 353 = .ok (.iconst 1, 1) := by decide +kernel
theorem dL_law_354 : decode cL_law 354 = .ok (.iadd, 1) := by decide +kernel
theorem dL_law_355 : decode cL_law 355 = .ok (.iaload, 1) := by decide +kernel
theorem dL_law_356 : decode cL_law 356 = .ok (.invokevirtual 37, 3) := by decide +kernel
theorem dL_law_359 : decode cL_law 359 = .ok (.if_icmp .eq 1266, 3) := by decide +kernel
theorem dL_law_364 : decode cL_law 364 = .ok (.aload_n 1, 1) := by decide +kernel
theorem dL_law_365 : decode cL_law 365 = .ok (.aload_n 0, 1) := by decide +kernel
theorem dL_law_366 : decode cL_law 366 = .ok (.iload 4, 2) := by decide +kernel
theorem dL_law_368 : decode cL_law 368 = .ok (.iconst 1, 1) := by decide +kernel
theorem dL_law_369 : decode cL_law 369 = .ok (.iadd, 1) := by decide +kernel
theorem dL_law_370 : decode cL_law 370 = .ok (.iaload, 1) := by decide +kernel
theorem dL_law_371 : decode cL_law 371 = .ok (.invokevirtual 38, 3) := by decide +kernel
theorem dL_law_374 : decode cL_law 374 = .ok (.aload_n 2, 1) := by decide +kernel
theorem dL_law_375 : decode cL_law 375 = .ok (.aload_n 0, 1) := by decide +kernel
theorem dL_law_376 : decode cL_law 376 = .ok (.iload 4, 2) := by decide +kernel
theorem dL_law_378 : decode cL_law 378 = .ok (.iconst 1, 1) := by decide +kernel
theorem dL_law_379 : decode cL_law 379 = .ok (.iadd, 1) := by decide +kernel
theorem dL_law_380 : decode cL_law 380 = .ok (.iaload, 1) := by decide +kernel
theorem dL_law_381 : decode cL_law 381 = .ok (.invokevirtual 41, 3) := by decide +kernel
theorem dL_law_384 : decode cL_law 384 = .ok (.if_icmp .eq 1241, 3) := by decide +kernel
theorem dL_law_389 : decode cL_law 389 = .ok (.aload_n 1, 1) := by decide +kernel
theorem dL_law_390 : decode cL_law 390 = .ok (.aload_n 0, 1) := by decide +kernel
theorem dL_law_391 : decode cL_law 391 = .ok (.iload 4, 2) := by decide +kernel
theorem dL_law_393 : decode cL_law 393 = .ok (.iconst 1, 1) := by decide +kernel
theorem dL_law_394 : decode cL_law 394 = .ok (.iadd, 1) := by decide +kernel
theorem dL_law_395 : decode cL_law 395 = .ok (.iaload, 1) := by decide +kernel
theorem dL_law_396 : decode cL_law 396 = .ok (.aload_n 0, 1) := by decide +kernel
theorem dL_law_397 : decode cL_law 397 = .ok (.iload 4, 2) := by decide +kernel
theorem dL_law_399 : decode cL_law 399 = .ok (.iconst 2, 1) := by decide +kernel
theorem dL_law_400 : decode cL_law 400 = .ok (.iadd, 1) := by decide +kernel
theorem dL_law_401 : decode cL_law 401 = .ok (.iaload, 1) := by decide +kernel
theorem dL_law_402 : decode cL_law 402 = .ok (.invokevirtual 42, 3) := by decide +kernel
theorem dL_law_405 : decode cL_law 405 = .ok (.aload_n 2, 1) := by decide +kernel
theorem dL_law_406 : decode cL_law 406 = .ok (.aload_n 0, 1) := by decide +kernel
theorem dL_law_407 : decode cL_law 407 = .ok (.iload 4, 2) := by decide +kernel
theorem dL_law_409 : decode cL_law 409 = .ok (.iconst 1, 1) := by decide +kernel
theorem dL_law_410 : decode cL_law 410 = .ok (.iadd, 1) := by decide +kernel
theorem dL_law_411 : decode cL_law 411 = .ok (.iaload, 1) := by decide +kernel
theorem dL_law_412 : decode cL_law 412 = .ok (.aload_n 0, 1) := by decide +kernel
theorem dL_law_413 : decode cL_law 413 = .ok (.iload 4, 2) := by decide +kernel
theorem dL_law_415 : decode cL_law 415 = .ok (.iconst 2, 1) := by decide +kernel
theorem dL_law_416 : decode cL_law 416 = .ok (.iadd, 1) := by decide +kernel
theorem dL_law_417 : decode cL_law 417 = .ok (.iaload, 1) := by decide +kernel
theorem dL_law_418 : decode cL_law 418 = .ok (.invokevirtual 45, 3) := by decide +kernel
theorem dL_law_421 : decode cL_law 421 = .ok (.if_icmp .eq 1204, 3) := by decide +kernel
theorem dL_law_494 : decode cL_law 494 = .ok (.aload_n 1, 1) := by decide +kernel
theorem dL_law_495 : decode cL_law 495 = .ok (.aload_n 0, 1) := by decide +kernel
theorem dL_law_496 : decode cL_law 496 = .ok (.iload 4, 2) := by decide +kernel
theorem dL_law_498 : decode cL_law 498 = .ok (.iconst 1, 1) := by decide +kernel
theorem dL_law_499 : decode cL_law 499 = .ok (.iadd, 1) := by decide +kernel
theorem dL_law_500 : decode cL_law 500 = .ok (.iaload, 1) := by decide +kernel
theorem dL_law_501 : decode cL_law 501 = .ok (.invokevirtual 56, 3) := by decide +kernel
theorem dL_law_504 : decode cL_law 504 = .ok (.aload_n 2, 1) := by decide +kernel
theorem dL_law_505 : decode cL_law 505 = .ok (.aload_n 0, 1) := by decide +kernel
theorem dL_law_506 : decode cL_law 506 = .ok (.iload 4, 2) := by decide +kernel
theorem dL_law_508 : decode cL_law 508 = .ok (.iconst 1, 1) := by decide +kernel
theorem dL_law_509 : decode cL_law 509 = .ok (.iadd, 1) := by decide +kernel
theorem dL_law_510 : decode cL_law 510 = .ok (.iaload, 1) := by decide +kernel
theorem dL_law_511 : decode cL_law 511 = .ok (.invokevirtual 59, 3) := by decide +kernel
theorem dL_law_514 : decode cL_law 514 = .ok (.if_icmp .eq 1111, 3) := by decide +kernel
theorem dL_law_519 : decode cL_law 519 = .ok (.aload_n 1, 1) := by decide +kernel
theorem dL_law_520 : decode cL_law 520 = .ok (.aload_n 0, 1) := by decide +kernel
theorem dL_law_521 : decode cL_law 521 = .ok (.iload 4, 2) := by decide +kernel
theorem dL_law_523 : decode cL_law 523 = .ok (.iconst 1, 1) := by decide +kernel
theorem dL_law_524 : decode cL_law 524 = .ok (.iadd, 1) := by decide +kernel
theorem dL_law_525 : decode cL_law 525 = .ok (.iaload, 1) := by decide +kernel
theorem dL_law_526 : decode cL_law 526 = .ok (.invokevirtual 60, 3) := by decide +kernel
theorem dL_law_529 : decode cL_law 529 = .ok (.aload_n 2, 1) := by decide +kernel
theorem dL_law_530 : decode cL_law 530 = .ok (.aload_n 0, 1) := by decide +kernel
theorem dL_law_531 : decode cL_law 531 = .ok (.iload 4, 2) := by decide +kernel
theorem dL_law_533 : decode cL_law 533 = .ok (.iconst 1, 1) := by decide +kernel
theorem dL_law_534 : decode cL_law 534 = .ok (.iadd, 1) := by decide +kernel
theorem dL_law_535 : decode cL_law 535 = .ok (.iaload, 1) := by decide +kernel
theorem dL_law_536 : decode cL_law 536 = .ok (.invokevirtual 63, 3) := by decide +kernel
theorem dL_law_539 : decode cL_law 539 = .ok (.if_icmp .eq 1086, 3) := by decide +kernel
theorem dL_law_544 : decode cL_law 544 = .ok (.aload_n 1, 1) := by decide +kernel
theorem dL_law_545 : decode cL_law 545 = .ok (.aload_n 0, 1) := by decide +kernel
theorem dL_law_546 : decode cL_law 546 = .ok (.iload 4, 2) := by decide +kernel
theorem dL_law_548 : decode cL_law 548 = .ok (.iconst 1, 1) := by decide +kernel
theorem dL_law_549 : decode cL_law 549 = .ok (.iadd, 1) := by decide +kernel
theorem dL_law_550 : decode cL_law 550 = .ok (.iaload, 1) := by decide +kernel
theorem dL_law_551 : decode cL_law 551 = .ok (.invokevirtual 64, 3) := by decide +kernel
theorem dL_law_554 : decode cL_law 554 = .ok (.aload_n 2, 1) := by decide +kernel
theorem dL_law_555 : decode cL_law 555 = .ok (.aload_n 0, 1) := by decide +kernel
theorem dL_law_556 : decode cL_law 556 = .ok (.iload 4, 2) := by decide +kernel
theorem dL_law_558 : decode cL_law 558 = .ok (.iconst 1, 1) := by decide +kernel
theorem dL_law_559 : decode cL_law 559 = .ok (.iadd, 1) := by decide +kernel
theorem dL_law_560 : decode cL_law 560 = .ok (.iaload, 1) := by decide +kernel
theorem dL_law_561 : decode cL_law 561 = .ok (.invokevirtual 67, 3) := by decide +kernel
theorem dL_law_564 : decode cL_law 564 = .ok (.if_icmp .eq 1061, 3) := by decide +kernel
theorem dL_law_569 : decode cL_law 569 = .ok (.aload_n 1, 1) := by decide +kernel
theorem dL_law_570 : decode cL_law 570 = .ok (.aload_n 0, 1) := by decide +kernel
theorem dL_law_571 : decode cL_law 571 = .ok (.iload 4, 2) := by decide +kernel
theorem dL_law_573 : decode cL_law 573 = .ok (.iconst 1, 1) := by decide +kernel
theorem dL_law_574 : decode cL_law 574 = .ok (.iadd, 1) := by decide +kernel
theorem dL_law_575 : decode cL_law 575 = .ok (.iaload, 1) := by decide +kernel
theorem dL_law_576 : decode cL_law 576 = .ok (.aload_n 0, 1) := by decide +kernel
theorem dL_law_577 : decode cL_law 577 = .ok (.iload 4, 2) := by decide +kernel
theorem dL_law_579 : decode cL_law 579 = .ok (.iconst 2, 1) := by decide +kernel
theorem dL_law_580 : decode cL_law 580 = .ok (.iadd, 1) := by decide +kernel
theorem dL_law_581 : decode cL_law 581 = .ok (.iaload, 1) := by decide +kernel
theorem dL_law_582 : decode cL_law 582 = .ok (.aload_n 0, 1) := by decide +kernel
theorem dL_law_583 : decode cL_law 583 = .ok (.iload 4, 2) := by decide +kernel
theorem dL_law_585 : decode cL_law 585 = .ok (.iconst 3, 1) := by decide +kernel
theorem dL_law_586 : decode cL_law 586 = .ok (.iadd, 1) := by decide +kernel
theorem dL_law_587 : decode cL_law 587 = .ok (.iaload, 1) := by decide +kernel
theorem dL_law_588 : decode cL_law 588 = .ok (.ifCond .eq 7, 3) := by decide +kernel
theorem dL_law_591 : decode cL_law 591 = .ok (.iconst 1, 1) := by decide +kernel
theorem dL_law_592 : decode cL_law 592 = .ok (.goto 4, 3) := by decide +kernel
theorem dL_law_595 : decode cL_law 595 = .ok (.iconst 0, 1) := by decide +kernel
theorem dL_law_596 : decode cL_law 596 = .ok (.invokevirtual 68, 3) := by decide +kernel
theorem dL_law_599 : decode cL_law 599 = .ok (.aload_n 2, 1) := by decide +kernel
theorem dL_law_600 : decode cL_law 600 = .ok (.aload_n 0, 1) := by decide +kernel
theorem dL_law_601 : decode cL_law 601 = .ok (.iload 4, 2) := by decide +kernel
theorem dL_law_603 : decode cL_law 603 = .ok (.iconst 1, 1) := by decide +kernel
theorem dL_law_604 : decode cL_law 604 = .ok (.iadd, 1) := by decide +kernel
theorem dL_law_605 : decode cL_law 605 = .ok (.iaload, 1) := by decide +kernel
theorem dL_law_606 : decode cL_law 606 = .ok (.aload_n 0, 1) := by decide +kernel
theorem dL_law_607 : decode cL_law 607 = .ok (.iload 4, 2) := by decide +kernel
theorem dL_law_609 : decode cL_law 609 = .ok (.iconst 2, 1) := by decide +kernel
theorem dL_law_610 : decode cL_law 610 = .ok (.iadd, 1) := by decide +kernel
theorem dL_law_611 : decode cL_law 611 = .ok (.iaload, 1) := by decide +kernel
theorem dL_law_612 : decode cL_law 612 = .ok (.aload_n 0, 1) := by decide +kernel
theorem dL_law_613 : decode cL_law 613 = .ok (.iload 4, 2) := by decide +kernel
theorem dL_law_615 : decode cL_law 615 = .ok (.iconst 3, 1) := by decide +kernel
theorem dL_law_616 : decode cL_law 616 = .ok (.iadd, 1) := by decide +kernel
theorem dL_law_617 : decode cL_law 617 = .ok (.iaload, 1) := by decide +kernel
theorem dL_law_618 : decode cL_law 618 = .ok (.ifCond .eq 7, 3) := by decide +kernel
theorem dL_law_621 : decode cL_law 621 = .ok (.iconst 1, 1) := by decide +kernel
theorem dL_law_622 : decode cL_law 622 = .ok (.goto 4, 3) := by decide +kernel
theorem dL_law_625 : decode cL_law 625 = .ok (.iconst 0, 1) := by decide +kernel
theorem dL_law_626 : decode cL_law 626 = .ok (.invokevirtual 72, 3) := by decide +kernel
theorem dL_law_629 : decode cL_law 629 = .ok (.if_icmp .eq 996, 3) := by decide +kernel
theorem dL_law_634 : decode cL_law 634 = .ok (.aload_n 1, 1) := by decide +kernel
theorem dL_law_635 : decode cL_law 635 = .ok (.invokevirtual 73, 3) := by decide +kernel
theorem dL_law_638 : decode cL_law 638 = .ok (.aload_n 2, 1) := by decide +kernel
theorem dL_law_639 : decode cL_law 639 = .ok (.invokevirtual 76, 3) := by decide +kernel
theorem dL_law_642 : decode cL_law 642 = .ok (.if_icmp .eq 983, 3) := by decide +kernel
theorem dL_law_647 : decode cL_law 647 = .ok (.aload_n 1, 1) := by decide +kernel
theorem dL_law_648 : decode cL_law 648 = .ok (.aload_n 0, 1) := by decide +kernel
theorem dL_law_649 : decode cL_law 649 = .ok (.iload 4, 2) := by decide +kernel
theorem dL_law_651 : decode cL_law 651 = .ok (.iconst 1, 1) := by decide +kernel
theorem dL_law_652 : decode cL_law 652 = .ok (.iadd, 1) := by decide +kernel
theorem dL_law_653 : decode cL_law 653 = .ok (.iaload, 1) := by decide +kernel
theorem dL_law_654 : decode cL_law 654 = .ok (.invokevirtual 77, 3) := by decide +kernel
theorem dL_law_657 : decode cL_law 657 = .ok (.aload_n 2, 1) := by decide +kernel
theorem dL_law_658 : decode cL_law 658 = .ok (.aload_n 0, 1) := by decide +kernel
theorem dL_law_659 : decode cL_law 659 = .ok (.iload 4, 2) := by decide +kernel
theorem dL_law_661 : decode cL_law 661 = .ok (.iconst 1, 1) := by decide +kernel
theorem dL_law_662 : decode cL_law 662 = .ok (.iadd, 1) := by decide +kernel
theorem dL_law_663 : decode cL_law 663 = .ok (.iaload, 1) := by decide +kernel
theorem dL_law_664 : decode cL_law 664 = .ok (.invokevirtual 80, 3) := by decide +kernel
theorem dL_law_667 : decode cL_law 667 = .ok (.if_icmp .eq 958, 3) := by decide +kernel
theorem dL_law_672 : decode cL_law 672 = .ok (.aload_n 1, 1) := by decide +kernel
theorem dL_law_673 : decode cL_law 673 = .ok (.aload_n 0, 1) := by decide +kernel
theorem dL_law_674 : decode cL_law 674 = .ok (.iload 4, 2) := by decide +kernel
theorem dL_law_676 : decode cL_law 676 = .ok (.iconst 1, 1) := by decide +kernel
theorem dL_law_677 : decode cL_law 677 = .ok (.iadd, 1) := by decide +kernel
theorem dL_law_678 : decode cL_law 678 = .ok (.iaload, 1) := by decide +kernel
theorem dL_law_679 : decode cL_law 679 = .ok (.aload_n 0, 1) := by decide +kernel
theorem dL_law_680 : decode cL_law 680 = .ok (.iload 4, 2) := by decide +kernel
theorem dL_law_682 : decode cL_law 682 = .ok (.iconst 2, 1) := by decide +kernel
theorem dL_law_683 : decode cL_law 683 = .ok (.iadd, 1) := by decide +kernel
theorem dL_law_684 : decode cL_law 684 = .ok (.iaload, 1) := by decide +kernel
theorem dL_law_685 : decode cL_law 685 = .ok (.invokevirtual 81, 3) := by decide +kernel
theorem dL_law_688 : decode cL_law 688 = .ok (.aload_n 2, 1) := by decide +kernel
theorem dL_law_689 : decode cL_law 689 = .ok (.aload_n 0, 1) := by decide +kernel
theorem dL_law_690 : decode cL_law 690 = .ok (.iload 4, 2) := by decide +kernel
theorem dL_law_692 : decode cL_law 692 = .ok (.iconst 1, 1) := by decide +kernel
theorem dL_law_693 : decode cL_law 693 = .ok (.iadd, 1) := by decide +kernel
theorem dL_law_694 : decode cL_law 694 = .ok (.iaload, 1) := by decide +kernel
theorem dL_law_695 : decode cL_law 695 = .ok (.aload_n 0, 1) := by decide +kernel
theorem dL_law_696 : decode cL_law 696 = .ok (.iload 4, 2) := by decide +kernel
theorem dL_law_698 : decode cL_law 698 = .ok (.iconst 2, 1) := by decide +kernel
theorem dL_law_699 : decode cL_law 699 = .ok (.iadd, 1) := by decide +kernel
theorem dL_law_700 : decode cL_law 700 = .ok (.iaload, 1) := by decide +kernel
theorem dL_law_701 : decode cL_law 701 = .ok (.invokevirtual 84, 3) := by decide +kernel
theorem dL_law_704 : decode cL_law 704 = .ok (.if_icmp .eq 921, 3) := by decide +kernel
theorem dL_law_709 : decode cL_law 709 = .ok (.aload_n 1, 1) := by decide +kernel
theorem dL_law_710 : decode cL_law 710 = .ok (.invokevirtual 85, 3) := by decide +kernel
theorem dL_law_713 : decode cL_law 713 = .ok (.aload_n 2, 1) := by decide +kernel
theorem dL_law_714 : decode cL_law 714 = .ok (.invokevirtual 88, 3) := by decide +kernel
theorem dL_law_717 : decode cL_law 717 = .ok (.if_icmp .eq 908, 3) := by decide +kernel
theorem dL_law_722 : decode cL_law 722 = .ok (.aload_n 1, 1) := by decide +kernel
theorem dL_law_723 : decode cL_law 723 = .ok (.aload_n 0, 1) := by decide +kernel
theorem dL_law_724 : decode cL_law 724 = .ok (.iload 4, 2) := by decide +kernel
theorem dL_law_726 : decode cL_law 726 = .ok (.iconst 1, 1) := by decide +kernel
theorem dL_law_727 : decode cL_law 727 = .ok (.iadd, 1) := by decide +kernel
theorem dL_law_728 : decode cL_law 728 = .ok (.iaload, 1) := by decide +kernel
theorem dL_law_729 : decode cL_law 729 = .ok (.aload_n 0, 1) := by decide +kernel
theorem dL_law_730 : decode cL_law 730 = .ok (.iload 4, 2) := by decide +kernel
theorem dL_law_732 : decode cL_law 732 = .ok (.iconst 2, 1) := by decide +kernel
theorem dL_law_733 : decode cL_law 733 = .ok (.iadd, 1) := by decide +kernel
theorem dL_law_734 : decode cL_law 734 = .ok (.iaload, 1) := by decide +kernel
theorem dL_law_735 : decode cL_law 735 = .ok (.i2l, 1) := by decide +kernel
theorem dL_law_736 : decode cL_law 736 = .ok (.bipush 32, 2) := by decide +kernel
theorem dL_law_738 : decode cL_law 738 = .ok (.lshl, 1) := by decide +kernel
theorem dL_law_739 : decode cL_law 739 = .ok (.aload_n 0, 1) := by decide +kernel
theorem dL_law_740 : decode cL_law 740 = .ok (.iload 4, 2) := by decide +kernel
theorem dL_law_742 : decode cL_law 742 = .ok (.iconst 3, 1) := by decide +kernel
theorem dL_law_743 : decode cL_law 743 = .ok (.iadd, 1) := by decide +kernel
theorem dL_law_744 : decode cL_law 744 = .ok (.iaload, 1) := by decide +kernel
theorem dL_law_745 : decode cL_law 745 = .ok (.i2l, 1) := by decide +kernel
theorem dL_law_746 : decode cL_law 746 = .ok (.ldc2_w 89, 3) := by decide +kernel
theorem dL_law_749 : decode cL_law 749 = .ok (.land, 1) := by decide +kernel
theorem dL_law_750 : decode cL_law 750 = .ok (.lor, 1) := by decide +kernel
theorem dL_law_751 : decode cL_law 751 = .ok (.invokevirtual 91, 3) := by decide +kernel
theorem dL_law_754 : decode cL_law 754 = .ok (.aload_n 2, 1) := by decide +kernel
theorem dL_law_755 : decode cL_law 755 = .ok (.aload_n 0, 1) := by decide +kernel
theorem dL_law_756 : decode cL_law 756 = .ok (.iload 4, 2) := by decide +kernel
theorem dL_law_758 : decode cL_law 758 = .ok (.iconst 1, 1) := by decide +kernel
theorem dL_law_759 : decode cL_law 759 = .ok (.iadd, 1) := by decide +kernel
theorem dL_law_760 : decode cL_law 760 = .ok (.iaload, 1) := by decide +kernel
theorem dL_law_761 : decode cL_law 761 = .ok (.aload_n 0, 1) := by decide +kernel
theorem dL_law_762 : decode cL_law 762 = .ok (.iload 4, 2) := by decide +kernel
theorem dL_law_764 : decode cL_law 764 = .ok (.iconst 2, 1) := by decide +kernel
theorem dL_law_765 : decode cL_law 765 = .ok (.iadd, 1) := by decide +kernel
theorem dL_law_766 : decode cL_law 766 = .ok (.iaload, 1) := by decide +kernel
theorem dL_law_767 : decode cL_law 767 = .ok (.i2l, 1) := by decide +kernel
theorem dL_law_768 : decode cL_law 768 = .ok (.bipush 32, 2) := by decide +kernel
theorem dL_law_770 : decode cL_law 770 = .ok (.lshl, 1) := by decide +kernel
theorem dL_law_771 : decode cL_law 771 = .ok (.aload_n 0, 1) := by decide +kernel
theorem dL_law_772 : decode cL_law 772 = .ok (.iload 4, 2) := by decide +kernel
theorem dL_law_774 : decode cL_law 774 = .ok (.iconst 3, 1) := by decide +kernel
theorem dL_law_775 : decode cL_law 775 = .ok (.iadd, 1) := by decide +kernel
theorem dL_law_776 : decode cL_law 776 = .ok (.iaload, 1) := by decide +kernel
theorem dL_law_777 : decode cL_law 777 = .ok (.i2l, 1) := by decide +kernel
theorem dL_law_778 : decode cL_law 778 = .ok (.ldc2_w 89, 3) := by decide +kernel
theorem dL_law_781 : decode cL_law 781 = .ok (.land, 1) := by decide +kernel
theorem dL_law_782 : decode cL_law 782 = .ok (.lor, 1) := by decide +kernel
theorem dL_law_783 : decode cL_law 783 = .ok (.invokevirtual 95, 3) := by decide +kernel
theorem dL_law_786 : decode cL_law 786 = .ok (.if_icmp .eq 839, 3) := by decide +kernel
theorem dL_law_791 : decode cL_law 791 = .ok (.aload_n 1, 1) := by decide +kernel
theorem dL_law_792 : decode cL_law 792 = .ok (.invokevirtual 96, 3) := by decide +kernel
theorem dL_law_795 : decode cL_law 795 = .ok (.aload_n 2, 1) := by decide +kernel
theorem dL_law_796 : decode cL_law 796 = .ok (.invokevirtual 99, 3) := by decide +kernel
theorem dL_law_799 : decode cL_law 799 = .ok (.if_icmp .eq 826, 3) := by decide +kernel
theorem dL_law_804 : decode cL_law 804 = .ok (.aload_n 1, 1) := by decide +kernel
theorem dL_law_805 : decode cL_law 805 = .ok (.aload_n 0, 1) := by decide +kernel
theorem dL_law_806 : decode cL_law 806 = .ok (.iload 4, 2) := by decide +kernel
theorem dL_law_808 : decode cL_law 808 = .ok (.iconst 1, 1) := by decide +kernel
theorem dL_law_809 : decode cL_law 809 = .ok (.iadd, 1) := by decide +kernel
theorem dL_law_810 : decode cL_law 810 = .ok (.iaload, 1) := by decide +kernel
theorem dL_law_811 : decode cL_law 811 = .ok (.aload_n 0, 1) := by decide +kernel
theorem dL_law_812 : decode cL_law 812 = .ok (.iload 4, 2) := by decide +kernel
theorem dL_law_814 : decode cL_law 814 = .ok (.iconst 2, 1) := by decide +kernel
theorem dL_law_815 : decode cL_law 815 = .ok (.iadd, 1) := by decide +kernel
theorem dL_law_816 : decode cL_law 816 = .ok (.iaload, 1) := by decide +kernel
theorem dL_law_817 : decode cL_law 817 = .ok (.invokevirtual 100, 3) := by decide +kernel
theorem dL_law_820 : decode cL_law 820 = .ok (.aload_n 2, 1) := by decide +kernel
theorem dL_law_821 : decode cL_law 821 = .ok (.aload_n 0, 1) := by decide +kernel
theorem dL_law_822 : decode cL_law 822 = .ok (.iload 4, 2) := by decide +kernel
theorem dL_law_824 : decode cL_law 824 = .ok (.iconst 1, 1) := by decide +kernel
theorem dL_law_825 : decode cL_law 825 = .ok (.iadd, 1) := by decide +kernel
theorem dL_law_826 : decode cL_law 826 = .ok (.iaload, 1) := by decide +kernel
theorem dL_law_827 : decode cL_law 827 = .ok (.aload_n 0, 1) := by decide +kernel
theorem dL_law_828 : decode cL_law 828 = .ok (.iload 4, 2) := by decide +kernel
theorem dL_law_830 : decode cL_law 830 = .ok (.iconst 2, 1) := by decide +kernel
theorem dL_law_831 : decode cL_law 831 = .ok (.iadd, 1) := by decide +kernel
theorem dL_law_832 : decode cL_law 832 = .ok (.iaload, 1) := by decide +kernel
theorem dL_law_833 : decode cL_law 833 = .ok (.invokevirtual 103, 3) := by decide +kernel
theorem dL_law_836 : decode cL_law 836 = .ok (.if_icmp .eq 789, 3) := by decide +kernel
theorem dL_law_841 : decode cL_law 841 = .ok (.aload_n 1, 1) := by decide +kernel
theorem dL_law_842 : decode cL_law 842 = .ok (.aload_n 0, 1) := by decide +kernel
theorem dL_law_843 : decode cL_law 843 = .ok (.iload 4, 2) := by decide +kernel
theorem dL_law_845 : decode cL_law 845 = .ok (.iconst 1, 1) := by decide +kernel
theorem dL_law_846 : decode cL_law 846 = .ok (.iadd, 1) := by decide +kernel
theorem dL_law_847 : decode cL_law 847 = .ok (.iaload, 1) := by decide +kernel
theorem dL_law_848 : decode cL_law 848 = .ok (.aload_n 0, 1) := by decide +kernel
theorem dL_law_849 : decode cL_law 849 = .ok (.iload 4, 2) := by decide +kernel
theorem dL_law_851 : decode cL_law 851 = .ok (.iconst 2, 1) := by decide +kernel
theorem dL_law_852 : decode cL_law 852 = .ok (.iadd, 1) := by decide +kernel
theorem dL_law_853 : decode cL_law 853 = .ok (.iaload, 1) := by decide +kernel
theorem dL_law_854 : decode cL_law 854 = .ok (.aload_n 0, 1) := by decide +kernel
theorem dL_law_855 : decode cL_law 855 = .ok (.iload 4, 2) := by decide +kernel
theorem dL_law_857 : decode cL_law 857 = .ok (.iconst 3, 1) := by decide +kernel
theorem dL_law_858 : decode cL_law 858 = .ok (.iadd, 1) := by decide +kernel
theorem dL_law_859 : decode cL_law 859 = .ok (.iaload, 1) := by decide +kernel
theorem dL_law_860 : decode cL_law 860 = .ok (.invokevirtual 104, 3) := by decide +kernel
theorem dL_law_863 : decode cL_law 863 = .ok (.aload_n 2, 1) := by decide +kernel
theorem dL_law_864 : decode cL_law 864 = .ok (.aload_n 0, 1) := by decide +kernel
theorem dL_law_865 : decode cL_law 865 = .ok (.iload 4, 2) := by decide +kernel
theorem dL_law_867 : decode cL_law 867 = .ok (.iconst 1, 1) := by decide +kernel
theorem dL_law_868 : decode cL_law 868 = .ok (.iadd, 1) := by decide +kernel
theorem dL_law_869 : decode cL_law 869 = .ok (.iaload, 1) := by decide +kernel
theorem dL_law_870 : decode cL_law 870 = .ok (.aload_n 0, 1) := by decide +kernel
theorem dL_law_871 : decode cL_law 871 = .ok (.iload 4, 2) := by decide +kernel
theorem dL_law_873 : decode cL_law 873 = .ok (.iconst 2, 1) := by decide +kernel
theorem dL_law_874 : decode cL_law 874 = .ok (.iadd, 1) := by decide +kernel
theorem dL_law_875 : decode cL_law 875 = .ok (.iaload, 1) := by decide +kernel
theorem dL_law_876 : decode cL_law 876 = .ok (.aload_n 0, 1) := by decide +kernel
theorem dL_law_877 : decode cL_law 877 = .ok (.iload 4, 2) := by decide +kernel
theorem dL_law_879 : decode cL_law 879 = .ok (.iconst 3, 1) := by decide +kernel
theorem dL_law_880 : decode cL_law 880 = .ok (.iadd, 1) := by decide +kernel
theorem dL_law_881 : decode cL_law 881 = .ok (.iaload, 1) := by decide +kernel
theorem dL_law_882 : decode cL_law 882 = .ok (.invokevirtual 108, 3) := by decide +kernel
theorem dL_law_885 : decode cL_law 885 = .ok (.if_icmp .eq 740, 3) := by decide +kernel
theorem dL_law_890 : decode cL_law 890 = .ok (.aload_n 1, 1) := by decide +kernel
theorem dL_law_891 : decode cL_law 891 = .ok (.aload_n 0, 1) := by decide +kernel
theorem dL_law_892 : decode cL_law 892 = .ok (.iload 4, 2) := by decide +kernel
theorem dL_law_894 : decode cL_law 894 = .ok (.iconst 1, 1) := by decide +kernel
theorem dL_law_895 : decode cL_law 895 = .ok (.iadd, 1) := by decide +kernel
theorem dL_law_896 : decode cL_law 896 = .ok (.iaload, 1) := by decide +kernel
theorem dL_law_897 : decode cL_law 897 = .ok (.aload_n 0, 1) := by decide +kernel
theorem dL_law_898 : decode cL_law 898 = .ok (.iload 4, 2) := by decide +kernel
theorem dL_law_900 : decode cL_law 900 = .ok (.iconst 2, 1) := by decide +kernel
theorem dL_law_901 : decode cL_law 901 = .ok (.iadd, 1) := by decide +kernel
theorem dL_law_902 : decode cL_law 902 = .ok (.iaload, 1) := by decide +kernel
theorem dL_law_903 : decode cL_law 903 = .ok (.invokevirtual 109, 3) := by decide +kernel
theorem dL_law_906 : decode cL_law 906 = .ok (.aload_n 2, 1) := by decide +kernel
theorem dL_law_907 : decode cL_law 907 = .ok (.aload_n 0, 1) := by decide +kernel
theorem dL_law_908 : decode cL_law 908 = .ok (.iload 4, 2) := by decide +kernel
theorem dL_law_910 : decode cL_law 910 = .ok (.iconst 1, 1) := by decide +kernel
theorem dL_law_911 : decode cL_law 911 = .ok (.iadd, 1) := by decide +kernel
theorem dL_law_912 : decode cL_law 912 = .ok (.iaload, 1) := by decide +kernel
theorem dL_law_913 : decode cL_law 913 = .ok (.aload_n 0, 1) := by decide +kernel
theorem dL_law_914 : decode cL_law 914 = .ok (.iload 4, 2) := by decide +kernel
theorem dL_law_916 : decode cL_law 916 = .ok (.iconst 2, 1) := by decide +kernel
theorem dL_law_917 : decode cL_law 917 = .ok (.iadd, 1) := by decide +kernel
theorem dL_law_918 : decode cL_law 918 = .ok (.iaload, 1) := by decide +kernel
theorem dL_law_919 : decode cL_law 919 = .ok (.invokevirtual 112, 3) := by decide +kernel
theorem dL_law_922 : decode cL_law 922 = .ok (.if_icmp .eq 703, 3) := by decide +kernel
theorem dL_law_927 : decode cL_law 927 = .ok (.aload_n 1, 1) := by decide +kernel
theorem dL_law_928 : decode cL_law 928 = .ok (.aload_n 0, 1) := by decide +kernel
theorem dL_law_929 : decode cL_law 929 = .ok (.iload 4, 2) := by decide +kernel
theorem dL_law_931 : decode cL_law 931 = .ok (.iconst 1, 1) := by decide +kernel
theorem dL_law_932 : decode cL_law 932 = .ok (.iadd, 1) := by decide +kernel
theorem dL_law_933 : decode cL_law 933 = .ok (.iaload, 1) := by decide +kernel
theorem dL_law_934 : decode cL_law 934 = .ok (.invokevirtual 113, 3) := by decide +kernel
theorem dL_law_937 : decode cL_law 937 = .ok (.aload_n 2, 1) := by decide +kernel
theorem dL_law_938 : decode cL_law 938 = .ok (.aload_n 0, 1) := by decide +kernel
theorem dL_law_939 : decode cL_law 939 = .ok (.iload 4, 2) := by decide +kernel
theorem dL_law_941 : decode cL_law 941 = .ok (.iconst 1, 1) := by decide +kernel
theorem dL_law_942 : decode cL_law 942 = .ok (.iadd, 1) := by decide +kernel
theorem dL_law_943 : decode cL_law 943 = .ok (.iaload, 1) := by decide +kernel
theorem dL_law_944 : decode cL_law 944 = .ok (.invokevirtual 116, 3) := by decide +kernel
theorem dL_law_947 : decode cL_law 947 = .ok (.if_icmp .eq 678, 3) := by decide +kernel
theorem dL_law_952 : decode cL_law 952 = .ok (.aload_n 1, 1) := by decide +kernel
theorem dL_law_953 : decode cL_law 953 = .ok (.aload_n 0, 1) := by decide +kernel
theorem dL_law_954 : decode cL_law 954 = .ok (.iload 4, 2) := by decide +kernel
theorem dL_law_956 : decode cL_law 956 = .ok (.iconst 1, 1) := by decide +kernel
theorem dL_law_957 : decode cL_law 957 = .ok (.iadd, 1) := by decide +kernel
theorem dL_law_958 : decode cL_law 958 = .ok (.iaload, 1) := by decide +kernel
theorem dL_law_959 : decode cL_law 959 = .ok (.aload_n 0, 1) := by decide +kernel
theorem dL_law_960 : decode cL_law 960 = .ok (.iload 4, 2) := by decide +kernel
theorem dL_law_962 : decode cL_law 962 = .ok (.iconst 2, 1) := by decide +kernel
theorem dL_law_963 : decode cL_law 963 = .ok (.iadd, 1) := by decide +kernel
theorem dL_law_964 : decode cL_law 964 = .ok (.iaload, 1) := by decide +kernel
theorem dL_law_965 : decode cL_law 965 = .ok (.invokevirtual 117, 3) := by decide +kernel
theorem dL_law_968 : decode cL_law 968 = .ok (.aload_n 2, 1) := by decide +kernel
theorem dL_law_969 : decode cL_law 969 = .ok (.aload_n 0, 1) := by decide +kernel
theorem dL_law_970 : decode cL_law 970 = .ok (.iload 4, 2) := by decide +kernel
theorem dL_law_972 : decode cL_law 972 = .ok (.iconst 1, 1) := by decide +kernel
theorem dL_law_973 : decode cL_law 973 = .ok (.iadd, 1) := by decide +kernel
theorem dL_law_974 : decode cL_law 974 = .ok (.iaload, 1) := by decide +kernel
theorem dL_law_975 : decode cL_law 975 = .ok (.aload_n 0, 1) := by decide +kernel
theorem dL_law_976 : decode cL_law 976 = .ok (.iload 4, 2) := by decide +kernel
theorem dL_law_978 : decode cL_law 978 = .ok (.iconst 2, 1) := by decide +kernel
theorem dL_law_979 : decode cL_law 979 = .ok (.iadd, 1) := by decide +kernel
theorem dL_law_980 : decode cL_law 980 = .ok (.iaload, 1) := by decide +kernel
theorem dL_law_981 : decode cL_law 981 = .ok (.invokevirtual 120, 3) := by decide +kernel
theorem dL_law_984 : decode cL_law 984 = .ok (.if_icmp .eq 641, 3) := by decide +kernel
theorem dL_law_989 : decode cL_law 989 = .ok (.aload_n 1, 1) := by decide +kernel
theorem dL_law_990 : decode cL_law 990 = .ok (.aload_n 0, 1) := by decide +kernel
theorem dL_law_991 : decode cL_law 991 = .ok (.iload 4, 2) := by decide +kernel
theorem dL_law_993 : decode cL_law 993 = .ok (.iconst 1, 1) := by decide +kernel
theorem dL_law_994 : decode cL_law 994 = .ok (.iadd, 1) := by decide +kernel
theorem dL_law_995 : decode cL_law 995 = .ok (.iaload, 1) := by decide +kernel
theorem dL_law_996 : decode cL_law 996 = .ok (.invokevirtual 121, 3) := by decide +kernel
theorem dL_law_999 : decode cL_law 999 = .ok (.aload_n 2, 1) := by decide +kernel
theorem dL_law_1000 : decode cL_law 1000 = .ok (.aload_n 0, 1) := by decide +kernel
theorem dL_law_1001 : decode cL_law 1001 = .ok (.iload 4, 2) := by decide +kernel
theorem dL_law_1003 : decode cL_law 1003 = .ok (.iconst 1, 1) := by decide +kernel
theorem dL_law_1004 : decode cL_law 1004 = .ok (.iadd, 1) := by decide +kernel
theorem dL_law_1005 : decode cL_law 1005 = .ok (.iaload, 1) := by decide +kernel
theorem dL_law_1006 : decode cL_law 1006 = .ok (.invokevirtual 124, 3) := by decide +kernel
theorem dL_law_1009 : decode cL_law 1009 = .ok (.if_icmp .eq 616, 3) := by decide +kernel
theorem dL_law_1014 : decode cL_law 1014 = .ok (.aload_n 1, 1) := by decide +kernel
theorem dL_law_1015 : decode cL_law 1015 = .ok (.aload_n 0, 1) := by decide +kernel
theorem dL_law_1016 : decode cL_law 1016 = .ok (.iload 4, 2) := by decide +kernel
theorem dL_law_1018 : decode cL_law 1018 = .ok (.iconst 1, 1) := by decide +kernel
theorem dL_law_1019 : decode cL_law 1019 = .ok (.iadd, 1) := by decide +kernel
theorem dL_law_1020 : decode cL_law 1020 = .ok (.iaload, 1) := by decide +kernel
theorem dL_law_1021 : decode cL_law 1021 = .ok (.aload_n 0, 1) := by decide +kernel
theorem dL_law_1022 : decode cL_law 1022 = .ok (.iload 4, 2) := by decide +kernel
theorem dL_law_1024 : decode cL_law 1024 = .ok (.iconst 2, 1) := by decide +kernel
theorem dL_law_1025 : decode cL_law 1025 = .ok (.iadd, 1) := by decide +kernel
theorem dL_law_1026 : decode cL_law 1026 = .ok (.iaload, 1) := by decide +kernel
theorem dL_law_1027 : decode cL_law 1027 = .ok (.invokevirtual 125, 3) := by decide +kernel
theorem dL_law_1030 : decode cL_law 1030 = .ok (.aload_n 2, 1) := by decide +kernel
theorem dL_law_1031 : decode cL_law 1031 = .ok (.aload_n 0, 1) := by decide +kernel
theorem dL_law_1032 : decode cL_law 1032 = .ok (.iload 4, 2) := by decide +kernel
theorem dL_law_1034 : decode cL_law 1034 = .ok (.iconst 1, 1) := by decide +kernel
theorem dL_law_1035 : decode cL_law 1035 = .ok (.iadd, 1) := by decide +kernel
theorem dL_law_1036 : decode cL_law 1036 = .ok (.iaload, 1) := by decide +kernel
theorem dL_law_1037 : decode cL_law 1037 = .ok (.aload_n 0, 1) := by decide +kernel
theorem dL_law_1038 : decode cL_law 1038 = .ok (.iload 4, 2) := by decide +kernel
theorem dL_law_1040 : decode cL_law 1040 = .ok (.iconst 2, 1) := by decide +kernel
theorem dL_law_1041 : decode cL_law 1041 = .ok (.iadd, 1) := by decide +kernel
theorem dL_law_1042 : decode cL_law 1042 = .ok (.iaload, 1) := by decide +kernel
theorem dL_law_1043 : decode cL_law 1043 = .ok (.invokevirtual 128, 3) := by decide +kernel
theorem dL_law_1046 : decode cL_law 1046 = .ok (.if_icmp .eq 579, 3) := by decide +kernel
theorem dL_law_1051 : decode cL_law 1051 = .ok (.aload_n 1, 1) := by decide +kernel
theorem dL_law_1052 : decode cL_law 1052 = .ok (.aload_n 0, 1) := by decide +kernel
theorem dL_law_1053 : decode cL_law 1053 = .ok (.iload 4, 2) := by decide +kernel
theorem dL_law_1055 : decode cL_law 1055 = .ok (.iconst 1, 1) := by decide +kernel
theorem dL_law_1056 : decode cL_law 1056 = .ok (.iadd, 1) := by decide +kernel
theorem dL_law_1057 : decode cL_law 1057 = .ok (.iaload, 1) := by decide +kernel
theorem dL_law_1058 : decode cL_law 1058 = .ok (.aload_n 0, 1) := by decide +kernel
theorem dL_law_1059 : decode cL_law 1059 = .ok (.iload 4, 2) := by decide +kernel
theorem dL_law_1061 : decode cL_law 1061 = .ok (.iconst 2, 1) := by decide +kernel
theorem dL_law_1062 : decode cL_law 1062 = .ok (.iadd, 1) := by decide +kernel
theorem dL_law_1063 : decode cL_law 1063 = .ok (.iaload, 1) := by decide +kernel
theorem dL_law_1064 : decode cL_law 1064 = .ok (.invokevirtual 129, 3) := by decide +kernel
theorem dL_law_1067 : decode cL_law 1067 = .ok (.aload_n 2, 1) := by decide +kernel
theorem dL_law_1068 : decode cL_law 1068 = .ok (.aload_n 0, 1) := by decide +kernel
theorem dL_law_1069 : decode cL_law 1069 = .ok (.iload 4, 2) := by decide +kernel
theorem dL_law_1071 : decode cL_law 1071 = .ok (.iconst 1, 1) := by decide +kernel
theorem dL_law_1072 : decode cL_law 1072 = .ok (.iadd, 1) := by decide +kernel
theorem dL_law_1073 : decode cL_law 1073 = .ok (.iaload, 1) := by decide +kernel
theorem dL_law_1074 : decode cL_law 1074 = .ok (.aload_n 0, 1) := by decide +kernel
theorem dL_law_1075 : decode cL_law 1075 = .ok (.iload 4, 2) := by decide +kernel
theorem dL_law_1077 : decode cL_law 1077 = .ok (.iconst 2, 1) := by decide +kernel
theorem dL_law_1078 : decode cL_law 1078 = .ok (.iadd, 1) := by decide +kernel
theorem dL_law_1079 : decode cL_law 1079 = .ok (.iaload, 1) := by decide +kernel
theorem dL_law_1080 : decode cL_law 1080 = .ok (.invokevirtual 132, 3) := by decide +kernel
theorem dL_law_1083 : decode cL_law 1083 = .ok (.if_icmp .eq 542, 3) := by decide +kernel
theorem dL_law_1088 : decode cL_law 1088 = .ok (.aload_n 1, 1) := by decide +kernel
theorem dL_law_1089 : decode cL_law 1089 = .ok (.aload_n 0, 1) := by decide +kernel
theorem dL_law_1090 : decode cL_law 1090 = .ok (.iload 4, 2) := by decide +kernel
theorem dL_law_1092 : decode cL_law 1092 = .ok (.iconst 1, 1) := by decide +kernel
theorem dL_law_1093 : decode cL_law 1093 = .ok (.iadd, 1) := by decide +kernel
theorem dL_law_1094 : decode cL_law 1094 = .ok (.iaload, 1) := by decide +kernel
theorem dL_law_1095 : decode cL_law 1095 = .ok (.aload_n 0, 1) := by decide +kernel
theorem dL_law_1096 : decode cL_law 1096 = .ok (.iload 4, 2) := by decide +kernel
theorem dL_law_1098 : decode cL_law 1098 = .ok (.iconst 2, 1) := by decide +kernel
theorem dL_law_1099 : decode cL_law 1099 = .ok (.iadd, 1) := by decide +kernel
theorem dL_law_1100 : decode cL_law 1100 = .ok (.iaload, 1) := by decide +kernel
theorem dL_law_1101 : decode cL_law 1101 = .ok (.aload_n 0, 1) := by decide +kernel
theorem dL_law_1102 : decode cL_law 1102 = .ok (.iload 4, 2) := by decide +kernel
theorem dL_law_1104 : decode cL_law 1104 = .ok (.iconst 3, 1) := by decide +kernel
theorem dL_law_1105 : decode cL_law 1105 = .ok (.iadd, 1) := by decide +kernel
theorem dL_law_1106 : decode cL_law 1106 = .ok (.iaload, 1) := by decide +kernel
theorem dL_law_1107 : decode cL_law 1107 = .ok (.aload_n 0, 1) := by decide +kernel
theorem dL_law_1108 : decode cL_law 1108 = .ok (.iload 4, 2) := by decide +kernel
theorem dL_law_1110 : decode cL_law 1110 = .ok (.iconst 4, 1) := by decide +kernel
theorem dL_law_1111 : decode cL_law 1111 = .ok (.iadd, 1) := by decide +kernel
theorem dL_law_1112 : decode cL_law 1112 = .ok (.iaload, 1) := by decide +kernel
theorem dL_law_1113 : decode cL_law 1113 = .ok (.aload_n 0, 1) := by decide +kernel
theorem dL_law_1114 : decode cL_law 1114 = .ok (.iload 4, 2) := by decide +kernel
theorem dL_law_1116 : decode cL_law 1116 = .ok (.iconst 5, 1) := by decide +kernel
theorem dL_law_1117 : decode cL_law 1117 = .ok (.iadd, 1) := by decide +kernel
theorem dL_law_1118 : decode cL_law 1118 = .ok (.iaload, 1) := by decide +kernel
theorem dL_law_1119 : decode cL_law 1119 = .ok (.ifCond .eq 7, 3) := by decide +kernel
theorem dL_law_1122 : decode cL_law 1122 = .ok (.iconst 1, 1) := by decide +kernel
theorem dL_law_1123 : decode cL_law 1123 = .ok (.goto 4, 3) := by decide +kernel
theorem dL_law_1126 : decode cL_law 1126 = .ok (.iconst 0, 1) := by decide +kernel
theorem dL_law_1127 : decode cL_law 1127 = .ok (.invokevirtual 133, 3) := by decide +kernel
theorem dL_law_1130 : decode cL_law 1130 = .ok (.aload_n 2, 1) := by decide +kernel
theorem dL_law_1131 : decode cL_law 1131 = .ok (.aload_n 0, 1) := by decide +kernel
theorem dL_law_1132 : decode cL_law 1132 = .ok (.iload 4, 2) := by decide +kernel
theorem dL_law_1134 : decode cL_law 1134 = .ok (.iconst 1, 1) := by decide +kernel
theorem dL_law_1135 : decode cL_law 1135 = .ok (.iadd, 1) := by decide +kernel
theorem dL_law_1136 : decode cL_law 1136 = .ok (.iaload, 1) := by decide +kernel
theorem dL_law_1137 : decode cL_law 1137 = .ok (.aload_n 0, 1) := by decide +kernel
theorem dL_law_1138 : decode cL_law 1138 = .ok (.iload 4, 2) := by decide +kernel
theorem dL_law_1140 : decode cL_law 1140 = .ok (.iconst 2, 1) := by decide +kernel
theorem dL_law_1141 : decode cL_law 1141 = .ok (.iadd, 1) := by decide +kernel
theorem dL_law_1142 : decode cL_law 1142 = .ok (.iaload, 1) := by decide +kernel
theorem dL_law_1143 : decode cL_law 1143 = .ok (.aload_n 0, 1) := by decide +kernel
theorem dL_law_1144 : decode cL_law 1144 = .ok (.iload 4, 2) := by decide +kernel
theorem dL_law_1146 : decode cL_law 1146 = .ok (.iconst 3, 1) := by decide +kernel
theorem dL_law_1147 : decode cL_law 1147 = .ok (.iadd, 1) := by decide +kernel
theorem dL_law_1148 : decode cL_law 1148 = .ok (.iaload, 1) := by decide +kernel
theorem dL_law_1149 : decode cL_law 1149 = .ok (.aload_n 0, 1) := by decide +kernel
theorem dL_law_1150 : decode cL_law 1150 = .ok (.iload 4, 2) := by decide +kernel
theorem dL_law_1152 : decode cL_law 1152 = .ok (.iconst 4, 1) := by decide +kernel
theorem dL_law_1153 : decode cL_law 1153 = .ok (.iadd, 1) := by decide +kernel
theorem dL_law_1154 : decode cL_law 1154 = .ok (.iaload, 1) := by decide +kernel
theorem dL_law_1155 : decode cL_law 1155 = .ok (.aload_n 0, 1) := by decide +kernel
theorem dL_law_1156 : decode cL_law 1156 = .ok (.iload 4, 2) := by decide +kernel
theorem dL_law_1158 : decode cL_law 1158 = .ok (.iconst 5, 1) := by decide +kernel
theorem dL_law_1159 : decode cL_law 1159 = .ok (.iadd, 1) := by decide +kernel
theorem dL_law_1160 : decode cL_law 1160 = .ok (.iaload, 1) := by decide +kernel
theorem dL_law_1161 : decode cL_law 1161 = .ok (.ifCond .eq 7, 3) := by decide +kernel
theorem dL_law_1164 : decode cL_law 1164 = .ok (.iconst 1, 1) := by decide +kernel
theorem dL_law_1165 : decode cL_law 1165 = .ok (.goto 4, 3) := by decide +kernel
theorem dL_law_1168 : decode cL_law 1168 = .ok (.iconst 0, 1) := by decide +kernel
theorem dL_law_1169 : decode cL_law 1169 = .ok (.invokevirtual 137, 3) := by decide +kernel
theorem dL_law_1172 : decode cL_law 1172 = .ok (.if_icmp .eq 453, 3) := by decide +kernel
theorem dL_law_1177 : decode cL_law 1177 = .ok (.aload_n 1, 1) := by decide +kernel
theorem dL_law_1178 : decode cL_law 1178 = .ok (.aload_n 0, 1) := by decide +kernel
theorem dL_law_1179 : decode cL_law 1179 = .ok (.iload 4, 2) := by decide +kernel
theorem dL_law_1181 : decode cL_law 1181 = .ok (.iconst 1, 1) := by decide +kernel
theorem dL_law_1182 : decode cL_law 1182 = .ok (.iadd, 1) := by decide +kernel
theorem dL_law_1183 : decode cL_law 1183 = .ok (.iaload, 1) := by decide +kernel
theorem dL_law_1184 : decode cL_law 1184 = .ok (.invokevirtual 138, 3) := by decide +kernel
theorem dL_law_1187 : decode cL_law 1187 = .ok (.aload_n 2, 1) := by decide +kernel
theorem dL_law_1188 : decode cL_law 1188 = .ok (.aload_n 0, 1) := by decide +kernel
theorem dL_law_1189 : decode cL_law 1189 = .ok (.iload 4, 2) := by decide +kernel
theorem dL_law_1191 : decode cL_law 1191 = .ok (.iconst 1, 1) := by decide +kernel
theorem dL_law_1192 : decode cL_law 1192 = .ok (.iadd, 1) := by decide +kernel
theorem dL_law_1193 : decode cL_law 1193 = .ok (.iaload, 1) := by decide +kernel
theorem dL_law_1194 : decode cL_law 1194 = .ok (.invokevirtual 141, 3) := by decide +kernel
theorem dL_law_1197 : decode cL_law 1197 = .ok (.if_icmp .eq 428, 3) := by decide +kernel
theorem dL_law_1202 : decode cL_law 1202 = .ok (.aload_n 1, 1) := by decide +kernel
theorem dL_law_1203 : decode cL_law 1203 = .ok (.aload_n 0, 1) := by decide +kernel
theorem dL_law_1204 : decode cL_law 1204 = .ok (.iload 4, 2) := by decide +kernel
theorem dL_law_1206 : decode cL_law 1206 = .ok (.iconst 1, 1) := by decide +kernel
theorem dL_law_1207 : decode cL_law 1207 = .ok (.iadd, 1) := by decide +kernel
theorem dL_law_1208 : decode cL_law 1208 = .ok (.iaload, 1) := by decide +kernel
theorem dL_law_1209 : decode cL_law 1209 = .ok (.aload_n 0, 1) := by decide +kernel
theorem dL_law_1210 : decode cL_law 1210 = .ok (.iload 4, 2) := by decide +kernel
theorem dL_law_1212 : decode cL_law 1212 = .ok (.iconst 2, 1) := by decide +kernel
theorem dL_law_1213 : decode cL_law 1213 = .ok (.iadd, 1) := by decide +kernel
theorem dL_law_1214 : decode cL_law 1214 = .ok (.iaload, 1) := by decide +kernel
theorem dL_law_1215 : decode cL_law 1215 = .ok (.invokevirtual 142, 3) := by decide +kernel
theorem dL_law_1218 : decode cL_law 1218 = .ok (.aload_n 2, 1) := by decide +kernel
theorem dL_law_1219 : decode cL_law 1219 = .ok (.aload_n 0, 1) := by decide +kernel
theorem dL_law_1220 : decode cL_law 1220 = .ok (.iload 4, 2) := by decide +kernel
theorem dL_law_1222 : decode cL_law 1222 = .ok (.iconst 1, 1) := by decide +kernel
theorem dL_law_1223 : decode cL_law 1223 = .ok (.iadd, 1) := by decide +kernel
theorem dL_law_1224 : decode cL_law 1224 = .ok (.iaload, 1) := by decide +kernel
theorem dL_law_1225 : decode cL_law 1225 = .ok (.aload_n 0, 1) := by decide +kernel
theorem dL_law_1226 : decode cL_law 1226 = .ok (.iload 4, 2) := by decide +kernel
theorem dL_law_1228 : decode cL_law 1228 = .ok (.iconst 2, 1) := by decide +kernel
theorem dL_law_1229 : decode cL_law 1229 = .ok (.iadd, 1) := by decide +kernel
theorem dL_law_1230 : decode cL_law 1230 = .ok (.iaload, 1) := by decide +kernel
theorem dL_law_1231 : decode cL_law 1231 = .ok (.invokevirtual 145, 3) := by decide +kernel
theorem dL_law_1234 : decode cL_law 1234 = .ok (.if_icmp .eq 391, 3) := by decide +kernel
theorem dL_law_1239 : decode cL_law 1239 = .ok (.aload_n 1, 1) := by decide +kernel
theorem dL_law_1240 : decode cL_law 1240 = .ok (.aload_n 0, 1) := by decide +kernel
theorem dL_law_1241 : decode cL_law 1241 = .ok (.iload 4, 2) := by decide +kernel
theorem dL_law_1243 : decode cL_law 1243 = .ok (.iconst 1, 1) := by decide +kernel
theorem dL_law_1244 : decode cL_law 1244 = .ok (.iadd, 1) := by decide +kernel
theorem dL_law_1245 : decode cL_law 1245 = .ok (.iaload, 1) := by decide +kernel
theorem dL_law_1246 : decode cL_law 1246 = .ok (.aload_n 0, 1) := by decide +kernel
theorem dL_law_1247 : decode cL_law 1247 = .ok (.iload 4, 2) := by decide +kernel
theorem dL_law_1249 : decode cL_law 1249 = .ok (.iconst 2, 1) := by decide +kernel
theorem dL_law_1250 : decode cL_law 1250 = .ok (.iadd, 1) := by decide +kernel
theorem dL_law_1251 : decode cL_law 1251 = .ok (.iaload, 1) := by decide +kernel
theorem dL_law_1252 : decode cL_law 1252 = .ok (.invokevirtual 146, 3) := by decide +kernel
theorem dL_law_1255 : decode cL_law 1255 = .ok (.aload_n 2, 1) := by decide +kernel
theorem dL_law_1256 : decode cL_law 1256 = .ok (.aload_n 0, 1) := by decide +kernel
theorem dL_law_1257 : decode cL_law 1257 = .ok (.iload 4, 2) := by decide +kernel
theorem dL_law_1259 : decode cL_law 1259 = .ok (.iconst 1, 1) := by decide +kernel
theorem dL_law_1260 : decode cL_law 1260 = .ok (.iadd, 1) := by decide +kernel
theorem dL_law_1261 : decode cL_law 1261 = .ok (.iaload, 1) := by decide +kernel
theorem dL_law_1262 : decode cL_law 1262 = .ok (.aload_n 0, 1) := by decide +kernel
theorem dL_law_1263 : decode cL_law 1263 = .ok (.iload 4, 2) := by decide +kernel
theorem dL_law_1265 : decode cL_law 1265 = .ok (.iconst 2, 1) := by decide +kernel
theorem dL_law_1266 : decode cL_law 1266 = .ok (.iadd, 1) := by decide +kernel
theorem dL_law_1267 : decode cL_law 1267 = .ok (.iaload, 1) := by decide +kernel
theorem dL_law_1268 : decode cL_law 1268 = .ok (.invokevirtual 149, 3) := by decide +kernel
theorem dL_law_1271 : decode cL_law 1271 = .ok (.if_icmp .eq 354, 3) := by decide +kernel
theorem dL_law_1276 : decode cL_law 1276 = .ok (.aload_n 1, 1) := by decide +kernel
theorem dL_law_1277 : decode cL_law 1277 = .ok (.aload_n 0, 1) := by decide +kernel
theorem dL_law_1278 : decode cL_law 1278 = .ok (.iload 4, 2) := by decide +kernel
theorem dL_law_1280 : decode cL_law 1280 = .ok (.iconst 1, 1) := by decide +kernel
theorem dL_law_1281 : decode cL_law 1281 = .ok (.iadd, 1) := by decide +kernel
theorem dL_law_1282 : decode cL_law 1282 = .ok (.iaload, 1) := by decide +kernel
theorem dL_law_1283 : decode cL_law 1283 = .ok (.aload_n 0, 1) := by decide +kernel
theorem dL_law_1284 : decode cL_law 1284 = .ok (.iload 4, 2) := by decide +kernel
theorem dL_law_1286 : decode cL_law 1286 = .ok (.iconst 2, 1) := by decide +kernel
theorem dL_law_1287 : decode cL_law 1287 = .ok (.iadd, 1) := by decide +kernel
theorem dL_law_1288 : decode cL_law 1288 = .ok (.iaload, 1) := by decide +kernel
theorem dL_law_1289 : decode cL_law 1289 = .ok (.aload_n 0, 1) := by decide +kernel
theorem dL_law_1290 : decode cL_law 1290 = .ok (.iload 4, 2) := by decide +kernel
theorem dL_law_1292 : decode cL_law 1292 = .ok (.iconst 3, 1) := by decide +kernel
theorem dL_law_1293 : decode cL_law 1293 = .ok (.iadd, 1) := by decide +kernel
theorem dL_law_1294 : decode cL_law 1294 = .ok (.iaload, 1) := by decide +kernel
theorem dL_law_1295 : decode cL_law 1295 = .ok (.aload_n 0, 1) := by decide +kernel
theorem dL_law_1296 : decode cL_law 1296 = .ok (.iload 4, 2) := by decide +kernel
theorem dL_law_1298 : decode cL_law 1298 = .ok (.iconst 4, 1) := by decide +kernel
theorem dL_law_1299 : decode cL_law 1299 = .ok (.iadd, 1) := by decide +kernel
theorem dL_law_1300 : decode cL_law 1300 = .ok (.iaload, 1) := by decide +kernel
theorem dL_law_1301 : decode cL_law 1301 = .ok (.aload_n 0, 1) := by decide +kernel
theorem dL_law_1302 : decode cL_law 1302 = .ok (.iload 4, 2) := by decide +kernel
theorem dL_law_1304 : decode cL_law 1304 = .ok (.iconst 5, 1) := by decide +kernel
theorem dL_law_1305 : decode cL_law 1305 = .ok (.iadd, 1) := by decide +kernel
theorem dL_law_1306 : decode cL_law 1306 = .ok (.iaload, 1) := by decide +kernel
theorem dL_law_1307 : decode cL_law 1307 = .ok (.aload_n 0, 1) := by decide +kernel
theorem dL_law_1308 : decode cL_law 1308 = .ok (.iload 4, 2) := by decide +kernel
theorem dL_law_1310 : decode cL_law 1310 = .ok (.bipush 6, 2) := by decide +kernel
theorem dL_law_1312 : decode cL_law 1312 = .ok (.iadd, 1) := by decide +kernel
theorem dL_law_1313 : decode cL_law 1313 = .ok (.iaload, 1) := by decide +kernel
theorem dL_law_1314 : decode cL_law 1314 = .ok (.invokevirtual 150, 3) := by decide +kernel
theorem dL_law_1317 : decode cL_law 1317 = .ok (.aload_n 2, 1) := by decide +kernel
theorem dL_law_1318 : decode cL_law 1318 = .ok (.aload_n 0, 1) := by decide +kernel
theorem dL_law_1319 : decode cL_law 1319 = .ok (.iload 4, 2) := by decide +kernel
theorem dL_law_1321 : decode cL_law 1321 = .ok (.iconst 1, 1) := by decide +kernel
theorem dL_law_1322 : decode cL_law 1322 = .ok (.iadd, 1) := by decide +kernel
theorem dL_law_1323 : decode cL_law 1323 = .ok (.iaload, 1) := by decide +kernel
theorem dL_law_1324 : decode cL_law 1324 = .ok (.aload_n 0, 1) := by decide +kernel
theorem dL_law_1325 : decode cL_law 1325 = .ok (.iload 4, 2) := by decide +kernel
theorem dL_law_1327 : decode cL_law 1327 = .ok (.iconst 2, 1) := by decide +kernel
theorem dL_law_1328 : decode cL_law 1328 = .ok (.iadd, 1) := by decide +kernel
theorem dL_law_1329 : decode cL_law 1329 = .ok (.iaload, 1) := by decide +kernel
theorem dL_law_1330 : decode cL_law 1330 = .ok (.aload_n 0, 1) := by decide +kernel
theorem dL_law_1331 : decode cL_law 1331 = .ok (.iload 4, 2) := by decide +kernel
theorem dL_law_1333 : decode cL_law 1333 = .ok (.iconst 3, 1) := by decide +kernel
theorem dL_law_1334 : decode cL_law 1334 = .ok (.iadd, 1) := by decide +kernel
theorem dL_law_1335 : decode cL_law 1335 = .ok (.iaload, 1) := by decide +kernel
theorem dL_law_1336 : decode cL_law 1336 = .ok (.aload_n 0, 1) := by decide +kernel
theorem dL_law_1337 : decode cL_law 1337 = .ok (.iload 4, 2) := by decide +kernel
theorem dL_law_1339 : decode cL_law 1339 = .ok (.iconst 4, 1) := by decide +kernel
theorem dL_law_1340 : decode cL_law 1340 = .ok (.iadd, 1) := by decide +kernel
theorem dL_law_1341 : decode cL_law 1341 = .ok (.iaload, 1) := by decide +kernel
theorem dL_law_1342 : decode cL_law 1342 = .ok (.aload_n 0, 1) := by decide +kernel
theorem dL_law_1343 : decode cL_law 1343 = .ok (.iload 4, 2) := by decide +kernel
theorem dL_law_1345 : decode cL_law 1345 = .ok (.iconst 5, 1) := by decide +kernel
theorem dL_law_1346 : decode cL_law 1346 = .ok (.iadd, 1) := by decide +kernel
theorem dL_law_1347 : decode cL_law 1347 = .ok (.iaload, 1) := by decide +kernel
theorem dL_law_1348 : decode cL_law 1348 = .ok (.aload_n 0, 1) := by decide +kernel
theorem dL_law_1349 : decode cL_law 1349 = .ok (.iload 4, 2) := by decide +kernel
theorem dL_law_1351 : decode cL_law 1351 = .ok (.bipush 6, 2) := by decide +kernel
theorem dL_law_1353 : decode cL_law 1353 = .ok (.iadd, 1) := by decide +kernel
theorem dL_law_1354 : decode cL_law 1354 = .ok (.iaload, 1) := by decide +kernel
theorem dL_law_1355 : decode cL_law 1355 = .ok (.invokevirtual 154, 3) := by decide +kernel
theorem dL_law_1358 : decode cL_law 1358 = .ok (.if_icmp .eq 267, 3) := by decide +kernel
theorem dL_law_1363 : decode cL_law 1363 = .ok (.aload_n 1, 1) := by decide +kernel
theorem dL_law_1364 : decode cL_law 1364 = .ok (.aload_n 0, 1) := by decide +kernel
theorem dL_law_1365 : decode cL_law 1365 = .ok (.iload 4, 2) := by decide +kernel
theorem dL_law_1367 : decode cL_law 1367 = .ok (.iconst 1, 1) := by decide +kernel
theorem dL_law_1368 : decode cL_law 1368 = .ok (.iadd, 1) := by decide +kernel
theorem dL_law_1369 : decode cL_law 1369 = .ok (.iaload, 1) := by decide +kernel
theorem dL_law_1370 : decode cL_law 1370 = .ok (.aload_n 0, 1) := by decide +kernel
theorem dL_law_1371 : decode cL_law 1371 = .ok (.iload 4, 2) := by decide +kernel
theorem dL_law_1373 : decode cL_law 1373 = .ok (.iconst 2, 1) := by decide +kernel
theorem dL_law_1374 : decode cL_law 1374 = .ok (.iadd, 1) := by decide +kernel
theorem dL_law_1375 : decode cL_law 1375 = .ok (.iaload, 1) := by decide +kernel
theorem dL_law_1376 : decode cL_law 1376 = .ok (.aload_n 0, 1) := by decide +kernel
theorem dL_law_1377 : decode cL_law 1377 = .ok (.iload 4, 2) := by decide +kernel
theorem dL_law_1379 : decode cL_law 1379 = .ok (.iconst 3, 1) := by decide +kernel
theorem dL_law_1380 : decode cL_law 1380 = .ok (.iadd, 1) := by decide +kernel
theorem dL_law_1381 : decode cL_law 1381 = .ok (.iaload, 1) := by decide +kernel
theorem dL_law_1382 : decode cL_law 1382 = .ok (.aload_n 0, 1) := by decide +kernel
theorem dL_law_1383 : decode cL_law 1383 = .ok (.iload 4, 2) := by decide +kernel
theorem dL_law_1385 : decode cL_law 1385 = .ok (.iconst 4, 1) := by decide +kernel
theorem dL_law_1386 : decode cL_law 1386 = .ok (.iadd, 1) := by decide +kernel
theorem dL_law_1387 : decode cL_law 1387 = .ok (.iaload, 1) := by decide +kernel
theorem dL_law_1388 : decode cL_law 1388 = .ok (.invokevirtual 155, 3) := by decide +kernel
theorem dL_law_1391 : decode cL_law 1391 = .ok (.aload_n 2, 1) := by decide +kernel
theorem dL_law_1392 : decode cL_law 1392 = .ok (.aload_n 0, 1) := by decide +kernel
theorem dL_law_1393 : decode cL_law 1393 = .ok (.iload 4, 2) := by decide +kernel
theorem dL_law_1395 : decode cL_law 1395 = .ok (.iconst 1, 1) := by decide +kernel
theorem dL_law_1396 : decode cL_law 1396 = .ok (.iadd, 1) := by decide +kernel
theorem dL_law_1397 : decode cL_law 1397 = .ok (.iaload, 1) := by decide +kernel
theorem dL_law_1398 : decode cL_law 1398 = .ok (.aload_n 0, 1) := by decide +kernel
theorem dL_law_1399 : decode cL_law 1399 = .ok (.iload 4, 2) := by decide +kernel
theorem dL_law_1401 : decode cL_law 1401 = .ok (.iconst 2, 1) := by decide +kernel
theorem dL_law_1402 : decode cL_law 1402 = .ok (.iadd, 1) := by decide +kernel
theorem dL_law_1403 : decode cL_law 1403 = .ok (.iaload, 1) := by decide +kernel
theorem dL_law_1404 : decode cL_law 1404 = .ok (.aload_n 0, 1) := by decide +kernel
theorem dL_law_1405 : decode cL_law 1405 = .ok (.iload 4, 2) := by decide +kernel
theorem dL_law_1407 : decode cL_law 1407 = .ok (.iconst 3, 1) := by decide +kernel
theorem dL_law_1408 : decode cL_law 1408 = .ok (.iadd, 1) := by decide +kernel
theorem dL_law_1409 : decode cL_law 1409 = .ok (.iaload, 1) := by decide +kernel
theorem dL_law_1410 : decode cL_law 1410 = .ok (.aload_n 0, 1) := by decide +kernel
theorem dL_law_1411 : decode cL_law 1411 = .ok (.iload 4, 2) := by decide +kernel
theorem dL_law_1413 : decode cL_law 1413 = .ok (.iconst 4, 1) := by decide +kernel
theorem dL_law_1414 : decode cL_law 1414 = .ok (.iadd, 1) := by decide +kernel
theorem dL_law_1415 : decode cL_law 1415 = .ok (.iaload, 1) := by decide +kernel
theorem dL_law_1416 : decode cL_law 1416 = .ok (.invokevirtual 159, 3) := by decide +kernel
theorem dL_law_1419 : decode cL_law 1419 = .ok (.if_icmp .eq 206, 3) := by decide +kernel
theorem dL_law_1424 : decode cL_law 1424 = .ok (.aload_n 1, 1) := by decide +kernel
theorem dL_law_1425 : decode cL_law 1425 = .ok (.aload_n 0, 1) := by decide +kernel
theorem dL_law_1426 : decode cL_law 1426 = .ok (.iload 4, 2) := by decide +kernel
theorem dL_law_1428 : decode cL_law 1428 = .ok (.iconst 1, 1) := by decide +kernel
theorem dL_law_1429 : decode cL_law 1429 = .ok (.iadd, 1) := by decide +kernel
theorem dL_law_1430 : decode cL_law 1430 = .ok (.iaload, 1) := by decide +kernel
theorem dL_law_1431 : decode cL_law 1431 = .ok (.aload_n 0, 1) := by decide +kernel
theorem dL_law_1432 : decode cL_law 1432 = .ok (.iload 4, 2) := by decide +kernel
theorem dL_law_1434 : decode cL_law 1434 = .ok (.iconst 2, 1) := by decide +kernel
theorem dL_law_1435 : decode cL_law 1435 = .ok (.iadd, 1) := by decide +kernel
theorem dL_law_1436 : decode cL_law 1436 = .ok (.iaload, 1) := by decide +kernel
theorem dL_law_1437 : decode cL_law 1437 = .ok (.invokevirtual 160, 3) := by decide +kernel
theorem dL_law_1440 : decode cL_law 1440 = .ok (.aload_n 2, 1) := by decide +kernel
theorem dL_law_1441 : decode cL_law 1441 = .ok (.aload_n 0, 1) := by decide +kernel
theorem dL_law_1442 : decode cL_law 1442 = .ok (.iload 4, 2) := by decide +kernel
theorem dL_law_1444 : decode cL_law 1444 = .ok (.iconst 1, 1) := by decide +kernel
theorem dL_law_1445 : decode cL_law 1445 = .ok (.iadd, 1) := by decide +kernel
theorem dL_law_1446 : decode cL_law 1446 = .ok (.iaload, 1) := by decide +kernel
theorem dL_law_1447 : decode cL_law 1447 = .ok (.aload_n 0, 1) := by decide +kernel
theorem dL_law_1448 : decode cL_law 1448 = .ok (.iload 4, 2) := by decide +kernel
theorem dL_law_1450 : decode cL_law 1450 = .ok (.iconst 2, 1) := by decide +kernel
theorem dL_law_1451 : decode cL_law 1451 = .ok (.iadd, 1) := by decide +kernel
theorem dL_law_1452 : decode cL_law 1452 = .ok (.iaload, 1) := by decide +kernel
theorem dL_law_1453 : decode cL_law 1453 = .ok (.invokevirtual 163, 3) := by decide +kernel
theorem dL_law_1456 : decode cL_law 1456 = .ok (.if_icmp .eq 169, 3) := by decide +kernel
theorem dL_law_1461 : decode cL_law 1461 = .ok (.aload_n 1, 1) := by decide +kernel
theorem dL_law_1462 : decode cL_law 1462 = .ok (.aload_n 0, 1) := by decide +kernel
theorem dL_law_1463 : decode cL_law 1463 = .ok (.iload 4, 2) := by decide +kernel
theorem dL_law_1465 : decode cL_law 1465 = .ok (.iconst 1, 1) := by decide +kernel
theorem dL_law_1466 : decode cL_law 1466 = .ok (.iadd, 1) := by decide +kernel
theorem dL_law_1467 : decode cL_law 1467 = .ok (.iaload, 1) := by decide +kernel
theorem dL_law_1468 : decode cL_law 1468 = .ok (.invokevirtual 164, 3) := by decide +kernel
theorem dL_law_1471 : decode cL_law 1471 = .ok (.aload_n 2, 1) := by decide +kernel
theorem dL_law_1472 : decode cL_law 1472 = .ok (.aload_n 0, 1) := by decide +kernel
theorem dL_law_1473 : decode cL_law 1473 = .ok (.iload 4, 2) := by decide +kernel
theorem dL_law_1475 : decode cL_law 1475 = .ok (.iconst 1, 1) := by decide +kernel
theorem dL_law_1476 : decode cL_law 1476 = .ok (.iadd, 1) := by decide +kernel
theorem dL_law_1477 : decode cL_law 1477 = .ok (.iaload, 1) := by decide +kernel
theorem dL_law_1478 : decode cL_law 1478 = .ok (.invokevirtual 167, 3) := by decide +kernel
theorem dL_law_1481 : decode cL_law 1481 = .ok (.if_icmp .eq 144, 3) := by decide +kernel
theorem dL_law_1486 : decode cL_law 1486 = .ok (.aload_n 1, 1) := by decide +kernel
theorem dL_law_1487 : decode cL_law 1487 = .ok (.invokevirtual 168, 3) := by decide +kernel
theorem dL_law_1490 : decode cL_law 1490 = .ok (.aload_n 2, 1) := by decide +kernel
theorem dL_law_1491 : decode cL_law 1491 = .ok (.invokevirtual 171, 3) := by decide +kernel
theorem dL_law_1494 : decode cL_law 1494 = .ok (.if_icmp .eq 131, 3) := by decide +kernel
theorem dL_law_1499 : decode cL_law 1499 = .ok (.aload_n 1, 1) := by decide +kernel
theorem dL_law_1500 : decode cL_law 1500 = .ok (.aload_n 0, 1) := by decide +kernel
theorem dL_law_1501 : decode cL_law 1501 = .ok (.iload 4, 2) := by decide +kernel
theorem dL_law_1503 : decode cL_law 1503 = .ok (.iconst 1, 1) := by decide +kernel
theorem dL_law_1504 : decode cL_law 1504 = .ok (.iadd, 1) := by decide +kernel
theorem dL_law_1505 : decode cL_law 1505 = .ok (.iaload, 1) := by decide +kernel
theorem dL_law_1506 : decode cL_law 1506 = .ok (.invokevirtual 172, 3) := by decide +kernel
theorem dL_law_1509 : decode cL_law 1509 = .ok (.aload_n 2, 1) := by decide +kernel
theorem dL_law_1510 : decode cL_law 1510 = .ok (.aload_n 0, 1) := by decide +kernel
theorem dL_law_1511 : decode cL_law 1511 = .ok (.iload 4, 2) := by decide +kernel
theorem dL_law_1513 : decode cL_law 1513 = .ok (.iconst 1, 1) := by decide +kernel
theorem dL_law_1514 : decode cL_law 1514 = .ok (.iadd, 1) := by decide +kernel
theorem dL_law_1515 : decode cL_law 1515 = .ok (.iaload, 1) := by decide +kernel
theorem dL_law_1516 : decode cL_law 1516 = .ok (.invokevirtual 175, 3) := by decide +kernel
theorem dL_law_1519 : decode cL_law 1519 = .ok (.if_icmp .eq 106, 3) := by decide +kernel
theorem dL_law_1524 : decode cL_law 1524 = .ok (.aload_n 1, 1) := by decide +kernel
theorem dL_law_1525 : decode cL_law 1525 = .ok (.aload_n 0, 1) := by decide +kernel
theorem dL_law_1526 : decode cL_law 1526 = .ok (.iload 4, 2) := by decide +kernel
theorem dL_law_1528 : decode cL_law 1528 = .ok (.iconst 1, 1) := by decide +kernel
theorem dL_law_1529 : decode cL_law 1529 = .ok (.iadd, 1) := by decide +kernel
theorem dL_law_1530 : decode cL_law 1530 = .ok (.iaload, 1) := by decide +kernel
theorem dL_law_1531 : decode cL_law 1531 = .ok (.invokevirtual 176, 3) := by decide +kernel
theorem dL_law_1534 : decode cL_law 1534 = .ok (.aload_n 2, 1) := by decide +kernel
theorem dL_law_1535 : decode cL_law 1535 = .ok (.aload_n 0, 1) := by decide +kernel
theorem dL_law_1536 : decode cL_law 1536 = .ok (.iload 4, 2) := by decide +kernel
theorem dL_law_1538 : decode cL_law 1538 = .ok (.iconst 1, 1) := by decide +kernel
theorem dL_law_1539 : decode cL_law 1539 = .ok (.iadd, 1) := by decide +kernel
theorem dL_law_1540 : decode cL_law 1540 = .ok (.iaload, 1) := by decide +kernel
theorem dL_law_1541 : decode cL_law 1541 = .ok (.invokevirtual 179, 3) := by decide +kernel
theorem dL_law_1544 : decode cL_law 1544 = .ok (.if_icmp .eq 81, 3) := by decide +kernel
theorem dL_law_1549 : decode cL_law 1549 = .ok (.aload_n 1, 1) := by decide +kernel
theorem dL_law_1550 : decode cL_law 1550 = .ok (.aload_n 0, 1) := by decide +kernel
theorem dL_law_1551 : decode cL_law 1551 = .ok (.iload 4, 2) := by decide +kernel
theorem dL_law_1553 : decode cL_law 1553 = .ok (.iconst 1, 1) := by decide +kernel
theorem dL_law_1554 : decode cL_law 1554 = .ok (.iadd, 1) := by decide +kernel
theorem dL_law_1555 : decode cL_law 1555 = .ok (.iaload, 1) := by decide +kernel
theorem dL_law_1556 : decode cL_law 1556 = .ok (.invokevirtual 180, 3) := by decide +kernel
theorem dL_law_1559 : decode cL_law 1559 = .ok (.aload_n 2, 1) := by decide +kernel
theorem dL_law_1560 : decode cL_law 1560 = .ok (.aload_n 0, 1) := by decide +kernel
theorem dL_law_1561 : decode cL_law 1561 = .ok (.iload 4, 2) := by decide +kernel
theorem dL_law_1563 : decode cL_law 1563 = .ok (.iconst 1, 1) := by decide +kernel
theorem dL_law_1564 : decode cL_law 1564 = .ok (.iadd, 1) := by decide +kernel
theorem dL_law_1565 : decode cL_law 1565 = .ok (.iaload, 1) := by decide +kernel
theorem dL_law_1566 : decode cL_law 1566 = .ok (.invokevirtual 183, 3) := by decide +kernel
theorem dL_law_1569 : decode cL_law 1569 = .ok (.if_icmp .eq 56, 3) := by decide +kernel
theorem dL_law_1574 : decode cL_law 1574 = .ok (.aload_n 1, 1) := by decide +kernel
theorem dL_law_1575 : decode cL_law 1575 = .ok (.invokevirtual 184, 3) := by decide +kernel
theorem dL_law_1578 : decode cL_law 1578 = .ok (.aload_n 2, 1) := by decide +kernel
theorem dL_law_1579 : decode cL_law 1579 = .ok (.invokevirtual 187, 3) := by decide +kernel
theorem dL_law_1582 : decode cL_law 1582 = .ok (.if_icmp .eq 43, 3) := by decide +kernel
theorem dL_law_1587 : decode cL_law 1587 = .ok (.aload_n 1, 1) := by decide +kernel
theorem dL_law_1588 : decode cL_law 1588 = .ok (.invokevirtual 188, 3) := by decide +kernel
theorem dL_law_1591 : decode cL_law 1591 = .ok (.aload_n 2, 1) := by decide +kernel
theorem dL_law_1592 : decode cL_law 1592 = .ok (.invokevirtual 191, 3) := by decide +kernel
theorem dL_law_1595 : decode cL_law 1595 = .ok (.if_icmp .eq 30, 3) := by decide +kernel
theorem dL_law_1600 : decode cL_law 1600 = .ok (.aload_n 1, 1) := by decide +kernel
theorem dL_law_1601 : decode cL_law 1601 = .ok (.aload_n 0, 1) := by decide +kernel
theorem dL_law_1602 : decode cL_law 1602 = .ok (.iload 4, 2) := by decide +kernel
theorem dL_law_1604 : decode cL_law 1604 = .ok (.iconst 1, 1) := by decide +kernel
theorem dL_law_1605 : decode cL_law 1605 = .ok (.iadd, 1) := by decide +kernel
theorem dL_law_1606 : decode cL_law 1606 = .ok (.iaload, 1) := by decide +kernel
theorem dL_law_1607 : decode cL_law 1607 = .ok (.invokevirtual 192, 3) := by decide +kernel
theorem dL_law_1610 : decode cL_law 1610 = .ok (.aload_n 2, 1) := by decide +kernel
theorem dL_law_1611 : decode cL_law 1611 = .ok (.aload_n 0, 1) := by decide +kernel
theorem dL_law_1612 : decode cL_law 1612 = .ok (.iload 4, 2) := by decide +kernel
theorem dL_law_1614 : decode cL_law 1614 = .ok (.iconst 1, 1) := by decide +kernel
theorem dL_law_1615 : decode cL_law 1615 = .ok (.iadd, 1) := by decide +kernel
theorem dL_law_1616 : decode cL_law 1616 = .ok (.iaload, 1) := by decide +kernel
theorem dL_law_1617 : decode cL_law 1617 = .ok (.invokevirtual 195, 3) := by decide +kernel
theorem dL_law_1620 : decode cL_law 1620 = .ok (.if_icmp .eq 5, 3) := by decide +kernel
/-! the law, open in the simulations -/
def Sim_feed (n : Nat) (R : Mm → Mm → Prop) : Prop := ∀ (x1 : Int32) (x2 : Int32) (x3 : Int32) (x4 : Int32) (x5 : Int32) (h g : Mm), R h g → ∃ (r : Int32) (h2 g2 : Mm), X11_feed n x1 x2 x3 x4 x5 h = some (r, h2) ∧ X12_feed n x1 x2 x3 x4 x5 g = some (r, g2) ∧ R h2 g2
def Sim_end (n : Nat) (R : Mm → Mm → Prop) : Prop := ∀ (x1 : Int32) (h g : Mm), R h g → ∃ (r : Bool) (h2 g2 : Mm), X11_end x1 h = some (r, h2) ∧ X12_end x1 g = some (r, g2) ∧ R h2 g2
def Sim_fault (n : Nat) (R : Mm → Mm → Prop) : Prop := ∀ (x1 : Int32) (h g : Mm), R h g → ∃ (r : Int32) (h2 g2 : Mm), X11_fault n x1 h = some (r, h2) ∧ X12_fault n x1 g = some (r, g2) ∧ R h2 g2
def Sim_text (n : Nat) (R : Mm → Mm → Prop) : Prop := ∀ (x1 : Int32) (h g : Mm), R h g → ∃ (r : Int32) (h2 g2 : Mm), X11_text n x1 h = some (r, h2) ∧ X12_text n x1 g = some (r, g2) ∧ R h2 g2
def Sim_rule (n : Nat) (R : Mm → Mm → Prop) : Prop := ∀ (x1 : Int32) (h g : Mm), R h g → ∃ (r : Int32) (g2 : Mm), X11_rule x1 h = some r ∧ X12_rule x1 g = some (r, g2) ∧ R h g2
def Sim_tome (n : Nat) (R : Mm → Mm → Prop) : Prop := ∀ (x1 : Int32) (x2 : Int32) (h g : Mm), R h g → ∃ (r : Int32) (g2 : Mm), X11_tome x1 x2 h = some r ∧ X12_tome x1 x2 g = some (r, g2) ∧ R h g2
def Sim_bored (n : Nat) (R : Mm → Mm → Prop) : Prop := ∀ (x1 : Int32) (h g : Mm), R h g → ∃ (r : Int32) (g2 : Mm), X11_bored x1 h = some r ∧ X12_bored x1 g = some (r, g2) ∧ R h g2
def Sim_law (n : Nat) (R : Mm → Mm → Prop) : Prop := ∀ (x1 : Int32) (h g : Mm), R h g → ∃ (r : Bool) (h2 g2 : Mm), X11_law x1 h = some (r, h2) ∧ X12_law x1 g = some (r, g2) ∧ R h2 g2
def Sim_hush (n : Nat) (R : Mm → Mm → Prop) : Prop := ∀ (x1 : Int32) (h g : Mm), R h g → ∃ (r : Bool) (h2 g2 : Mm), X11_hush x1 h = some (r, h2) ∧ X12_hush x1 g = some (r, g2) ∧ R h2 g2
def Sim_read (n : Nat) (R : Mm → Mm → Prop) : Prop := ∀ (x1 : Int32) (x2 : Int32) (x3 : Bool) (h g : Mm), R h g → ∃ (r : Int32) (h2 g2 : Mm), X11_read n x1 x2 x3 h = some (r, h2) ∧ X12_read n x1 x2 x3 g = some (r, g2) ∧ R h2 g2
def Sim_milk (n : Nat) (R : Mm → Mm → Prop) : Prop := ∀  (h g : Mm), R h g → ∃ (r : Int32) (h2 g2 : Mm), X11_milk h = some (r, h2) ∧ X12_milk n g = some (r, g2) ∧ R h2 g2
def Sim_goes (n : Nat) (R : Mm → Mm → Prop) : Prop := ∀ (x1 : Int32) (h g : Mm), R h g → ∃ (r : Int32) (h2 g2 : Mm), X11_goes x1 h = some (r, h2) ∧ X12_goes n x1 g = some (r, g2) ∧ R h2 g2
def Sim_voice (n : Nat) (R : Mm → Mm → Prop) : Prop := ∀ (x1 : Int32) (x2 : Int32) (h g : Mm), R h g → ∃ (r : Int32) (h2 g2 : Mm), X11_voice x1 x2 h = some (r, h2) ∧ X12_voice n x1 x2 g = some (r, g2) ∧ R h2 g2
def Sim_night (n : Nat) (R : Mm → Mm → Prop) : Prop := ∀  (h g : Mm), R h g → ∃ (r : Int32) (h2 g2 : Mm), X11_night n h = some (r, h2) ∧ X12_night n g = some (r, g2) ∧ R h2 g2
def Sim_years (n : Nat) (R : Mm → Mm → Prop) : Prop := ∀ (x1 : Int32) (x2 : Int64) (h g : Mm), R h g → ∃ (r : Int32) (h2 g2 : Mm), X11_years n x1 x2 h = some (r, h2) ∧ X12_years n x1 x2 g = some (r, g2) ∧ R h2 g2
def Sim_undo (n : Nat) (R : Mm → Mm → Prop) : Prop := ∀  (h g : Mm), R h g → ∃ (r : Int32) (h2 g2 : Mm), X11_undo h = some (r, h2) ∧ X12_undo n g = some (r, g2) ∧ R h2 g2
def Sim_log (n : Nat) (R : Mm → Mm → Prop) : Prop := ∀ (x1 : Int32) (x2 : Int32) (h g : Mm), R h g → ∃ (r : Int32) (g2 : Mm), X11_log x1 x2 h = some r ∧ X12_log x1 x2 g = some (r, g2) ∧ R h g2
def Sim_step (n : Nat) (R : Mm → Mm → Prop) : Prop := ∀ (x1 : Int32) (x2 : Int32) (x3 : Int32) (h g : Mm), R h g → ∃ (r : Int32) (g2 : Mm), X11_step x1 x2 x3 h = some r ∧ X12_step x1 x2 x3 g = some (r, g2) ∧ R h g2
def Sim_run (n : Nat) (R : Mm → Mm → Prop) : Prop := ∀ (x1 : Int32) (x2 : Int32) (h g : Mm), R h g → ∃ (r : Int32) (h2 g2 : Mm), X11_run n x1 x2 h = some (r, h2) ∧ X12_run n x1 x2 g = some (r, g2) ∧ R h2 g2
def Sim_perform (n : Nat) (R : Mm → Mm → Prop) : Prop := ∀ (x1 : Int32) (h g : Mm), R h g → ∃ (r : Int32) (h2 g2 : Mm), X11_perform n x1 h = some (r, h2) ∧ X12_perform n x1 g = some (r, g2) ∧ R h2 g2
def Sim_calms (n : Nat) (R : Mm → Mm → Prop) : Prop := ∀ (x1 : Int32) (x2 : Int32) (h g : Mm), R h g → ∃ (r : Int32) (h2 g2 : Mm), X11_calms n x1 x2 h = some (r, h2) ∧ X12_calms n x1 x2 g = some (r, g2) ∧ R h2 g2
def Sim_least (n : Nat) (R : Mm → Mm → Prop) : Prop := ∀ (x1 : Int32) (h g : Mm), R h g → ∃ (r : Int32) (h2 g2 : Mm), X11_least n x1 h = some (r, h2) ∧ X12_least n x1 g = some (r, g2) ∧ R h2 g2
def Sim_best (n : Nat) (R : Mm → Mm → Prop) : Prop := ∀ (x1 : Int32) (x2 : Int32) (h g : Mm), R h g → ∃ (r : Int32) (h2 g2 : Mm), X11_best n x1 x2 h = some (r, h2) ∧ X12_best n x1 x2 g = some (r, g2) ∧ R h2 g2
def Sim_roster (n : Nat) (R : Mm → Mm → Prop) : Prop := ∀ (x1 : Int32) (x2 : Int32) (h g : Mm), R h g → ∃ (r : Int32) (h2 g2 : Mm), X11_roster n x1 x2 h = some (r, h2) ∧ X12_roster n x1 x2 g = some (r, g2) ∧ R h2 g2
def Sim_seen (n : Nat) (R : Mm → Mm → Prop) : Prop := ∀ (x1 : Int32) (x2 : Int32) (x3 : Int32) (x4 : Int32) (x5 : Bool) (h g : Mm), R h g → ∃ (r : Int32) (h2 g2 : Mm), X11_seen x1 x2 x3 x4 x5 h = some (r, h2) ∧ X12_seen x1 x2 x3 x4 x5 g = some (r, g2) ∧ R h2 g2
def Sim_likes (n : Nat) (R : Mm → Mm → Prop) : Prop := ∀ (x1 : Int32) (h g : Mm), R h g → ∃ (r : Int32) (h2 g2 : Mm), X11_likes n x1 h = some (r, h2) ∧ X12_likes n x1 g = some (r, g2) ∧ R h2 g2
def Sim_probe (n : Nat) (R : Mm → Mm → Prop) : Prop := ∀ (x1 : Int32) (x2 : Int32) (h g : Mm), R h g → ∃ (r : Int32) (h2 g2 : Mm), X11_probe n x1 x2 h = some (r, h2) ∧ X12_probe n x1 x2 g = some (r, g2) ∧ R h2 g2
def Sim_which (n : Nat) (R : Mm → Mm → Prop) : Prop := ∀ (x1 : Int32) (x2 : Int32) (h g : Mm), R h g → ∃ (r : Int32) (h2 g2 : Mm), X11_which n x1 x2 h = some (r, h2) ∧ X12_which n x1 x2 g = some (r, g2) ∧ R h2 g2
def Sim_game (n : Nat) (R : Mm → Mm → Prop) : Prop := ∀ (x1 : Int32) (x2 : Int32) (x3 : Int32) (x4 : Int32) (x5 : Int32) (x6 : Int32) (h g : Mm), R h g → ∃ (r : Int32) (h2 g2 : Mm), X11_game n x1 x2 x3 x4 x5 x6 h = some (r, h2) ∧ X12_game n x1 x2 x3 x4 x5 x6 g = some (r, g2) ∧ R h2 g2
def Sim_rests (n : Nat) (R : Mm → Mm → Prop) : Prop := ∀ (x1 : Int32) (x2 : Int32) (x3 : Int32) (x4 : Int32) (h g : Mm), R h g → ∃ (r : Int32) (h2 g2 : Mm), X11_rests n x1 x2 x3 x4 h = some (r, h2) ∧ X12_rests n x1 x2 x3 x4 g = some (r, g2) ∧ R h2 g2
def Sim_odds (n : Nat) (R : Mm → Mm → Prop) : Prop := ∀ (x1 : Int32) (x2 : Int32) (h g : Mm), R h g → ∃ (r : Int32) (g2 : Mm), X11_odds n x1 x2 h = some r ∧ X12_odds n x1 x2 g = some (r, g2) ∧ R h g2
def Sim_lasts (n : Nat) (R : Mm → Mm → Prop) : Prop := ∀ (x1 : Int32) (h g : Mm), R h g → ∃ (r : Int32) (h2 g2 : Mm), X11_lasts n x1 h = some (r, h2) ∧ X12_lasts n x1 g = some (r, g2) ∧ R h2 g2
def Sim_quiet (n : Nat) (R : Mm → Mm → Prop) : Prop := ∀  (h g : Mm), R h g → ∃ (r : Int32) (g2 : Mm), X11_quiet n h = some r ∧ X12_quiet n g = some (r, g2) ∧ R h g2
def Sim_all (n : Nat) (R : Mm → Mm → Prop) : Prop := ∀ (x1 : Int32) (h g : Mm), R h g → ∃ (r : Int32) (g2 : Mm), X11_all n x1 h = some r ∧ X12_all n x1 g = some (r, g2) ∧ R h g2
def Sim_pages (n : Nat) (R : Mm → Mm → Prop) : Prop := ∀ (x1 : Int32) (h g : Mm), R h g → ∃ (r : Int32) (g2 : Mm), X11_pages n x1 h = some r ∧ X12_pages n x1 g = some (r, g2) ∧ R h g2
def Sim_left (n : Nat) (R : Mm → Mm → Prop) : Prop := ∀ (x1 : Int32) (h g : Mm), R h g → ∃ (r : Int32) (g2 : Mm), X11_left x1 h = some r ∧ X12_left x1 g = some (r, g2) ∧ R h g2
def Sim_image (n : Nat) (R : Mm → Mm → Prop) : Prop := ∀  (h g : Mm), R h g → ∃ (r : Int32) (h2 g2 : Mm), X11_image h = some (r, h2) ∧ X12_image n g = some (r, g2) ∧ R h2 g2
def Sim_back (n : Nat) (R : Mm → Mm → Prop) : Prop := ∀  (h g : Mm), R h g → ∃ (r : Int32) (h2 g2 : Mm), X11_back h = some (r, h2) ∧ X12_back n g = some (r, g2) ∧ R h2 g2
def Sim_count (n : Nat) (R : Mm → Mm → Prop) : Prop := ∀ (x1 : Int32) (h g : Mm), R h g → ∃ (r : Int32) (g2 : Mm), X11_count x1 h = some r ∧ X12_count x1 g = some (r, g2) ∧ R h g2
set_option maxRecDepth 100000 in
set_option maxHeartbeats 4000000 in
theorem law_case_0 {X : WX} {G : GX} {n cells slots : Nat} {Q : State → Prop} {R : Mm → Mm → Prop} {i : Int32} {h g : Mm} (S_feed : Sim_feed n R) (hR : R h g) (hin : ∀ k : Int32, 0 ≤ k.toInt ∧ k.toInt ≤ 6 → inB (i + k) (xn X)) (hcs : cells ≤ (gR G).cells ∧ slots ≤ (gR G).slots) (fin : ∀ h g, R h g → V X G RL cL_law 7 (some .boolean) 120 cells slots Q true g 1625 [(0, .ref (xa X 1000)), (1, .ref (xa X 0)), (2, .ref (xa X 251)), (3, .ref (xa X 273)), (4, .int i)] [] h) : V X G RL cL_law 7 (some .boolean) 120 cells slots Q true g 216 [(0, .ref (xa X 1000)), (1, .ref (xa X 0)), (2, .ref (xa X 251)), (3, .ref (xa X 273)), (4, .int i)] [] h := by
  refine V.aload_n 1 dL_law_216 rfl rfl ?_
  refine V.aload_n 0 dL_law_217 rfl rfl ?_
  refine V.iload 4 dL_law_218 rfl ?_
  refine V.iconst (v := 1) dL_law_220 rfl ?_
  refine V.iadd dL_law_221 ?_
  refine V.ialdL (hin 1 (by decide)) dL_law_222 ?_
  refine V.aload_n 0 dL_law_223 rfl rfl ?_
  refine V.iload 4 dL_law_224 rfl ?_
  refine V.iconst (v := 2) dL_law_226 rfl ?_
  refine V.iadd dL_law_227 ?_
  refine V.ialdL (hin 2 (by decide)) dL_law_228 ?_
  refine V.aload_n 0 dL_law_229 rfl rfl ?_
  refine V.iload 4 dL_law_230 rfl ?_
  refine V.iconst (v := 3) dL_law_232 rfl ?_
  refine V.iadd dL_law_233 ?_
  refine V.ialdL (hin 3 (by decide)) dL_law_234 ?_
  refine V.aload_n 0 dL_law_235 rfl rfl ?_
  refine V.iload 4 dL_law_236 rfl ?_
  refine V.iconst (v := 4) dL_law_238 rfl ?_
  refine V.iadd dL_law_239 ?_
  refine V.ialdL (hin 4 (by decide)) dL_law_240 ?_
  refine V.aload_n 0 dL_law_241 rfl rfl ?_
  refine V.iload 4 dL_law_242 rfl ?_
  refine V.iconst (v := 5) dL_law_244 rfl ?_
  refine V.iadd dL_law_245 ?_
  refine V.ialdL (hin 5 (by decide)) dL_law_246 ?_
  obtain ⟨r, h2, g2, e1, e2, hR2⟩ := S_feed (xs X (i + 1).toNatClampNeg) (xs X (i + 2).toNatClampNeg) (xs X (i + 3).toNatClampNeg) (xs X (i + 4).toNatClampNeg) (xs X (i + 5).toNatClampNeg) h g hR
  refine V.callL mf_X11_feed ml_L_19 sh_0 (s_X11_feed e1) (by decide) rfl rfl (Nat.le_of_ble_eq_true rfl) hcs dL_law_247 ?_
  refine V.aload_n 2 dL_law_250 rfl rfl ?_
  refine V.aload_n 0 dL_law_251 rfl rfl ?_
  refine V.iload 4 dL_law_252 rfl ?_
  refine V.iconst (v := 1) dL_law_254 rfl ?_
  refine V.iadd dL_law_255 ?_
  refine V.ialdL (hin 1 (by decide)) dL_law_256 ?_
  refine V.aload_n 0 dL_law_257 rfl rfl ?_
  refine V.iload 4 dL_law_258 rfl ?_
  refine V.iconst (v := 2) dL_law_260 rfl ?_
  refine V.iadd dL_law_261 ?_
  refine V.ialdL (hin 2 (by decide)) dL_law_262 ?_
  refine V.aload_n 0 dL_law_263 rfl rfl ?_
  refine V.iload 4 dL_law_264 rfl ?_
  refine V.iconst (v := 3) dL_law_266 rfl ?_
  refine V.iadd dL_law_267 ?_
  refine V.ialdL (hin 3 (by decide)) dL_law_268 ?_
  refine V.aload_n 0 dL_law_269 rfl rfl ?_
  refine V.iload 4 dL_law_270 rfl ?_
  refine V.iconst (v := 4) dL_law_272 rfl ?_
  refine V.iadd dL_law_273 ?_
  refine V.ialdL (hin 4 (by decide)) dL_law_274 ?_
  refine V.aload_n 0 dL_law_275 rfl rfl ?_
  refine V.iload 4 dL_law_276 rfl ?_
  refine V.iconst (v := 5) dL_law_278 rfl ?_
  refine V.iadd dL_law_279 ?_
  refine V.ialdL (hin 5 (by decide)) dL_law_280 ?_
  refine V.swap rfl ?_
  refine V.callL mf_X12_feed ml_L_23 sh_251 (s_X12_feed e2) (by decide) rfl rfl (Nat.le_of_ble_eq_true rfl) hcs dL_law_281 ?_
  refine V.swap rfl ?_
  refine V.icmp_eq (tgt := 1625) dL_law_284 rfl (fun _ => ?_) (fun q => absurd rfl q)
  exact fin h2 g2 hR2
set_option maxRecDepth 100000 in
set_option maxHeartbeats 4000000 in
theorem law_case_1 {X : WX} {G : GX} {n cells slots : Nat} {Q : State → Prop} {R : Mm → Mm → Prop} {i : Int32} {h g : Mm} (S_end : Sim_end n R) (hR : R h g) (hin : ∀ k : Int32, 0 ≤ k.toInt ∧ k.toInt ≤ 6 → inB (i + k) (xn X)) (hcs : cells ≤ (gR G).cells ∧ slots ≤ (gR G).slots) (fin : ∀ h g, R h g → V X G RL cL_law 7 (some .boolean) 120 cells slots Q true g 1625 [(0, .ref (xa X 1000)), (1, .ref (xa X 0)), (2, .ref (xa X 251)), (3, .ref (xa X 273)), (4, .int i)] [] h) : V X G RL cL_law 7 (some .boolean) 120 cells slots Q true g 289 [(0, .ref (xa X 1000)), (1, .ref (xa X 0)), (2, .ref (xa X 251)), (3, .ref (xa X 273)), (4, .int i)] [] h := by
  refine V.aload_n 1 dL_law_289 rfl rfl ?_
  refine V.aload_n 0 dL_law_290 rfl rfl ?_
  refine V.iload 4 dL_law_291 rfl ?_
  refine V.iconst (v := 1) dL_law_293 rfl ?_
  refine V.iadd dL_law_294 ?_
  refine V.ialdL (hin 1 (by decide)) dL_law_295 ?_
  obtain ⟨r, h2, g2, e1, e2, hR2⟩ := S_end (xs X (i + 1).toNatClampNeg) h g hR
  refine V.callL mf_X11_end ml_L_24 sh_0 (s_X11_end e1) (by decide) rfl rfl (Nat.le_of_ble_eq_true rfl) hcs dL_law_296 ?_
  refine V.aload_n 2 dL_law_299 rfl rfl ?_
  refine V.aload_n 0 dL_law_300 rfl rfl ?_
  refine V.iload 4 dL_law_301 rfl ?_
  refine V.iconst (v := 1) dL_law_303 rfl ?_
  refine V.iadd dL_law_304 ?_
  refine V.ialdL (hin 1 (by decide)) dL_law_305 ?_
  refine V.swap rfl ?_
  refine V.callL mf_X12_end ml_L_28 sh_251 (s_X12_end e2) (by decide) rfl rfl (Nat.le_of_ble_eq_true rfl) hcs dL_law_306 ?_
  refine V.swap rfl ?_
  refine V.icmp_eq (tgt := 1625) dL_law_309 rfl (fun _ => ?_) (fun q => absurd rfl q)
  exact fin h2 g2 hR2
set_option maxRecDepth 100000 in
set_option maxHeartbeats 4000000 in
theorem law_case_2 {X : WX} {G : GX} {n cells slots : Nat} {Q : State → Prop} {R : Mm → Mm → Prop} {i : Int32} {h g : Mm} (S_fault : Sim_fault n R) (hR : R h g) (hin : ∀ k : Int32, 0 ≤ k.toInt ∧ k.toInt ≤ 6 → inB (i + k) (xn X)) (hcs : cells ≤ (gR G).cells ∧ slots ≤ (gR G).slots) (fin : ∀ h g, R h g → V X G RL cL_law 7 (some .boolean) 120 cells slots Q true g 1625 [(0, .ref (xa X 1000)), (1, .ref (xa X 0)), (2, .ref (xa X 251)), (3, .ref (xa X 273)), (4, .int i)] [] h) : V X G RL cL_law 7 (some .boolean) 120 cells slots Q true g 314 [(0, .ref (xa X 1000)), (1, .ref (xa X 0)), (2, .ref (xa X 251)), (3, .ref (xa X 273)), (4, .int i)] [] h := by
  refine V.aload_n 1 dL_law_314 rfl rfl ?_
  refine V.aload_n 0 dL_law_315 rfl rfl ?_
  refine V.iload 4 dL_law_316 rfl ?_
  refine V.iconst (v := 1) dL_law_318 rfl ?_
  refine V.iadd dL_law_319 ?_
  refine V.ialdL (hin 1 (by decide)) dL_law_320 ?_
  obtain ⟨r, h2, g2, e1, e2, hR2⟩ := S_fault (xs X (i + 1).toNatClampNeg) h g hR
  refine V.callL mf_X11_fault ml_L_29 sh_0 (s_X11_fault e1) (by decide) rfl rfl (Nat.le_of_ble_eq_true rfl) hcs dL_law_321 ?_
  refine V.aload_n 2 dL_law_324 rfl rfl ?_
  refine V.aload_n 0 dL_law_325 rfl rfl ?_
  refine V.iload 4 dL_law_326 rfl ?_
  refine V.iconst (v := 1) dL_law_328 rfl ?_
  refine V.iadd dL_law_329 ?_
  refine V.ialdL (hin 1 (by decide)) dL_law_330 ?_
  refine V.swap rfl ?_
  refine V.callL mf_X12_fault ml_L_33 sh_251 (s_X12_fault e2) (by decide) rfl rfl (Nat.le_of_ble_eq_true rfl) hcs dL_law_331 ?_
  refine V.swap rfl ?_
  refine V.icmp_eq (tgt := 1625) dL_law_334 rfl (fun _ => ?_) (fun q => absurd rfl q)
  exact fin h2 g2 hR2
set_option maxRecDepth 100000 in
set_option maxHeartbeats 4000000 in
theorem law_case_3 {X : WX} {G : GX} {n cells slots : Nat} {Q : State → Prop} {R : Mm → Mm → Prop} {i : Int32} {h g : Mm} (S_text : Sim_text n R) (hR : R h g) (hin : ∀ k : Int32, 0 ≤ k.toInt ∧ k.toInt ≤ 6 → inB (i + k) (xn X)) (hcs : cells ≤ (gR G).cells ∧ slots ≤ (gR G).slots) (fin : ∀ h g, R h g → V X G RL cL_law 7 (some .boolean) 120 cells slots Q true g 1625 [(0, .ref (xa X 1000)), (1, .ref (xa X 0)), (2, .ref (xa X 251)), (3, .ref (xa X 273)), (4, .int i)] [] h) : V X G RL cL_law 7 (some .boolean) 120 cells slots Q true g 339 [(0, .ref (xa X 1000)), (1, .ref (xa X 0)), (2, .ref (xa X 251)), (3, .ref (xa X 273)), (4, .int i)] [] h := by
  refine V.aload_n 1 dL_law_339 rfl rfl ?_
  refine V.aload_n 0 dL_law_340 rfl rfl ?_
  refine V.iload 4 dL_law_341 rfl ?_
  refine V.iconst (v := 1) dL_law_343 rfl ?_
  refine V.iadd dL_law_344 ?_
  refine V.ialdL (hin 1 (by decide)) dL_law_345 ?_
  obtain ⟨r, h2, g2, e1, e2, hR2⟩ := S_text (xs X (i + 1).toNatClampNeg) h g hR
  refine V.callL mf_X11_text ml_L_34 sh_0 (s_X11_text e1) (by decide) rfl rfl (Nat.le_of_ble_eq_true rfl) hcs dL_law_346 ?_
  refine V.aload_n 2 dL_law_349 rfl rfl ?_
  refine V.aload_n 0 dL_law_350 rfl rfl ?_
  refine V.iload 4 dL_law_351 rfl ?_
  refine V.iconst (v := 1) dL_law_353 rfl ?_
  refine V.iadd dL_law_354 ?_
  refine V.ialdL (hin 1 (by decide)) dL_law_355 ?_
  refine V.swap rfl ?_
  refine V.callL mf_X12_text ml_L_37 sh_251 (s_X12_text e2) (by decide) rfl rfl (Nat.le_of_ble_eq_true rfl) hcs dL_law_356 ?_
  refine V.swap rfl ?_
  refine V.icmp_eq (tgt := 1625) dL_law_359 rfl (fun _ => ?_) (fun q => absurd rfl q)
  exact fin h2 g2 hR2
set_option maxRecDepth 100000 in
set_option maxHeartbeats 4000000 in
theorem law_case_4 {X : WX} {G : GX} {n cells slots : Nat} {Q : State → Prop} {R : Mm → Mm → Prop} {i : Int32} {h g : Mm} (S_rule : Sim_rule n R) (hR : R h g) (hin : ∀ k : Int32, 0 ≤ k.toInt ∧ k.toInt ≤ 6 → inB (i + k) (xn X)) (hcs : cells ≤ (gR G).cells ∧ slots ≤ (gR G).slots) (fin : ∀ h g, R h g → V X G RL cL_law 7 (some .boolean) 120 cells slots Q true g 1625 [(0, .ref (xa X 1000)), (1, .ref (xa X 0)), (2, .ref (xa X 251)), (3, .ref (xa X 273)), (4, .int i)] [] h) : V X G RL cL_law 7 (some .boolean) 120 cells slots Q true g 364 [(0, .ref (xa X 1000)), (1, .ref (xa X 0)), (2, .ref (xa X 251)), (3, .ref (xa X 273)), (4, .int i)] [] h := by
  refine V.aload_n 1 dL_law_364 rfl rfl ?_
  refine V.aload_n 0 dL_law_365 rfl rfl ?_
  refine V.iload 4 dL_law_366 rfl ?_
  refine V.iconst (v := 1) dL_law_368 rfl ?_
  refine V.iadd dL_law_369 ?_
  refine V.ialdL (hin 1 (by decide)) dL_law_370 ?_
  obtain ⟨r, g2, e1, e2, hR2⟩ := S_rule (xs X (i + 1).toNatClampNeg) h g hR
  refine V.callL mf_X11_rule ml_L_38 sh_0 (s_X11_rule e1) (by decide) rfl rfl (Nat.le_of_ble_eq_true rfl) hcs dL_law_371 ?_
  refine V.aload_n 2 dL_law_374 rfl rfl ?_
  refine V.aload_n 0 dL_law_375 rfl rfl ?_
  refine V.iload 4 dL_law_376 rfl ?_
  refine V.iconst (v := 1) dL_law_378 rfl ?_
  refine V.iadd dL_law_379 ?_
  refine V.ialdL (hin 1 (by decide)) dL_law_380 ?_
  refine V.swap rfl ?_
  refine V.callL mf_X12_rule ml_L_41 sh_251 (s_X12_rule e2) (by decide) rfl rfl (Nat.le_of_ble_eq_true rfl) hcs dL_law_381 ?_
  refine V.swap rfl ?_
  refine V.icmp_eq (tgt := 1625) dL_law_384 rfl (fun _ => ?_) (fun q => absurd rfl q)
  exact fin h g2 hR2
set_option maxRecDepth 100000 in
set_option maxHeartbeats 4000000 in
theorem law_case_5 {X : WX} {G : GX} {n cells slots : Nat} {Q : State → Prop} {R : Mm → Mm → Prop} {i : Int32} {h g : Mm} (S_tome : Sim_tome n R) (hR : R h g) (hin : ∀ k : Int32, 0 ≤ k.toInt ∧ k.toInt ≤ 6 → inB (i + k) (xn X)) (hcs : cells ≤ (gR G).cells ∧ slots ≤ (gR G).slots) (fin : ∀ h g, R h g → V X G RL cL_law 7 (some .boolean) 120 cells slots Q true g 1625 [(0, .ref (xa X 1000)), (1, .ref (xa X 0)), (2, .ref (xa X 251)), (3, .ref (xa X 273)), (4, .int i)] [] h) : V X G RL cL_law 7 (some .boolean) 120 cells slots Q true g 389 [(0, .ref (xa X 1000)), (1, .ref (xa X 0)), (2, .ref (xa X 251)), (3, .ref (xa X 273)), (4, .int i)] [] h := by
  refine V.aload_n 1 dL_law_389 rfl rfl ?_
  refine V.aload_n 0 dL_law_390 rfl rfl ?_
  refine V.iload 4 dL_law_391 rfl ?_
  refine V.iconst (v := 1) dL_law_393 rfl ?_
  refine V.iadd dL_law_394 ?_
  refine V.ialdL (hin 1 (by decide)) dL_law_395 ?_
  refine V.aload_n 0 dL_law_396 rfl rfl ?_
  refine V.iload 4 dL_law_397 rfl ?_
  refine V.iconst (v := 2) dL_law_399 rfl ?_
  refine V.iadd dL_law_400 ?_
  refine V.ialdL (hin 2 (by decide)) dL_law_401 ?_
  obtain ⟨r, g2, e1, e2, hR2⟩ := S_tome (xs X (i + 1).toNatClampNeg) (xs X (i + 2).toNatClampNeg) h g hR
  refine V.callL mf_X11_tome ml_L_42 sh_0 (s_X11_tome e1) (by decide) rfl rfl (Nat.le_of_ble_eq_true rfl) hcs dL_law_402 ?_
  refine V.aload_n 2 dL_law_405 rfl rfl ?_
  refine V.aload_n 0 dL_law_406 rfl rfl ?_
  refine V.iload 4 dL_law_407 rfl ?_
  refine V.iconst (v := 1) dL_law_409 rfl ?_
  refine V.iadd dL_law_410 ?_
  refine V.ialdL (hin 1 (by decide)) dL_law_411 ?_
  refine V.aload_n 0 dL_law_412 rfl rfl ?_
  refine V.iload 4 dL_law_413 rfl ?_
  refine V.iconst (v := 2) dL_law_415 rfl ?_
  refine V.iadd dL_law_416 ?_
  refine V.ialdL (hin 2 (by decide)) dL_law_417 ?_
  refine V.swap rfl ?_
  refine V.callL mf_X12_tome ml_L_45 sh_251 (s_X12_tome e2) (by decide) rfl rfl (Nat.le_of_ble_eq_true rfl) hcs dL_law_418 ?_
  refine V.swap rfl ?_
  refine V.icmp_eq (tgt := 1625) dL_law_421 rfl (fun _ => ?_) (fun q => absurd rfl q)
  exact fin h g2 hR2
set_option maxRecDepth 100000 in
set_option maxHeartbeats 4000000 in
theorem law_case_7 {X : WX} {G : GX} {n cells slots : Nat} {Q : State → Prop} {R : Mm → Mm → Prop} {i : Int32} {h g : Mm} (S_bored : Sim_bored n R) (hR : R h g) (hin : ∀ k : Int32, 0 ≤ k.toInt ∧ k.toInt ≤ 6 → inB (i + k) (xn X)) (hcs : cells ≤ (gR G).cells ∧ slots ≤ (gR G).slots) (fin : ∀ h g, R h g → V X G RL cL_law 7 (some .boolean) 120 cells slots Q true g 1625 [(0, .ref (xa X 1000)), (1, .ref (xa X 0)), (2, .ref (xa X 251)), (3, .ref (xa X 273)), (4, .int i)] [] h) : V X G RL cL_law 7 (some .boolean) 120 cells slots Q true g 494 [(0, .ref (xa X 1000)), (1, .ref (xa X 0)), (2, .ref (xa X 251)), (3, .ref (xa X 273)), (4, .int i)] [] h := by
  refine V.aload_n 1 dL_law_494 rfl rfl ?_
  refine V.aload_n 0 dL_law_495 rfl rfl ?_
  refine V.iload 4 dL_law_496 rfl ?_
  refine V.iconst (v := 1) dL_law_498 rfl ?_
  refine V.iadd dL_law_499 ?_
  refine V.ialdL (hin 1 (by decide)) dL_law_500 ?_
  obtain ⟨r, g2, e1, e2, hR2⟩ := S_bored (xs X (i + 1).toNatClampNeg) h g hR
  refine V.callL mf_X11_bored ml_L_56 sh_0 (s_X11_bored e1) (by decide) rfl rfl (Nat.le_of_ble_eq_true rfl) hcs dL_law_501 ?_
  refine V.aload_n 2 dL_law_504 rfl rfl ?_
  refine V.aload_n 0 dL_law_505 rfl rfl ?_
  refine V.iload 4 dL_law_506 rfl ?_
  refine V.iconst (v := 1) dL_law_508 rfl ?_
  refine V.iadd dL_law_509 ?_
  refine V.ialdL (hin 1 (by decide)) dL_law_510 ?_
  refine V.swap rfl ?_
  refine V.callL mf_X12_bored ml_L_59 sh_251 (s_X12_bored e2) (by decide) rfl rfl (Nat.le_of_ble_eq_true rfl) hcs dL_law_511 ?_
  refine V.swap rfl ?_
  refine V.icmp_eq (tgt := 1625) dL_law_514 rfl (fun _ => ?_) (fun q => absurd rfl q)
  exact fin h g2 hR2
set_option maxRecDepth 100000 in
set_option maxHeartbeats 4000000 in
theorem law_case_8 {X : WX} {G : GX} {n cells slots : Nat} {Q : State → Prop} {R : Mm → Mm → Prop} {i : Int32} {h g : Mm} (S_law : Sim_law n R) (hR : R h g) (hin : ∀ k : Int32, 0 ≤ k.toInt ∧ k.toInt ≤ 6 → inB (i + k) (xn X)) (hcs : cells ≤ (gR G).cells ∧ slots ≤ (gR G).slots) (fin : ∀ h g, R h g → V X G RL cL_law 7 (some .boolean) 120 cells slots Q true g 1625 [(0, .ref (xa X 1000)), (1, .ref (xa X 0)), (2, .ref (xa X 251)), (3, .ref (xa X 273)), (4, .int i)] [] h) : V X G RL cL_law 7 (some .boolean) 120 cells slots Q true g 519 [(0, .ref (xa X 1000)), (1, .ref (xa X 0)), (2, .ref (xa X 251)), (3, .ref (xa X 273)), (4, .int i)] [] h := by
  refine V.aload_n 1 dL_law_519 rfl rfl ?_
  refine V.aload_n 0 dL_law_520 rfl rfl ?_
  refine V.iload 4 dL_law_521 rfl ?_
  refine V.iconst (v := 1) dL_law_523 rfl ?_
  refine V.iadd dL_law_524 ?_
  refine V.ialdL (hin 1 (by decide)) dL_law_525 ?_
  obtain ⟨r, h2, g2, e1, e2, hR2⟩ := S_law (xs X (i + 1).toNatClampNeg) h g hR
  refine V.callL mf_X11_law ml_L_60 sh_0 (s_X11_law e1) (by decide) rfl rfl (Nat.le_of_ble_eq_true rfl) hcs dL_law_526 ?_
  refine V.aload_n 2 dL_law_529 rfl rfl ?_
  refine V.aload_n 0 dL_law_530 rfl rfl ?_
  refine V.iload 4 dL_law_531 rfl ?_
  refine V.iconst (v := 1) dL_law_533 rfl ?_
  refine V.iadd dL_law_534 ?_
  refine V.ialdL (hin 1 (by decide)) dL_law_535 ?_
  refine V.swap rfl ?_
  refine V.callL mf_X12_law ml_L_63 sh_251 (s_X12_law e2) (by decide) rfl rfl (Nat.le_of_ble_eq_true rfl) hcs dL_law_536 ?_
  refine V.swap rfl ?_
  refine V.icmp_eq (tgt := 1625) dL_law_539 rfl (fun _ => ?_) (fun q => absurd rfl q)
  exact fin h2 g2 hR2
set_option maxRecDepth 100000 in
set_option maxHeartbeats 4000000 in
theorem law_case_9 {X : WX} {G : GX} {n cells slots : Nat} {Q : State → Prop} {R : Mm → Mm → Prop} {i : Int32} {h g : Mm} (S_hush : Sim_hush n R) (hR : R h g) (hin : ∀ k : Int32, 0 ≤ k.toInt ∧ k.toInt ≤ 6 → inB (i + k) (xn X)) (hcs : cells ≤ (gR G).cells ∧ slots ≤ (gR G).slots) (fin : ∀ h g, R h g → V X G RL cL_law 7 (some .boolean) 120 cells slots Q true g 1625 [(0, .ref (xa X 1000)), (1, .ref (xa X 0)), (2, .ref (xa X 251)), (3, .ref (xa X 273)), (4, .int i)] [] h) : V X G RL cL_law 7 (some .boolean) 120 cells slots Q true g 544 [(0, .ref (xa X 1000)), (1, .ref (xa X 0)), (2, .ref (xa X 251)), (3, .ref (xa X 273)), (4, .int i)] [] h := by
  refine V.aload_n 1 dL_law_544 rfl rfl ?_
  refine V.aload_n 0 dL_law_545 rfl rfl ?_
  refine V.iload 4 dL_law_546 rfl ?_
  refine V.iconst (v := 1) dL_law_548 rfl ?_
  refine V.iadd dL_law_549 ?_
  refine V.ialdL (hin 1 (by decide)) dL_law_550 ?_
  obtain ⟨r, h2, g2, e1, e2, hR2⟩ := S_hush (xs X (i + 1).toNatClampNeg) h g hR
  refine V.callL mf_X11_hush ml_L_64 sh_0 (s_X11_hush e1) (by decide) rfl rfl (Nat.le_of_ble_eq_true rfl) hcs dL_law_551 ?_
  refine V.aload_n 2 dL_law_554 rfl rfl ?_
  refine V.aload_n 0 dL_law_555 rfl rfl ?_
  refine V.iload 4 dL_law_556 rfl ?_
  refine V.iconst (v := 1) dL_law_558 rfl ?_
  refine V.iadd dL_law_559 ?_
  refine V.ialdL (hin 1 (by decide)) dL_law_560 ?_
  refine V.swap rfl ?_
  refine V.callL mf_X12_hush ml_L_67 sh_251 (s_X12_hush e2) (by decide) rfl rfl (Nat.le_of_ble_eq_true rfl) hcs dL_law_561 ?_
  refine V.swap rfl ?_
  refine V.icmp_eq (tgt := 1625) dL_law_564 rfl (fun _ => ?_) (fun q => absurd rfl q)
  exact fin h2 g2 hR2
set_option maxRecDepth 100000 in
set_option maxHeartbeats 4000000 in
theorem law_case_10 {X : WX} {G : GX} {n cells slots : Nat} {Q : State → Prop} {R : Mm → Mm → Prop} {i : Int32} {h g : Mm} (S_read : Sim_read n R) (hR : R h g) (hin : ∀ k : Int32, 0 ≤ k.toInt ∧ k.toInt ≤ 6 → inB (i + k) (xn X)) (hcs : cells ≤ (gR G).cells ∧ slots ≤ (gR G).slots) (fin : ∀ h g, R h g → V X G RL cL_law 7 (some .boolean) 120 cells slots Q true g 1625 [(0, .ref (xa X 1000)), (1, .ref (xa X 0)), (2, .ref (xa X 251)), (3, .ref (xa X 273)), (4, .int i)] [] h) : V X G RL cL_law 7 (some .boolean) 120 cells slots Q true g 569 [(0, .ref (xa X 1000)), (1, .ref (xa X 0)), (2, .ref (xa X 251)), (3, .ref (xa X 273)), (4, .int i)] [] h := by
  refine V.aload_n 1 dL_law_569 rfl rfl ?_
  refine V.aload_n 0 dL_law_570 rfl rfl ?_
  refine V.iload 4 dL_law_571 rfl ?_
  refine V.iconst (v := 1) dL_law_573 rfl ?_
  refine V.iadd dL_law_574 ?_
  refine V.ialdL (hin 1 (by decide)) dL_law_575 ?_
  refine V.aload_n 0 dL_law_576 rfl rfl ?_
  refine V.iload 4 dL_law_577 rfl ?_
  refine V.iconst (v := 2) dL_law_579 rfl ?_
  refine V.iadd dL_law_580 ?_
  refine V.ialdL (hin 2 (by decide)) dL_law_581 ?_
  refine V.aload_n 0 dL_law_582 rfl rfl ?_
  refine V.iload 4 dL_law_583 rfl ?_
  refine V.iconst (v := 3) dL_law_585 rfl ?_
  refine V.iadd dL_law_586 ?_
  refine V.ialdL (hin 3 (by decide)) dL_law_587 ?_
  refine V.if_eq (tgt := 595) dL_law_588 rfl (fun c3 => ?_) (fun c3 => ?_)
  ·
    refine V.iconst (v := 0) dL_law_595 rfl ?_
    obtain ⟨r, h2, g2, e1, e2, hR2⟩ := S_read (xs X (i + 1).toNatClampNeg) (xs X (i + 2).toNatClampNeg) false h g hR
    refine V.callL mf_X11_read ml_L_68 sh_0 (s_X11_read e1) (by decide) rfl rfl (Nat.le_of_ble_eq_true rfl) hcs dL_law_596 ?_
    refine V.aload_n 2 dL_law_599 rfl rfl ?_
    refine V.aload_n 0 dL_law_600 rfl rfl ?_
    refine V.iload 4 dL_law_601 rfl ?_
    refine V.iconst (v := 1) dL_law_603 rfl ?_
    refine V.iadd dL_law_604 ?_
    refine V.ialdL (hin 1 (by decide)) dL_law_605 ?_
    refine V.aload_n 0 dL_law_606 rfl rfl ?_
    refine V.iload 4 dL_law_607 rfl ?_
    refine V.iconst (v := 2) dL_law_609 rfl ?_
    refine V.iadd dL_law_610 ?_
    refine V.ialdL (hin 2 (by decide)) dL_law_611 ?_
    refine V.aload_n 0 dL_law_612 rfl rfl ?_
    refine V.iload 4 dL_law_613 rfl ?_
    refine V.iconst (v := 3) dL_law_615 rfl ?_
    refine V.iadd dL_law_616 ?_
    refine V.ialdL (hin 3 (by decide)) dL_law_617 ?_
    refine V.if_eq (tgt := 625) dL_law_618 rfl (fun _ => ?_) (fun q => absurd c3 q)
    refine V.iconst (v := 0) dL_law_625 rfl ?_
    refine V.swap rfl ?_
    refine V.callL mf_X12_read ml_L_72 sh_251 (s_X12_read e2) (by decide) rfl rfl (Nat.le_of_ble_eq_true rfl) hcs dL_law_626 ?_
    refine V.swap rfl ?_
    refine V.icmp_eq (tgt := 1625) dL_law_629 rfl (fun _ => ?_) (fun q => absurd rfl q)
    exact fin h2 g2 hR2
  ·
    refine V.iconst (v := 1) dL_law_591 rfl ?_
    refine V.goto (tgt := 596) dL_law_592 rfl ?_
    obtain ⟨r, h2, g2, e1, e2, hR2⟩ := S_read (xs X (i + 1).toNatClampNeg) (xs X (i + 2).toNatClampNeg) true h g hR
    refine V.callL mf_X11_read ml_L_68 sh_0 (s_X11_read e1) (by decide) rfl rfl (Nat.le_of_ble_eq_true rfl) hcs dL_law_596 ?_
    refine V.aload_n 2 dL_law_599 rfl rfl ?_
    refine V.aload_n 0 dL_law_600 rfl rfl ?_
    refine V.iload 4 dL_law_601 rfl ?_
    refine V.iconst (v := 1) dL_law_603 rfl ?_
    refine V.iadd dL_law_604 ?_
    refine V.ialdL (hin 1 (by decide)) dL_law_605 ?_
    refine V.aload_n 0 dL_law_606 rfl rfl ?_
    refine V.iload 4 dL_law_607 rfl ?_
    refine V.iconst (v := 2) dL_law_609 rfl ?_
    refine V.iadd dL_law_610 ?_
    refine V.ialdL (hin 2 (by decide)) dL_law_611 ?_
    refine V.aload_n 0 dL_law_612 rfl rfl ?_
    refine V.iload 4 dL_law_613 rfl ?_
    refine V.iconst (v := 3) dL_law_615 rfl ?_
    refine V.iadd dL_law_616 ?_
    refine V.ialdL (hin 3 (by decide)) dL_law_617 ?_
    refine V.if_eq (tgt := 625) dL_law_618 rfl (fun q => absurd q c3) (fun _ => ?_)
    refine V.iconst (v := 1) dL_law_621 rfl ?_
    refine V.goto (tgt := 626) dL_law_622 rfl ?_
    refine V.swap rfl ?_
    refine V.callL mf_X12_read ml_L_72 sh_251 (s_X12_read e2) (by decide) rfl rfl (Nat.le_of_ble_eq_true rfl) hcs dL_law_626 ?_
    refine V.swap rfl ?_
    refine V.icmp_eq (tgt := 1625) dL_law_629 rfl (fun _ => ?_) (fun q => absurd rfl q)
    exact fin h2 g2 hR2
set_option maxRecDepth 100000 in
set_option maxHeartbeats 4000000 in
theorem law_case_11 {X : WX} {G : GX} {n cells slots : Nat} {Q : State → Prop} {R : Mm → Mm → Prop} {i : Int32} {h g : Mm} (S_milk : Sim_milk n R) (hR : R h g) (hin : ∀ k : Int32, 0 ≤ k.toInt ∧ k.toInt ≤ 6 → inB (i + k) (xn X)) (hcs : cells ≤ (gR G).cells ∧ slots ≤ (gR G).slots) (fin : ∀ h g, R h g → V X G RL cL_law 7 (some .boolean) 120 cells slots Q true g 1625 [(0, .ref (xa X 1000)), (1, .ref (xa X 0)), (2, .ref (xa X 251)), (3, .ref (xa X 273)), (4, .int i)] [] h) : V X G RL cL_law 7 (some .boolean) 120 cells slots Q true g 634 [(0, .ref (xa X 1000)), (1, .ref (xa X 0)), (2, .ref (xa X 251)), (3, .ref (xa X 273)), (4, .int i)] [] h := by
  refine V.aload_n 1 dL_law_634 rfl rfl ?_
  obtain ⟨r, h2, g2, e1, e2, hR2⟩ := S_milk  h g hR
  refine V.callL mf_X11_milk ml_L_73 sh_0 (s_X11_milk e1) (by decide) rfl rfl (Nat.le_of_ble_eq_true rfl) hcs dL_law_635 ?_
  refine V.aload_n 2 dL_law_638 rfl rfl ?_
  refine V.swap rfl ?_
  refine V.callL mf_X12_milk ml_L_76 sh_251 (s_X12_milk e2) (by decide) rfl rfl (Nat.le_of_ble_eq_true rfl) hcs dL_law_639 ?_
  refine V.swap rfl ?_
  refine V.icmp_eq (tgt := 1625) dL_law_642 rfl (fun _ => ?_) (fun q => absurd rfl q)
  exact fin h2 g2 hR2
set_option maxRecDepth 100000 in
set_option maxHeartbeats 4000000 in
theorem law_case_12 {X : WX} {G : GX} {n cells slots : Nat} {Q : State → Prop} {R : Mm → Mm → Prop} {i : Int32} {h g : Mm} (S_goes : Sim_goes n R) (hR : R h g) (hin : ∀ k : Int32, 0 ≤ k.toInt ∧ k.toInt ≤ 6 → inB (i + k) (xn X)) (hcs : cells ≤ (gR G).cells ∧ slots ≤ (gR G).slots) (fin : ∀ h g, R h g → V X G RL cL_law 7 (some .boolean) 120 cells slots Q true g 1625 [(0, .ref (xa X 1000)), (1, .ref (xa X 0)), (2, .ref (xa X 251)), (3, .ref (xa X 273)), (4, .int i)] [] h) : V X G RL cL_law 7 (some .boolean) 120 cells slots Q true g 647 [(0, .ref (xa X 1000)), (1, .ref (xa X 0)), (2, .ref (xa X 251)), (3, .ref (xa X 273)), (4, .int i)] [] h := by
  refine V.aload_n 1 dL_law_647 rfl rfl ?_
  refine V.aload_n 0 dL_law_648 rfl rfl ?_
  refine V.iload 4 dL_law_649 rfl ?_
  refine V.iconst (v := 1) dL_law_651 rfl ?_
  refine V.iadd dL_law_652 ?_
  refine V.ialdL (hin 1 (by decide)) dL_law_653 ?_
  obtain ⟨r, h2, g2, e1, e2, hR2⟩ := S_goes (xs X (i + 1).toNatClampNeg) h g hR
  refine V.callL mf_X11_goes ml_L_77 sh_0 (s_X11_goes e1) (by decide) rfl rfl (Nat.le_of_ble_eq_true rfl) hcs dL_law_654 ?_
  refine V.aload_n 2 dL_law_657 rfl rfl ?_
  refine V.aload_n 0 dL_law_658 rfl rfl ?_
  refine V.iload 4 dL_law_659 rfl ?_
  refine V.iconst (v := 1) dL_law_661 rfl ?_
  refine V.iadd dL_law_662 ?_
  refine V.ialdL (hin 1 (by decide)) dL_law_663 ?_
  refine V.swap rfl ?_
  refine V.callL mf_X12_goes ml_L_80 sh_251 (s_X12_goes e2) (by decide) rfl rfl (Nat.le_of_ble_eq_true rfl) hcs dL_law_664 ?_
  refine V.swap rfl ?_
  refine V.icmp_eq (tgt := 1625) dL_law_667 rfl (fun _ => ?_) (fun q => absurd rfl q)
  exact fin h2 g2 hR2
set_option maxRecDepth 100000 in
set_option maxHeartbeats 4000000 in
theorem law_case_13 {X : WX} {G : GX} {n cells slots : Nat} {Q : State → Prop} {R : Mm → Mm → Prop} {i : Int32} {h g : Mm} (S_voice : Sim_voice n R) (hR : R h g) (hin : ∀ k : Int32, 0 ≤ k.toInt ∧ k.toInt ≤ 6 → inB (i + k) (xn X)) (hcs : cells ≤ (gR G).cells ∧ slots ≤ (gR G).slots) (fin : ∀ h g, R h g → V X G RL cL_law 7 (some .boolean) 120 cells slots Q true g 1625 [(0, .ref (xa X 1000)), (1, .ref (xa X 0)), (2, .ref (xa X 251)), (3, .ref (xa X 273)), (4, .int i)] [] h) : V X G RL cL_law 7 (some .boolean) 120 cells slots Q true g 672 [(0, .ref (xa X 1000)), (1, .ref (xa X 0)), (2, .ref (xa X 251)), (3, .ref (xa X 273)), (4, .int i)] [] h := by
  refine V.aload_n 1 dL_law_672 rfl rfl ?_
  refine V.aload_n 0 dL_law_673 rfl rfl ?_
  refine V.iload 4 dL_law_674 rfl ?_
  refine V.iconst (v := 1) dL_law_676 rfl ?_
  refine V.iadd dL_law_677 ?_
  refine V.ialdL (hin 1 (by decide)) dL_law_678 ?_
  refine V.aload_n 0 dL_law_679 rfl rfl ?_
  refine V.iload 4 dL_law_680 rfl ?_
  refine V.iconst (v := 2) dL_law_682 rfl ?_
  refine V.iadd dL_law_683 ?_
  refine V.ialdL (hin 2 (by decide)) dL_law_684 ?_
  obtain ⟨r, h2, g2, e1, e2, hR2⟩ := S_voice (xs X (i + 1).toNatClampNeg) (xs X (i + 2).toNatClampNeg) h g hR
  refine V.callL mf_X11_voice ml_L_81 sh_0 (s_X11_voice e1) (by decide) rfl rfl (Nat.le_of_ble_eq_true rfl) hcs dL_law_685 ?_
  refine V.aload_n 2 dL_law_688 rfl rfl ?_
  refine V.aload_n 0 dL_law_689 rfl rfl ?_
  refine V.iload 4 dL_law_690 rfl ?_
  refine V.iconst (v := 1) dL_law_692 rfl ?_
  refine V.iadd dL_law_693 ?_
  refine V.ialdL (hin 1 (by decide)) dL_law_694 ?_
  refine V.aload_n 0 dL_law_695 rfl rfl ?_
  refine V.iload 4 dL_law_696 rfl ?_
  refine V.iconst (v := 2) dL_law_698 rfl ?_
  refine V.iadd dL_law_699 ?_
  refine V.ialdL (hin 2 (by decide)) dL_law_700 ?_
  refine V.swap rfl ?_
  refine V.callL mf_X12_voice ml_L_84 sh_251 (s_X12_voice e2) (by decide) rfl rfl (Nat.le_of_ble_eq_true rfl) hcs dL_law_701 ?_
  refine V.swap rfl ?_
  refine V.icmp_eq (tgt := 1625) dL_law_704 rfl (fun _ => ?_) (fun q => absurd rfl q)
  exact fin h2 g2 hR2
set_option maxRecDepth 100000 in
set_option maxHeartbeats 4000000 in
theorem law_case_14 {X : WX} {G : GX} {n cells slots : Nat} {Q : State → Prop} {R : Mm → Mm → Prop} {i : Int32} {h g : Mm} (S_night : Sim_night n R) (hR : R h g) (hin : ∀ k : Int32, 0 ≤ k.toInt ∧ k.toInt ≤ 6 → inB (i + k) (xn X)) (hcs : cells ≤ (gR G).cells ∧ slots ≤ (gR G).slots) (fin : ∀ h g, R h g → V X G RL cL_law 7 (some .boolean) 120 cells slots Q true g 1625 [(0, .ref (xa X 1000)), (1, .ref (xa X 0)), (2, .ref (xa X 251)), (3, .ref (xa X 273)), (4, .int i)] [] h) : V X G RL cL_law 7 (some .boolean) 120 cells slots Q true g 709 [(0, .ref (xa X 1000)), (1, .ref (xa X 0)), (2, .ref (xa X 251)), (3, .ref (xa X 273)), (4, .int i)] [] h := by
  refine V.aload_n 1 dL_law_709 rfl rfl ?_
  obtain ⟨r, h2, g2, e1, e2, hR2⟩ := S_night  h g hR
  refine V.callL mf_X11_night ml_L_85 sh_0 (s_X11_night e1) (by decide) rfl rfl (Nat.le_of_ble_eq_true rfl) hcs dL_law_710 ?_
  refine V.aload_n 2 dL_law_713 rfl rfl ?_
  refine V.swap rfl ?_
  refine V.callL mf_X12_night ml_L_88 sh_251 (s_X12_night e2) (by decide) rfl rfl (Nat.le_of_ble_eq_true rfl) hcs dL_law_714 ?_
  refine V.swap rfl ?_
  refine V.icmp_eq (tgt := 1625) dL_law_717 rfl (fun _ => ?_) (fun q => absurd rfl q)
  exact fin h2 g2 hR2
set_option maxRecDepth 100000 in
set_option maxHeartbeats 4000000 in
theorem law_case_15 {X : WX} {G : GX} {n cells slots : Nat} {Q : State → Prop} {R : Mm → Mm → Prop} {i : Int32} {h g : Mm} (S_years : Sim_years n R) (hR : R h g) (hin : ∀ k : Int32, 0 ≤ k.toInt ∧ k.toInt ≤ 6 → inB (i + k) (xn X)) (hcs : cells ≤ (gR G).cells ∧ slots ≤ (gR G).slots) (fin : ∀ h g, R h g → V X G RL cL_law 7 (some .boolean) 120 cells slots Q true g 1625 [(0, .ref (xa X 1000)), (1, .ref (xa X 0)), (2, .ref (xa X 251)), (3, .ref (xa X 273)), (4, .int i)] [] h) : V X G RL cL_law 7 (some .boolean) 120 cells slots Q true g 722 [(0, .ref (xa X 1000)), (1, .ref (xa X 0)), (2, .ref (xa X 251)), (3, .ref (xa X 273)), (4, .int i)] [] h := by
  refine V.aload_n 1 dL_law_722 rfl rfl ?_
  refine V.aload_n 0 dL_law_723 rfl rfl ?_
  refine V.iload 4 dL_law_724 rfl ?_
  refine V.iconst (v := 1) dL_law_726 rfl ?_
  refine V.iadd dL_law_727 ?_
  refine V.ialdL (hin 1 (by decide)) dL_law_728 ?_
  refine V.aload_n 0 dL_law_729 rfl rfl ?_
  refine V.iload 4 dL_law_730 rfl ?_
  refine V.iconst (v := 2) dL_law_732 rfl ?_
  refine V.iadd dL_law_733 ?_
  refine V.ialdL (hin 2 (by decide)) dL_law_734 ?_
  refine V.i2l dL_law_735 ?_
  refine V.bipush (v := 32) dL_law_736 (by decide) ?_
  refine V.lshl dL_law_738 ?_
  refine V.aload_n 0 dL_law_739 rfl rfl ?_
  refine V.iload 4 dL_law_740 rfl ?_
  refine V.iconst (v := 3) dL_law_742 rfl ?_
  refine V.iadd dL_law_743 ?_
  refine V.ialdL (hin 3 (by decide)) dL_law_744 ?_
  refine V.i2l dL_law_745 ?_
  refine V.ldc2 (v := 4294967295) dL_law_746 kc_L_89 ?_
  refine V.land dL_law_749 ?_
  refine V.lor dL_law_750 ?_
  obtain ⟨r, h2, g2, e1, e2, hR2⟩ := S_years (xs X (i + 1).toNatClampNeg) (((xs X (i + 2).toNatClampNeg).toInt64 <<< ((32 : Int32).toInt64 &&& 63)) ||| ((xs X (i + 3).toNatClampNeg).toInt64 &&& 4294967295)) h g hR
  refine V.callL mf_X11_years ml_L_91 sh_0 (s_X11_years e1) (by decide) rfl rfl (Nat.le_of_ble_eq_true rfl) hcs dL_law_751 ?_
  refine V.aload_n 2 dL_law_754 rfl rfl ?_
  refine V.aload_n 0 dL_law_755 rfl rfl ?_
  refine V.iload 4 dL_law_756 rfl ?_
  refine V.iconst (v := 1) dL_law_758 rfl ?_
  refine V.iadd dL_law_759 ?_
  refine V.ialdL (hin 1 (by decide)) dL_law_760 ?_
  refine V.aload_n 0 dL_law_761 rfl rfl ?_
  refine V.iload 4 dL_law_762 rfl ?_
  refine V.iconst (v := 2) dL_law_764 rfl ?_
  refine V.iadd dL_law_765 ?_
  refine V.ialdL (hin 2 (by decide)) dL_law_766 ?_
  refine V.i2l dL_law_767 ?_
  refine V.bipush (v := 32) dL_law_768 (by decide) ?_
  refine V.lshl dL_law_770 ?_
  refine V.aload_n 0 dL_law_771 rfl rfl ?_
  refine V.iload 4 dL_law_772 rfl ?_
  refine V.iconst (v := 3) dL_law_774 rfl ?_
  refine V.iadd dL_law_775 ?_
  refine V.ialdL (hin 3 (by decide)) dL_law_776 ?_
  refine V.i2l dL_law_777 ?_
  refine V.ldc2 (v := 4294967295) dL_law_778 kc_L_89 ?_
  refine V.land dL_law_781 ?_
  refine V.lor dL_law_782 ?_
  refine V.swap rfl ?_
  refine V.callL mf_X12_years ml_L_95 sh_251 (s_X12_years e2) (by decide) rfl rfl (Nat.le_of_ble_eq_true rfl) hcs dL_law_783 ?_
  refine V.swap rfl ?_
  refine V.icmp_eq (tgt := 1625) dL_law_786 rfl (fun _ => ?_) (fun q => absurd rfl q)
  exact fin h2 g2 hR2
set_option maxRecDepth 100000 in
set_option maxHeartbeats 4000000 in
theorem law_case_16 {X : WX} {G : GX} {n cells slots : Nat} {Q : State → Prop} {R : Mm → Mm → Prop} {i : Int32} {h g : Mm} (S_undo : Sim_undo n R) (hR : R h g) (hin : ∀ k : Int32, 0 ≤ k.toInt ∧ k.toInt ≤ 6 → inB (i + k) (xn X)) (hcs : cells ≤ (gR G).cells ∧ slots ≤ (gR G).slots) (fin : ∀ h g, R h g → V X G RL cL_law 7 (some .boolean) 120 cells slots Q true g 1625 [(0, .ref (xa X 1000)), (1, .ref (xa X 0)), (2, .ref (xa X 251)), (3, .ref (xa X 273)), (4, .int i)] [] h) : V X G RL cL_law 7 (some .boolean) 120 cells slots Q true g 791 [(0, .ref (xa X 1000)), (1, .ref (xa X 0)), (2, .ref (xa X 251)), (3, .ref (xa X 273)), (4, .int i)] [] h := by
  refine V.aload_n 1 dL_law_791 rfl rfl ?_
  obtain ⟨r, h2, g2, e1, e2, hR2⟩ := S_undo  h g hR
  refine V.callL mf_X11_undo ml_L_96 sh_0 (s_X11_undo e1) (by decide) rfl rfl (Nat.le_of_ble_eq_true rfl) hcs dL_law_792 ?_
  refine V.aload_n 2 dL_law_795 rfl rfl ?_
  refine V.swap rfl ?_
  refine V.callL mf_X12_undo ml_L_99 sh_251 (s_X12_undo e2) (by decide) rfl rfl (Nat.le_of_ble_eq_true rfl) hcs dL_law_796 ?_
  refine V.swap rfl ?_
  refine V.icmp_eq (tgt := 1625) dL_law_799 rfl (fun _ => ?_) (fun q => absurd rfl q)
  exact fin h2 g2 hR2
set_option maxRecDepth 100000 in
set_option maxHeartbeats 4000000 in
theorem law_case_17 {X : WX} {G : GX} {n cells slots : Nat} {Q : State → Prop} {R : Mm → Mm → Prop} {i : Int32} {h g : Mm} (S_log : Sim_log n R) (hR : R h g) (hin : ∀ k : Int32, 0 ≤ k.toInt ∧ k.toInt ≤ 6 → inB (i + k) (xn X)) (hcs : cells ≤ (gR G).cells ∧ slots ≤ (gR G).slots) (fin : ∀ h g, R h g → V X G RL cL_law 7 (some .boolean) 120 cells slots Q true g 1625 [(0, .ref (xa X 1000)), (1, .ref (xa X 0)), (2, .ref (xa X 251)), (3, .ref (xa X 273)), (4, .int i)] [] h) : V X G RL cL_law 7 (some .boolean) 120 cells slots Q true g 804 [(0, .ref (xa X 1000)), (1, .ref (xa X 0)), (2, .ref (xa X 251)), (3, .ref (xa X 273)), (4, .int i)] [] h := by
  refine V.aload_n 1 dL_law_804 rfl rfl ?_
  refine V.aload_n 0 dL_law_805 rfl rfl ?_
  refine V.iload 4 dL_law_806 rfl ?_
  refine V.iconst (v := 1) dL_law_808 rfl ?_
  refine V.iadd dL_law_809 ?_
  refine V.ialdL (hin 1 (by decide)) dL_law_810 ?_
  refine V.aload_n 0 dL_law_811 rfl rfl ?_
  refine V.iload 4 dL_law_812 rfl ?_
  refine V.iconst (v := 2) dL_law_814 rfl ?_
  refine V.iadd dL_law_815 ?_
  refine V.ialdL (hin 2 (by decide)) dL_law_816 ?_
  obtain ⟨r, g2, e1, e2, hR2⟩ := S_log (xs X (i + 1).toNatClampNeg) (xs X (i + 2).toNatClampNeg) h g hR
  refine V.callL mf_X11_log ml_L_100 sh_0 (s_X11_log e1) (by decide) rfl rfl (Nat.le_of_ble_eq_true rfl) hcs dL_law_817 ?_
  refine V.aload_n 2 dL_law_820 rfl rfl ?_
  refine V.aload_n 0 dL_law_821 rfl rfl ?_
  refine V.iload 4 dL_law_822 rfl ?_
  refine V.iconst (v := 1) dL_law_824 rfl ?_
  refine V.iadd dL_law_825 ?_
  refine V.ialdL (hin 1 (by decide)) dL_law_826 ?_
  refine V.aload_n 0 dL_law_827 rfl rfl ?_
  refine V.iload 4 dL_law_828 rfl ?_
  refine V.iconst (v := 2) dL_law_830 rfl ?_
  refine V.iadd dL_law_831 ?_
  refine V.ialdL (hin 2 (by decide)) dL_law_832 ?_
  refine V.swap rfl ?_
  refine V.callL mf_X12_log ml_L_103 sh_251 (s_X12_log e2) (by decide) rfl rfl (Nat.le_of_ble_eq_true rfl) hcs dL_law_833 ?_
  refine V.swap rfl ?_
  refine V.icmp_eq (tgt := 1625) dL_law_836 rfl (fun _ => ?_) (fun q => absurd rfl q)
  exact fin h g2 hR2
set_option maxRecDepth 100000 in
set_option maxHeartbeats 4000000 in
theorem law_case_18 {X : WX} {G : GX} {n cells slots : Nat} {Q : State → Prop} {R : Mm → Mm → Prop} {i : Int32} {h g : Mm} (S_step : Sim_step n R) (hR : R h g) (hin : ∀ k : Int32, 0 ≤ k.toInt ∧ k.toInt ≤ 6 → inB (i + k) (xn X)) (hcs : cells ≤ (gR G).cells ∧ slots ≤ (gR G).slots) (fin : ∀ h g, R h g → V X G RL cL_law 7 (some .boolean) 120 cells slots Q true g 1625 [(0, .ref (xa X 1000)), (1, .ref (xa X 0)), (2, .ref (xa X 251)), (3, .ref (xa X 273)), (4, .int i)] [] h) : V X G RL cL_law 7 (some .boolean) 120 cells slots Q true g 841 [(0, .ref (xa X 1000)), (1, .ref (xa X 0)), (2, .ref (xa X 251)), (3, .ref (xa X 273)), (4, .int i)] [] h := by
  refine V.aload_n 1 dL_law_841 rfl rfl ?_
  refine V.aload_n 0 dL_law_842 rfl rfl ?_
  refine V.iload 4 dL_law_843 rfl ?_
  refine V.iconst (v := 1) dL_law_845 rfl ?_
  refine V.iadd dL_law_846 ?_
  refine V.ialdL (hin 1 (by decide)) dL_law_847 ?_
  refine V.aload_n 0 dL_law_848 rfl rfl ?_
  refine V.iload 4 dL_law_849 rfl ?_
  refine V.iconst (v := 2) dL_law_851 rfl ?_
  refine V.iadd dL_law_852 ?_
  refine V.ialdL (hin 2 (by decide)) dL_law_853 ?_
  refine V.aload_n 0 dL_law_854 rfl rfl ?_
  refine V.iload 4 dL_law_855 rfl ?_
  refine V.iconst (v := 3) dL_law_857 rfl ?_
  refine V.iadd dL_law_858 ?_
  refine V.ialdL (hin 3 (by decide)) dL_law_859 ?_
  obtain ⟨r, g2, e1, e2, hR2⟩ := S_step (xs X (i + 1).toNatClampNeg) (xs X (i + 2).toNatClampNeg) (xs X (i + 3).toNatClampNeg) h g hR
  refine V.callL mf_X11_step ml_L_104 sh_0 (s_X11_step e1) (by decide) rfl rfl (Nat.le_of_ble_eq_true rfl) hcs dL_law_860 ?_
  refine V.aload_n 2 dL_law_863 rfl rfl ?_
  refine V.aload_n 0 dL_law_864 rfl rfl ?_
  refine V.iload 4 dL_law_865 rfl ?_
  refine V.iconst (v := 1) dL_law_867 rfl ?_
  refine V.iadd dL_law_868 ?_
  refine V.ialdL (hin 1 (by decide)) dL_law_869 ?_
  refine V.aload_n 0 dL_law_870 rfl rfl ?_
  refine V.iload 4 dL_law_871 rfl ?_
  refine V.iconst (v := 2) dL_law_873 rfl ?_
  refine V.iadd dL_law_874 ?_
  refine V.ialdL (hin 2 (by decide)) dL_law_875 ?_
  refine V.aload_n 0 dL_law_876 rfl rfl ?_
  refine V.iload 4 dL_law_877 rfl ?_
  refine V.iconst (v := 3) dL_law_879 rfl ?_
  refine V.iadd dL_law_880 ?_
  refine V.ialdL (hin 3 (by decide)) dL_law_881 ?_
  refine V.swap rfl ?_
  refine V.callL mf_X12_step ml_L_108 sh_251 (s_X12_step e2) (by decide) rfl rfl (Nat.le_of_ble_eq_true rfl) hcs dL_law_882 ?_
  refine V.swap rfl ?_
  refine V.icmp_eq (tgt := 1625) dL_law_885 rfl (fun _ => ?_) (fun q => absurd rfl q)
  exact fin h g2 hR2
set_option maxRecDepth 100000 in
set_option maxHeartbeats 4000000 in
theorem law_case_19 {X : WX} {G : GX} {n cells slots : Nat} {Q : State → Prop} {R : Mm → Mm → Prop} {i : Int32} {h g : Mm} (S_run : Sim_run n R) (hR : R h g) (hin : ∀ k : Int32, 0 ≤ k.toInt ∧ k.toInt ≤ 6 → inB (i + k) (xn X)) (hcs : cells ≤ (gR G).cells ∧ slots ≤ (gR G).slots) (fin : ∀ h g, R h g → V X G RL cL_law 7 (some .boolean) 120 cells slots Q true g 1625 [(0, .ref (xa X 1000)), (1, .ref (xa X 0)), (2, .ref (xa X 251)), (3, .ref (xa X 273)), (4, .int i)] [] h) : V X G RL cL_law 7 (some .boolean) 120 cells slots Q true g 890 [(0, .ref (xa X 1000)), (1, .ref (xa X 0)), (2, .ref (xa X 251)), (3, .ref (xa X 273)), (4, .int i)] [] h := by
  refine V.aload_n 1 dL_law_890 rfl rfl ?_
  refine V.aload_n 0 dL_law_891 rfl rfl ?_
  refine V.iload 4 dL_law_892 rfl ?_
  refine V.iconst (v := 1) dL_law_894 rfl ?_
  refine V.iadd dL_law_895 ?_
  refine V.ialdL (hin 1 (by decide)) dL_law_896 ?_
  refine V.aload_n 0 dL_law_897 rfl rfl ?_
  refine V.iload 4 dL_law_898 rfl ?_
  refine V.iconst (v := 2) dL_law_900 rfl ?_
  refine V.iadd dL_law_901 ?_
  refine V.ialdL (hin 2 (by decide)) dL_law_902 ?_
  obtain ⟨r, h2, g2, e1, e2, hR2⟩ := S_run (xs X (i + 1).toNatClampNeg) (xs X (i + 2).toNatClampNeg) h g hR
  refine V.callL mf_X11_run ml_L_109 sh_0 (s_X11_run e1) (by decide) rfl rfl (Nat.le_of_ble_eq_true rfl) hcs dL_law_903 ?_
  refine V.aload_n 2 dL_law_906 rfl rfl ?_
  refine V.aload_n 0 dL_law_907 rfl rfl ?_
  refine V.iload 4 dL_law_908 rfl ?_
  refine V.iconst (v := 1) dL_law_910 rfl ?_
  refine V.iadd dL_law_911 ?_
  refine V.ialdL (hin 1 (by decide)) dL_law_912 ?_
  refine V.aload_n 0 dL_law_913 rfl rfl ?_
  refine V.iload 4 dL_law_914 rfl ?_
  refine V.iconst (v := 2) dL_law_916 rfl ?_
  refine V.iadd dL_law_917 ?_
  refine V.ialdL (hin 2 (by decide)) dL_law_918 ?_
  refine V.swap rfl ?_
  refine V.callL mf_X12_run ml_L_112 sh_251 (s_X12_run e2) (by decide) rfl rfl (Nat.le_of_ble_eq_true rfl) hcs dL_law_919 ?_
  refine V.swap rfl ?_
  refine V.icmp_eq (tgt := 1625) dL_law_922 rfl (fun _ => ?_) (fun q => absurd rfl q)
  exact fin h2 g2 hR2
set_option maxRecDepth 100000 in
set_option maxHeartbeats 4000000 in
theorem law_case_20 {X : WX} {G : GX} {n cells slots : Nat} {Q : State → Prop} {R : Mm → Mm → Prop} {i : Int32} {h g : Mm} (S_perform : Sim_perform n R) (hR : R h g) (hin : ∀ k : Int32, 0 ≤ k.toInt ∧ k.toInt ≤ 6 → inB (i + k) (xn X)) (hcs : cells ≤ (gR G).cells ∧ slots ≤ (gR G).slots) (fin : ∀ h g, R h g → V X G RL cL_law 7 (some .boolean) 120 cells slots Q true g 1625 [(0, .ref (xa X 1000)), (1, .ref (xa X 0)), (2, .ref (xa X 251)), (3, .ref (xa X 273)), (4, .int i)] [] h) : V X G RL cL_law 7 (some .boolean) 120 cells slots Q true g 927 [(0, .ref (xa X 1000)), (1, .ref (xa X 0)), (2, .ref (xa X 251)), (3, .ref (xa X 273)), (4, .int i)] [] h := by
  refine V.aload_n 1 dL_law_927 rfl rfl ?_
  refine V.aload_n 0 dL_law_928 rfl rfl ?_
  refine V.iload 4 dL_law_929 rfl ?_
  refine V.iconst (v := 1) dL_law_931 rfl ?_
  refine V.iadd dL_law_932 ?_
  refine V.ialdL (hin 1 (by decide)) dL_law_933 ?_
  obtain ⟨r, h2, g2, e1, e2, hR2⟩ := S_perform (xs X (i + 1).toNatClampNeg) h g hR
  refine V.callL mf_X11_perform ml_L_113 sh_0 (s_X11_perform e1) (by decide) rfl rfl (Nat.le_of_ble_eq_true rfl) hcs dL_law_934 ?_
  refine V.aload_n 2 dL_law_937 rfl rfl ?_
  refine V.aload_n 0 dL_law_938 rfl rfl ?_
  refine V.iload 4 dL_law_939 rfl ?_
  refine V.iconst (v := 1) dL_law_941 rfl ?_
  refine V.iadd dL_law_942 ?_
  refine V.ialdL (hin 1 (by decide)) dL_law_943 ?_
  refine V.swap rfl ?_
  refine V.callL mf_X12_perform ml_L_116 sh_251 (s_X12_perform e2) (by decide) rfl rfl (Nat.le_of_ble_eq_true rfl) hcs dL_law_944 ?_
  refine V.swap rfl ?_
  refine V.icmp_eq (tgt := 1625) dL_law_947 rfl (fun _ => ?_) (fun q => absurd rfl q)
  exact fin h2 g2 hR2
set_option maxRecDepth 100000 in
set_option maxHeartbeats 4000000 in
theorem law_case_21 {X : WX} {G : GX} {n cells slots : Nat} {Q : State → Prop} {R : Mm → Mm → Prop} {i : Int32} {h g : Mm} (S_calms : Sim_calms n R) (hR : R h g) (hin : ∀ k : Int32, 0 ≤ k.toInt ∧ k.toInt ≤ 6 → inB (i + k) (xn X)) (hcs : cells ≤ (gR G).cells ∧ slots ≤ (gR G).slots) (fin : ∀ h g, R h g → V X G RL cL_law 7 (some .boolean) 120 cells slots Q true g 1625 [(0, .ref (xa X 1000)), (1, .ref (xa X 0)), (2, .ref (xa X 251)), (3, .ref (xa X 273)), (4, .int i)] [] h) : V X G RL cL_law 7 (some .boolean) 120 cells slots Q true g 952 [(0, .ref (xa X 1000)), (1, .ref (xa X 0)), (2, .ref (xa X 251)), (3, .ref (xa X 273)), (4, .int i)] [] h := by
  refine V.aload_n 1 dL_law_952 rfl rfl ?_
  refine V.aload_n 0 dL_law_953 rfl rfl ?_
  refine V.iload 4 dL_law_954 rfl ?_
  refine V.iconst (v := 1) dL_law_956 rfl ?_
  refine V.iadd dL_law_957 ?_
  refine V.ialdL (hin 1 (by decide)) dL_law_958 ?_
  refine V.aload_n 0 dL_law_959 rfl rfl ?_
  refine V.iload 4 dL_law_960 rfl ?_
  refine V.iconst (v := 2) dL_law_962 rfl ?_
  refine V.iadd dL_law_963 ?_
  refine V.ialdL (hin 2 (by decide)) dL_law_964 ?_
  obtain ⟨r, h2, g2, e1, e2, hR2⟩ := S_calms (xs X (i + 1).toNatClampNeg) (xs X (i + 2).toNatClampNeg) h g hR
  refine V.callL mf_X11_calms ml_L_117 sh_0 (s_X11_calms e1) (by decide) rfl rfl (Nat.le_of_ble_eq_true rfl) hcs dL_law_965 ?_
  refine V.aload_n 2 dL_law_968 rfl rfl ?_
  refine V.aload_n 0 dL_law_969 rfl rfl ?_
  refine V.iload 4 dL_law_970 rfl ?_
  refine V.iconst (v := 1) dL_law_972 rfl ?_
  refine V.iadd dL_law_973 ?_
  refine V.ialdL (hin 1 (by decide)) dL_law_974 ?_
  refine V.aload_n 0 dL_law_975 rfl rfl ?_
  refine V.iload 4 dL_law_976 rfl ?_
  refine V.iconst (v := 2) dL_law_978 rfl ?_
  refine V.iadd dL_law_979 ?_
  refine V.ialdL (hin 2 (by decide)) dL_law_980 ?_
  refine V.swap rfl ?_
  refine V.callL mf_X12_calms ml_L_120 sh_251 (s_X12_calms e2) (by decide) rfl rfl (Nat.le_of_ble_eq_true rfl) hcs dL_law_981 ?_
  refine V.swap rfl ?_
  refine V.icmp_eq (tgt := 1625) dL_law_984 rfl (fun _ => ?_) (fun q => absurd rfl q)
  exact fin h2 g2 hR2
set_option maxRecDepth 100000 in
set_option maxHeartbeats 4000000 in
theorem law_case_22 {X : WX} {G : GX} {n cells slots : Nat} {Q : State → Prop} {R : Mm → Mm → Prop} {i : Int32} {h g : Mm} (S_least : Sim_least n R) (hR : R h g) (hin : ∀ k : Int32, 0 ≤ k.toInt ∧ k.toInt ≤ 6 → inB (i + k) (xn X)) (hcs : cells ≤ (gR G).cells ∧ slots ≤ (gR G).slots) (fin : ∀ h g, R h g → V X G RL cL_law 7 (some .boolean) 120 cells slots Q true g 1625 [(0, .ref (xa X 1000)), (1, .ref (xa X 0)), (2, .ref (xa X 251)), (3, .ref (xa X 273)), (4, .int i)] [] h) : V X G RL cL_law 7 (some .boolean) 120 cells slots Q true g 989 [(0, .ref (xa X 1000)), (1, .ref (xa X 0)), (2, .ref (xa X 251)), (3, .ref (xa X 273)), (4, .int i)] [] h := by
  refine V.aload_n 1 dL_law_989 rfl rfl ?_
  refine V.aload_n 0 dL_law_990 rfl rfl ?_
  refine V.iload 4 dL_law_991 rfl ?_
  refine V.iconst (v := 1) dL_law_993 rfl ?_
  refine V.iadd dL_law_994 ?_
  refine V.ialdL (hin 1 (by decide)) dL_law_995 ?_
  obtain ⟨r, h2, g2, e1, e2, hR2⟩ := S_least (xs X (i + 1).toNatClampNeg) h g hR
  refine V.callL mf_X11_least ml_L_121 sh_0 (s_X11_least e1) (by decide) rfl rfl (Nat.le_of_ble_eq_true rfl) hcs dL_law_996 ?_
  refine V.aload_n 2 dL_law_999 rfl rfl ?_
  refine V.aload_n 0 dL_law_1000 rfl rfl ?_
  refine V.iload 4 dL_law_1001 rfl ?_
  refine V.iconst (v := 1) dL_law_1003 rfl ?_
  refine V.iadd dL_law_1004 ?_
  refine V.ialdL (hin 1 (by decide)) dL_law_1005 ?_
  refine V.swap rfl ?_
  refine V.callL mf_X12_least ml_L_124 sh_251 (s_X12_least e2) (by decide) rfl rfl (Nat.le_of_ble_eq_true rfl) hcs dL_law_1006 ?_
  refine V.swap rfl ?_
  refine V.icmp_eq (tgt := 1625) dL_law_1009 rfl (fun _ => ?_) (fun q => absurd rfl q)
  exact fin h2 g2 hR2
set_option maxRecDepth 100000 in
set_option maxHeartbeats 4000000 in
theorem law_case_23 {X : WX} {G : GX} {n cells slots : Nat} {Q : State → Prop} {R : Mm → Mm → Prop} {i : Int32} {h g : Mm} (S_best : Sim_best n R) (hR : R h g) (hin : ∀ k : Int32, 0 ≤ k.toInt ∧ k.toInt ≤ 6 → inB (i + k) (xn X)) (hcs : cells ≤ (gR G).cells ∧ slots ≤ (gR G).slots) (fin : ∀ h g, R h g → V X G RL cL_law 7 (some .boolean) 120 cells slots Q true g 1625 [(0, .ref (xa X 1000)), (1, .ref (xa X 0)), (2, .ref (xa X 251)), (3, .ref (xa X 273)), (4, .int i)] [] h) : V X G RL cL_law 7 (some .boolean) 120 cells slots Q true g 1014 [(0, .ref (xa X 1000)), (1, .ref (xa X 0)), (2, .ref (xa X 251)), (3, .ref (xa X 273)), (4, .int i)] [] h := by
  refine V.aload_n 1 dL_law_1014 rfl rfl ?_
  refine V.aload_n 0 dL_law_1015 rfl rfl ?_
  refine V.iload 4 dL_law_1016 rfl ?_
  refine V.iconst (v := 1) dL_law_1018 rfl ?_
  refine V.iadd dL_law_1019 ?_
  refine V.ialdL (hin 1 (by decide)) dL_law_1020 ?_
  refine V.aload_n 0 dL_law_1021 rfl rfl ?_
  refine V.iload 4 dL_law_1022 rfl ?_
  refine V.iconst (v := 2) dL_law_1024 rfl ?_
  refine V.iadd dL_law_1025 ?_
  refine V.ialdL (hin 2 (by decide)) dL_law_1026 ?_
  obtain ⟨r, h2, g2, e1, e2, hR2⟩ := S_best (xs X (i + 1).toNatClampNeg) (xs X (i + 2).toNatClampNeg) h g hR
  refine V.callL mf_X11_best ml_L_125 sh_0 (s_X11_best e1) (by decide) rfl rfl (Nat.le_of_ble_eq_true rfl) hcs dL_law_1027 ?_
  refine V.aload_n 2 dL_law_1030 rfl rfl ?_
  refine V.aload_n 0 dL_law_1031 rfl rfl ?_
  refine V.iload 4 dL_law_1032 rfl ?_
  refine V.iconst (v := 1) dL_law_1034 rfl ?_
  refine V.iadd dL_law_1035 ?_
  refine V.ialdL (hin 1 (by decide)) dL_law_1036 ?_
  refine V.aload_n 0 dL_law_1037 rfl rfl ?_
  refine V.iload 4 dL_law_1038 rfl ?_
  refine V.iconst (v := 2) dL_law_1040 rfl ?_
  refine V.iadd dL_law_1041 ?_
  refine V.ialdL (hin 2 (by decide)) dL_law_1042 ?_
  refine V.swap rfl ?_
  refine V.callL mf_X12_best ml_L_128 sh_251 (s_X12_best e2) (by decide) rfl rfl (Nat.le_of_ble_eq_true rfl) hcs dL_law_1043 ?_
  refine V.swap rfl ?_
  refine V.icmp_eq (tgt := 1625) dL_law_1046 rfl (fun _ => ?_) (fun q => absurd rfl q)
  exact fin h2 g2 hR2
set_option maxRecDepth 100000 in
set_option maxHeartbeats 4000000 in
theorem law_case_24 {X : WX} {G : GX} {n cells slots : Nat} {Q : State → Prop} {R : Mm → Mm → Prop} {i : Int32} {h g : Mm} (S_roster : Sim_roster n R) (hR : R h g) (hin : ∀ k : Int32, 0 ≤ k.toInt ∧ k.toInt ≤ 6 → inB (i + k) (xn X)) (hcs : cells ≤ (gR G).cells ∧ slots ≤ (gR G).slots) (fin : ∀ h g, R h g → V X G RL cL_law 7 (some .boolean) 120 cells slots Q true g 1625 [(0, .ref (xa X 1000)), (1, .ref (xa X 0)), (2, .ref (xa X 251)), (3, .ref (xa X 273)), (4, .int i)] [] h) : V X G RL cL_law 7 (some .boolean) 120 cells slots Q true g 1051 [(0, .ref (xa X 1000)), (1, .ref (xa X 0)), (2, .ref (xa X 251)), (3, .ref (xa X 273)), (4, .int i)] [] h := by
  refine V.aload_n 1 dL_law_1051 rfl rfl ?_
  refine V.aload_n 0 dL_law_1052 rfl rfl ?_
  refine V.iload 4 dL_law_1053 rfl ?_
  refine V.iconst (v := 1) dL_law_1055 rfl ?_
  refine V.iadd dL_law_1056 ?_
  refine V.ialdL (hin 1 (by decide)) dL_law_1057 ?_
  refine V.aload_n 0 dL_law_1058 rfl rfl ?_
  refine V.iload 4 dL_law_1059 rfl ?_
  refine V.iconst (v := 2) dL_law_1061 rfl ?_
  refine V.iadd dL_law_1062 ?_
  refine V.ialdL (hin 2 (by decide)) dL_law_1063 ?_
  obtain ⟨r, h2, g2, e1, e2, hR2⟩ := S_roster (xs X (i + 1).toNatClampNeg) (xs X (i + 2).toNatClampNeg) h g hR
  refine V.callL mf_X11_roster ml_L_129 sh_0 (s_X11_roster e1) (by decide) rfl rfl (Nat.le_of_ble_eq_true rfl) hcs dL_law_1064 ?_
  refine V.aload_n 2 dL_law_1067 rfl rfl ?_
  refine V.aload_n 0 dL_law_1068 rfl rfl ?_
  refine V.iload 4 dL_law_1069 rfl ?_
  refine V.iconst (v := 1) dL_law_1071 rfl ?_
  refine V.iadd dL_law_1072 ?_
  refine V.ialdL (hin 1 (by decide)) dL_law_1073 ?_
  refine V.aload_n 0 dL_law_1074 rfl rfl ?_
  refine V.iload 4 dL_law_1075 rfl ?_
  refine V.iconst (v := 2) dL_law_1077 rfl ?_
  refine V.iadd dL_law_1078 ?_
  refine V.ialdL (hin 2 (by decide)) dL_law_1079 ?_
  refine V.swap rfl ?_
  refine V.callL mf_X12_roster ml_L_132 sh_251 (s_X12_roster e2) (by decide) rfl rfl (Nat.le_of_ble_eq_true rfl) hcs dL_law_1080 ?_
  refine V.swap rfl ?_
  refine V.icmp_eq (tgt := 1625) dL_law_1083 rfl (fun _ => ?_) (fun q => absurd rfl q)
  exact fin h2 g2 hR2
set_option maxRecDepth 100000 in
set_option maxHeartbeats 4000000 in
theorem law_case_25 {X : WX} {G : GX} {n cells slots : Nat} {Q : State → Prop} {R : Mm → Mm → Prop} {i : Int32} {h g : Mm} (S_seen : Sim_seen n R) (hR : R h g) (hin : ∀ k : Int32, 0 ≤ k.toInt ∧ k.toInt ≤ 6 → inB (i + k) (xn X)) (hcs : cells ≤ (gR G).cells ∧ slots ≤ (gR G).slots) (fin : ∀ h g, R h g → V X G RL cL_law 7 (some .boolean) 120 cells slots Q true g 1625 [(0, .ref (xa X 1000)), (1, .ref (xa X 0)), (2, .ref (xa X 251)), (3, .ref (xa X 273)), (4, .int i)] [] h) : V X G RL cL_law 7 (some .boolean) 120 cells slots Q true g 1088 [(0, .ref (xa X 1000)), (1, .ref (xa X 0)), (2, .ref (xa X 251)), (3, .ref (xa X 273)), (4, .int i)] [] h := by
  refine V.aload_n 1 dL_law_1088 rfl rfl ?_
  refine V.aload_n 0 dL_law_1089 rfl rfl ?_
  refine V.iload 4 dL_law_1090 rfl ?_
  refine V.iconst (v := 1) dL_law_1092 rfl ?_
  refine V.iadd dL_law_1093 ?_
  refine V.ialdL (hin 1 (by decide)) dL_law_1094 ?_
  refine V.aload_n 0 dL_law_1095 rfl rfl ?_
  refine V.iload 4 dL_law_1096 rfl ?_
  refine V.iconst (v := 2) dL_law_1098 rfl ?_
  refine V.iadd dL_law_1099 ?_
  refine V.ialdL (hin 2 (by decide)) dL_law_1100 ?_
  refine V.aload_n 0 dL_law_1101 rfl rfl ?_
  refine V.iload 4 dL_law_1102 rfl ?_
  refine V.iconst (v := 3) dL_law_1104 rfl ?_
  refine V.iadd dL_law_1105 ?_
  refine V.ialdL (hin 3 (by decide)) dL_law_1106 ?_
  refine V.aload_n 0 dL_law_1107 rfl rfl ?_
  refine V.iload 4 dL_law_1108 rfl ?_
  refine V.iconst (v := 4) dL_law_1110 rfl ?_
  refine V.iadd dL_law_1111 ?_
  refine V.ialdL (hin 4 (by decide)) dL_law_1112 ?_
  refine V.aload_n 0 dL_law_1113 rfl rfl ?_
  refine V.iload 4 dL_law_1114 rfl ?_
  refine V.iconst (v := 5) dL_law_1116 rfl ?_
  refine V.iadd dL_law_1117 ?_
  refine V.ialdL (hin 5 (by decide)) dL_law_1118 ?_
  refine V.if_eq (tgt := 1126) dL_law_1119 rfl (fun c5 => ?_) (fun c5 => ?_)
  ·
    refine V.iconst (v := 0) dL_law_1126 rfl ?_
    obtain ⟨r, h2, g2, e1, e2, hR2⟩ := S_seen (xs X (i + 1).toNatClampNeg) (xs X (i + 2).toNatClampNeg) (xs X (i + 3).toNatClampNeg) (xs X (i + 4).toNatClampNeg) false h g hR
    refine V.callL mf_X11_seen ml_L_133 sh_0 (s_X11_seen e1) (by decide) rfl rfl (Nat.le_of_ble_eq_true rfl) hcs dL_law_1127 ?_
    refine V.aload_n 2 dL_law_1130 rfl rfl ?_
    refine V.aload_n 0 dL_law_1131 rfl rfl ?_
    refine V.iload 4 dL_law_1132 rfl ?_
    refine V.iconst (v := 1) dL_law_1134 rfl ?_
    refine V.iadd dL_law_1135 ?_
    refine V.ialdL (hin 1 (by decide)) dL_law_1136 ?_
    refine V.aload_n 0 dL_law_1137 rfl rfl ?_
    refine V.iload 4 dL_law_1138 rfl ?_
    refine V.iconst (v := 2) dL_law_1140 rfl ?_
    refine V.iadd dL_law_1141 ?_
    refine V.ialdL (hin 2 (by decide)) dL_law_1142 ?_
    refine V.aload_n 0 dL_law_1143 rfl rfl ?_
    refine V.iload 4 dL_law_1144 rfl ?_
    refine V.iconst (v := 3) dL_law_1146 rfl ?_
    refine V.iadd dL_law_1147 ?_
    refine V.ialdL (hin 3 (by decide)) dL_law_1148 ?_
    refine V.aload_n 0 dL_law_1149 rfl rfl ?_
    refine V.iload 4 dL_law_1150 rfl ?_
    refine V.iconst (v := 4) dL_law_1152 rfl ?_
    refine V.iadd dL_law_1153 ?_
    refine V.ialdL (hin 4 (by decide)) dL_law_1154 ?_
    refine V.aload_n 0 dL_law_1155 rfl rfl ?_
    refine V.iload 4 dL_law_1156 rfl ?_
    refine V.iconst (v := 5) dL_law_1158 rfl ?_
    refine V.iadd dL_law_1159 ?_
    refine V.ialdL (hin 5 (by decide)) dL_law_1160 ?_
    refine V.if_eq (tgt := 1168) dL_law_1161 rfl (fun _ => ?_) (fun q => absurd c5 q)
    refine V.iconst (v := 0) dL_law_1168 rfl ?_
    refine V.swap rfl ?_
    refine V.callL mf_X12_seen ml_L_137 sh_251 (s_X12_seen e2) (by decide) rfl rfl (Nat.le_of_ble_eq_true rfl) hcs dL_law_1169 ?_
    refine V.swap rfl ?_
    refine V.icmp_eq (tgt := 1625) dL_law_1172 rfl (fun _ => ?_) (fun q => absurd rfl q)
    exact fin h2 g2 hR2
  ·
    refine V.iconst (v := 1) dL_law_1122 rfl ?_
    refine V.goto (tgt := 1127) dL_law_1123 rfl ?_
    obtain ⟨r, h2, g2, e1, e2, hR2⟩ := S_seen (xs X (i + 1).toNatClampNeg) (xs X (i + 2).toNatClampNeg) (xs X (i + 3).toNatClampNeg) (xs X (i + 4).toNatClampNeg) true h g hR
    refine V.callL mf_X11_seen ml_L_133 sh_0 (s_X11_seen e1) (by decide) rfl rfl (Nat.le_of_ble_eq_true rfl) hcs dL_law_1127 ?_
    refine V.aload_n 2 dL_law_1130 rfl rfl ?_
    refine V.aload_n 0 dL_law_1131 rfl rfl ?_
    refine V.iload 4 dL_law_1132 rfl ?_
    refine V.iconst (v := 1) dL_law_1134 rfl ?_
    refine V.iadd dL_law_1135 ?_
    refine V.ialdL (hin 1 (by decide)) dL_law_1136 ?_
    refine V.aload_n 0 dL_law_1137 rfl rfl ?_
    refine V.iload 4 dL_law_1138 rfl ?_
    refine V.iconst (v := 2) dL_law_1140 rfl ?_
    refine V.iadd dL_law_1141 ?_
    refine V.ialdL (hin 2 (by decide)) dL_law_1142 ?_
    refine V.aload_n 0 dL_law_1143 rfl rfl ?_
    refine V.iload 4 dL_law_1144 rfl ?_
    refine V.iconst (v := 3) dL_law_1146 rfl ?_
    refine V.iadd dL_law_1147 ?_
    refine V.ialdL (hin 3 (by decide)) dL_law_1148 ?_
    refine V.aload_n 0 dL_law_1149 rfl rfl ?_
    refine V.iload 4 dL_law_1150 rfl ?_
    refine V.iconst (v := 4) dL_law_1152 rfl ?_
    refine V.iadd dL_law_1153 ?_
    refine V.ialdL (hin 4 (by decide)) dL_law_1154 ?_
    refine V.aload_n 0 dL_law_1155 rfl rfl ?_
    refine V.iload 4 dL_law_1156 rfl ?_
    refine V.iconst (v := 5) dL_law_1158 rfl ?_
    refine V.iadd dL_law_1159 ?_
    refine V.ialdL (hin 5 (by decide)) dL_law_1160 ?_
    refine V.if_eq (tgt := 1168) dL_law_1161 rfl (fun q => absurd q c5) (fun _ => ?_)
    refine V.iconst (v := 1) dL_law_1164 rfl ?_
    refine V.goto (tgt := 1169) dL_law_1165 rfl ?_
    refine V.swap rfl ?_
    refine V.callL mf_X12_seen ml_L_137 sh_251 (s_X12_seen e2) (by decide) rfl rfl (Nat.le_of_ble_eq_true rfl) hcs dL_law_1169 ?_
    refine V.swap rfl ?_
    refine V.icmp_eq (tgt := 1625) dL_law_1172 rfl (fun _ => ?_) (fun q => absurd rfl q)
    exact fin h2 g2 hR2
set_option maxRecDepth 100000 in
set_option maxHeartbeats 4000000 in
theorem law_case_26 {X : WX} {G : GX} {n cells slots : Nat} {Q : State → Prop} {R : Mm → Mm → Prop} {i : Int32} {h g : Mm} (S_likes : Sim_likes n R) (hR : R h g) (hin : ∀ k : Int32, 0 ≤ k.toInt ∧ k.toInt ≤ 6 → inB (i + k) (xn X)) (hcs : cells ≤ (gR G).cells ∧ slots ≤ (gR G).slots) (fin : ∀ h g, R h g → V X G RL cL_law 7 (some .boolean) 120 cells slots Q true g 1625 [(0, .ref (xa X 1000)), (1, .ref (xa X 0)), (2, .ref (xa X 251)), (3, .ref (xa X 273)), (4, .int i)] [] h) : V X G RL cL_law 7 (some .boolean) 120 cells slots Q true g 1177 [(0, .ref (xa X 1000)), (1, .ref (xa X 0)), (2, .ref (xa X 251)), (3, .ref (xa X 273)), (4, .int i)] [] h := by
  refine V.aload_n 1 dL_law_1177 rfl rfl ?_
  refine V.aload_n 0 dL_law_1178 rfl rfl ?_
  refine V.iload 4 dL_law_1179 rfl ?_
  refine V.iconst (v := 1) dL_law_1181 rfl ?_
  refine V.iadd dL_law_1182 ?_
  refine V.ialdL (hin 1 (by decide)) dL_law_1183 ?_
  obtain ⟨r, h2, g2, e1, e2, hR2⟩ := S_likes (xs X (i + 1).toNatClampNeg) h g hR
  refine V.callL mf_X11_likes ml_L_138 sh_0 (s_X11_likes e1) (by decide) rfl rfl (Nat.le_of_ble_eq_true rfl) hcs dL_law_1184 ?_
  refine V.aload_n 2 dL_law_1187 rfl rfl ?_
  refine V.aload_n 0 dL_law_1188 rfl rfl ?_
  refine V.iload 4 dL_law_1189 rfl ?_
  refine V.iconst (v := 1) dL_law_1191 rfl ?_
  refine V.iadd dL_law_1192 ?_
  refine V.ialdL (hin 1 (by decide)) dL_law_1193 ?_
  refine V.swap rfl ?_
  refine V.callL mf_X12_likes ml_L_141 sh_251 (s_X12_likes e2) (by decide) rfl rfl (Nat.le_of_ble_eq_true rfl) hcs dL_law_1194 ?_
  refine V.swap rfl ?_
  refine V.icmp_eq (tgt := 1625) dL_law_1197 rfl (fun _ => ?_) (fun q => absurd rfl q)
  exact fin h2 g2 hR2
set_option maxRecDepth 100000 in
set_option maxHeartbeats 4000000 in
theorem law_case_27 {X : WX} {G : GX} {n cells slots : Nat} {Q : State → Prop} {R : Mm → Mm → Prop} {i : Int32} {h g : Mm} (S_probe : Sim_probe n R) (hR : R h g) (hin : ∀ k : Int32, 0 ≤ k.toInt ∧ k.toInt ≤ 6 → inB (i + k) (xn X)) (hcs : cells ≤ (gR G).cells ∧ slots ≤ (gR G).slots) (fin : ∀ h g, R h g → V X G RL cL_law 7 (some .boolean) 120 cells slots Q true g 1625 [(0, .ref (xa X 1000)), (1, .ref (xa X 0)), (2, .ref (xa X 251)), (3, .ref (xa X 273)), (4, .int i)] [] h) : V X G RL cL_law 7 (some .boolean) 120 cells slots Q true g 1202 [(0, .ref (xa X 1000)), (1, .ref (xa X 0)), (2, .ref (xa X 251)), (3, .ref (xa X 273)), (4, .int i)] [] h := by
  refine V.aload_n 1 dL_law_1202 rfl rfl ?_
  refine V.aload_n 0 dL_law_1203 rfl rfl ?_
  refine V.iload 4 dL_law_1204 rfl ?_
  refine V.iconst (v := 1) dL_law_1206 rfl ?_
  refine V.iadd dL_law_1207 ?_
  refine V.ialdL (hin 1 (by decide)) dL_law_1208 ?_
  refine V.aload_n 0 dL_law_1209 rfl rfl ?_
  refine V.iload 4 dL_law_1210 rfl ?_
  refine V.iconst (v := 2) dL_law_1212 rfl ?_
  refine V.iadd dL_law_1213 ?_
  refine V.ialdL (hin 2 (by decide)) dL_law_1214 ?_
  obtain ⟨r, h2, g2, e1, e2, hR2⟩ := S_probe (xs X (i + 1).toNatClampNeg) (xs X (i + 2).toNatClampNeg) h g hR
  refine V.callL mf_X11_probe ml_L_142 sh_0 (s_X11_probe e1) (by decide) rfl rfl (Nat.le_of_ble_eq_true rfl) hcs dL_law_1215 ?_
  refine V.aload_n 2 dL_law_1218 rfl rfl ?_
  refine V.aload_n 0 dL_law_1219 rfl rfl ?_
  refine V.iload 4 dL_law_1220 rfl ?_
  refine V.iconst (v := 1) dL_law_1222 rfl ?_
  refine V.iadd dL_law_1223 ?_
  refine V.ialdL (hin 1 (by decide)) dL_law_1224 ?_
  refine V.aload_n 0 dL_law_1225 rfl rfl ?_
  refine V.iload 4 dL_law_1226 rfl ?_
  refine V.iconst (v := 2) dL_law_1228 rfl ?_
  refine V.iadd dL_law_1229 ?_
  refine V.ialdL (hin 2 (by decide)) dL_law_1230 ?_
  refine V.swap rfl ?_
  refine V.callL mf_X12_probe ml_L_145 sh_251 (s_X12_probe e2) (by decide) rfl rfl (Nat.le_of_ble_eq_true rfl) hcs dL_law_1231 ?_
  refine V.swap rfl ?_
  refine V.icmp_eq (tgt := 1625) dL_law_1234 rfl (fun _ => ?_) (fun q => absurd rfl q)
  exact fin h2 g2 hR2
set_option maxRecDepth 100000 in
set_option maxHeartbeats 4000000 in
theorem law_case_28 {X : WX} {G : GX} {n cells slots : Nat} {Q : State → Prop} {R : Mm → Mm → Prop} {i : Int32} {h g : Mm} (S_which : Sim_which n R) (hR : R h g) (hin : ∀ k : Int32, 0 ≤ k.toInt ∧ k.toInt ≤ 6 → inB (i + k) (xn X)) (hcs : cells ≤ (gR G).cells ∧ slots ≤ (gR G).slots) (fin : ∀ h g, R h g → V X G RL cL_law 7 (some .boolean) 120 cells slots Q true g 1625 [(0, .ref (xa X 1000)), (1, .ref (xa X 0)), (2, .ref (xa X 251)), (3, .ref (xa X 273)), (4, .int i)] [] h) : V X G RL cL_law 7 (some .boolean) 120 cells slots Q true g 1239 [(0, .ref (xa X 1000)), (1, .ref (xa X 0)), (2, .ref (xa X 251)), (3, .ref (xa X 273)), (4, .int i)] [] h := by
  refine V.aload_n 1 dL_law_1239 rfl rfl ?_
  refine V.aload_n 0 dL_law_1240 rfl rfl ?_
  refine V.iload 4 dL_law_1241 rfl ?_
  refine V.iconst (v := 1) dL_law_1243 rfl ?_
  refine V.iadd dL_law_1244 ?_
  refine V.ialdL (hin 1 (by decide)) dL_law_1245 ?_
  refine V.aload_n 0 dL_law_1246 rfl rfl ?_
  refine V.iload 4 dL_law_1247 rfl ?_
  refine V.iconst (v := 2) dL_law_1249 rfl ?_
  refine V.iadd dL_law_1250 ?_
  refine V.ialdL (hin 2 (by decide)) dL_law_1251 ?_
  obtain ⟨r, h2, g2, e1, e2, hR2⟩ := S_which (xs X (i + 1).toNatClampNeg) (xs X (i + 2).toNatClampNeg) h g hR
  refine V.callL mf_X11_which ml_L_146 sh_0 (s_X11_which e1) (by decide) rfl rfl (Nat.le_of_ble_eq_true rfl) hcs dL_law_1252 ?_
  refine V.aload_n 2 dL_law_1255 rfl rfl ?_
  refine V.aload_n 0 dL_law_1256 rfl rfl ?_
  refine V.iload 4 dL_law_1257 rfl ?_
  refine V.iconst (v := 1) dL_law_1259 rfl ?_
  refine V.iadd dL_law_1260 ?_
  refine V.ialdL (hin 1 (by decide)) dL_law_1261 ?_
  refine V.aload_n 0 dL_law_1262 rfl rfl ?_
  refine V.iload 4 dL_law_1263 rfl ?_
  refine V.iconst (v := 2) dL_law_1265 rfl ?_
  refine V.iadd dL_law_1266 ?_
  refine V.ialdL (hin 2 (by decide)) dL_law_1267 ?_
  refine V.swap rfl ?_
  refine V.callL mf_X12_which ml_L_149 sh_251 (s_X12_which e2) (by decide) rfl rfl (Nat.le_of_ble_eq_true rfl) hcs dL_law_1268 ?_
  refine V.swap rfl ?_
  refine V.icmp_eq (tgt := 1625) dL_law_1271 rfl (fun _ => ?_) (fun q => absurd rfl q)
  exact fin h2 g2 hR2
set_option maxRecDepth 100000 in
set_option maxHeartbeats 4000000 in
theorem law_case_29 {X : WX} {G : GX} {n cells slots : Nat} {Q : State → Prop} {R : Mm → Mm → Prop} {i : Int32} {h g : Mm} (S_game : Sim_game n R) (hR : R h g) (hin : ∀ k : Int32, 0 ≤ k.toInt ∧ k.toInt ≤ 6 → inB (i + k) (xn X)) (hcs : cells ≤ (gR G).cells ∧ slots ≤ (gR G).slots) (fin : ∀ h g, R h g → V X G RL cL_law 7 (some .boolean) 120 cells slots Q true g 1625 [(0, .ref (xa X 1000)), (1, .ref (xa X 0)), (2, .ref (xa X 251)), (3, .ref (xa X 273)), (4, .int i)] [] h) : V X G RL cL_law 7 (some .boolean) 120 cells slots Q true g 1276 [(0, .ref (xa X 1000)), (1, .ref (xa X 0)), (2, .ref (xa X 251)), (3, .ref (xa X 273)), (4, .int i)] [] h := by
  refine V.aload_n 1 dL_law_1276 rfl rfl ?_
  refine V.aload_n 0 dL_law_1277 rfl rfl ?_
  refine V.iload 4 dL_law_1278 rfl ?_
  refine V.iconst (v := 1) dL_law_1280 rfl ?_
  refine V.iadd dL_law_1281 ?_
  refine V.ialdL (hin 1 (by decide)) dL_law_1282 ?_
  refine V.aload_n 0 dL_law_1283 rfl rfl ?_
  refine V.iload 4 dL_law_1284 rfl ?_
  refine V.iconst (v := 2) dL_law_1286 rfl ?_
  refine V.iadd dL_law_1287 ?_
  refine V.ialdL (hin 2 (by decide)) dL_law_1288 ?_
  refine V.aload_n 0 dL_law_1289 rfl rfl ?_
  refine V.iload 4 dL_law_1290 rfl ?_
  refine V.iconst (v := 3) dL_law_1292 rfl ?_
  refine V.iadd dL_law_1293 ?_
  refine V.ialdL (hin 3 (by decide)) dL_law_1294 ?_
  refine V.aload_n 0 dL_law_1295 rfl rfl ?_
  refine V.iload 4 dL_law_1296 rfl ?_
  refine V.iconst (v := 4) dL_law_1298 rfl ?_
  refine V.iadd dL_law_1299 ?_
  refine V.ialdL (hin 4 (by decide)) dL_law_1300 ?_
  refine V.aload_n 0 dL_law_1301 rfl rfl ?_
  refine V.iload 4 dL_law_1302 rfl ?_
  refine V.iconst (v := 5) dL_law_1304 rfl ?_
  refine V.iadd dL_law_1305 ?_
  refine V.ialdL (hin 5 (by decide)) dL_law_1306 ?_
  refine V.aload_n 0 dL_law_1307 rfl rfl ?_
  refine V.iload 4 dL_law_1308 rfl ?_
  refine V.bipush (v := 6) dL_law_1310 (by decide) ?_
  refine V.iadd dL_law_1312 ?_
  refine V.ialdL (hin 6 (by decide)) dL_law_1313 ?_
  obtain ⟨r, h2, g2, e1, e2, hR2⟩ := S_game (xs X (i + 1).toNatClampNeg) (xs X (i + 2).toNatClampNeg) (xs X (i + 3).toNatClampNeg) (xs X (i + 4).toNatClampNeg) (xs X (i + 5).toNatClampNeg) (xs X (i + 6).toNatClampNeg) h g hR
  refine V.callL mf_X11_game ml_L_150 sh_0 (s_X11_game e1) (by decide) rfl rfl (Nat.le_of_ble_eq_true rfl) hcs dL_law_1314 ?_
  refine V.aload_n 2 dL_law_1317 rfl rfl ?_
  refine V.aload_n 0 dL_law_1318 rfl rfl ?_
  refine V.iload 4 dL_law_1319 rfl ?_
  refine V.iconst (v := 1) dL_law_1321 rfl ?_
  refine V.iadd dL_law_1322 ?_
  refine V.ialdL (hin 1 (by decide)) dL_law_1323 ?_
  refine V.aload_n 0 dL_law_1324 rfl rfl ?_
  refine V.iload 4 dL_law_1325 rfl ?_
  refine V.iconst (v := 2) dL_law_1327 rfl ?_
  refine V.iadd dL_law_1328 ?_
  refine V.ialdL (hin 2 (by decide)) dL_law_1329 ?_
  refine V.aload_n 0 dL_law_1330 rfl rfl ?_
  refine V.iload 4 dL_law_1331 rfl ?_
  refine V.iconst (v := 3) dL_law_1333 rfl ?_
  refine V.iadd dL_law_1334 ?_
  refine V.ialdL (hin 3 (by decide)) dL_law_1335 ?_
  refine V.aload_n 0 dL_law_1336 rfl rfl ?_
  refine V.iload 4 dL_law_1337 rfl ?_
  refine V.iconst (v := 4) dL_law_1339 rfl ?_
  refine V.iadd dL_law_1340 ?_
  refine V.ialdL (hin 4 (by decide)) dL_law_1341 ?_
  refine V.aload_n 0 dL_law_1342 rfl rfl ?_
  refine V.iload 4 dL_law_1343 rfl ?_
  refine V.iconst (v := 5) dL_law_1345 rfl ?_
  refine V.iadd dL_law_1346 ?_
  refine V.ialdL (hin 5 (by decide)) dL_law_1347 ?_
  refine V.aload_n 0 dL_law_1348 rfl rfl ?_
  refine V.iload 4 dL_law_1349 rfl ?_
  refine V.bipush (v := 6) dL_law_1351 (by decide) ?_
  refine V.iadd dL_law_1353 ?_
  refine V.ialdL (hin 6 (by decide)) dL_law_1354 ?_
  refine V.swap rfl ?_
  refine V.callL mf_X12_game ml_L_154 sh_251 (s_X12_game e2) (by decide) rfl rfl (Nat.le_of_ble_eq_true rfl) hcs dL_law_1355 ?_
  refine V.swap rfl ?_
  refine V.icmp_eq (tgt := 1625) dL_law_1358 rfl (fun _ => ?_) (fun q => absurd rfl q)
  exact fin h2 g2 hR2
set_option maxRecDepth 100000 in
set_option maxHeartbeats 4000000 in
theorem law_case_30 {X : WX} {G : GX} {n cells slots : Nat} {Q : State → Prop} {R : Mm → Mm → Prop} {i : Int32} {h g : Mm} (S_rests : Sim_rests n R) (hR : R h g) (hin : ∀ k : Int32, 0 ≤ k.toInt ∧ k.toInt ≤ 6 → inB (i + k) (xn X)) (hcs : cells ≤ (gR G).cells ∧ slots ≤ (gR G).slots) (fin : ∀ h g, R h g → V X G RL cL_law 7 (some .boolean) 120 cells slots Q true g 1625 [(0, .ref (xa X 1000)), (1, .ref (xa X 0)), (2, .ref (xa X 251)), (3, .ref (xa X 273)), (4, .int i)] [] h) : V X G RL cL_law 7 (some .boolean) 120 cells slots Q true g 1363 [(0, .ref (xa X 1000)), (1, .ref (xa X 0)), (2, .ref (xa X 251)), (3, .ref (xa X 273)), (4, .int i)] [] h := by
  refine V.aload_n 1 dL_law_1363 rfl rfl ?_
  refine V.aload_n 0 dL_law_1364 rfl rfl ?_
  refine V.iload 4 dL_law_1365 rfl ?_
  refine V.iconst (v := 1) dL_law_1367 rfl ?_
  refine V.iadd dL_law_1368 ?_
  refine V.ialdL (hin 1 (by decide)) dL_law_1369 ?_
  refine V.aload_n 0 dL_law_1370 rfl rfl ?_
  refine V.iload 4 dL_law_1371 rfl ?_
  refine V.iconst (v := 2) dL_law_1373 rfl ?_
  refine V.iadd dL_law_1374 ?_
  refine V.ialdL (hin 2 (by decide)) dL_law_1375 ?_
  refine V.aload_n 0 dL_law_1376 rfl rfl ?_
  refine V.iload 4 dL_law_1377 rfl ?_
  refine V.iconst (v := 3) dL_law_1379 rfl ?_
  refine V.iadd dL_law_1380 ?_
  refine V.ialdL (hin 3 (by decide)) dL_law_1381 ?_
  refine V.aload_n 0 dL_law_1382 rfl rfl ?_
  refine V.iload 4 dL_law_1383 rfl ?_
  refine V.iconst (v := 4) dL_law_1385 rfl ?_
  refine V.iadd dL_law_1386 ?_
  refine V.ialdL (hin 4 (by decide)) dL_law_1387 ?_
  obtain ⟨r, h2, g2, e1, e2, hR2⟩ := S_rests (xs X (i + 1).toNatClampNeg) (xs X (i + 2).toNatClampNeg) (xs X (i + 3).toNatClampNeg) (xs X (i + 4).toNatClampNeg) h g hR
  refine V.callL mf_X11_rests ml_L_155 sh_0 (s_X11_rests e1) (by decide) rfl rfl (Nat.le_of_ble_eq_true rfl) hcs dL_law_1388 ?_
  refine V.aload_n 2 dL_law_1391 rfl rfl ?_
  refine V.aload_n 0 dL_law_1392 rfl rfl ?_
  refine V.iload 4 dL_law_1393 rfl ?_
  refine V.iconst (v := 1) dL_law_1395 rfl ?_
  refine V.iadd dL_law_1396 ?_
  refine V.ialdL (hin 1 (by decide)) dL_law_1397 ?_
  refine V.aload_n 0 dL_law_1398 rfl rfl ?_
  refine V.iload 4 dL_law_1399 rfl ?_
  refine V.iconst (v := 2) dL_law_1401 rfl ?_
  refine V.iadd dL_law_1402 ?_
  refine V.ialdL (hin 2 (by decide)) dL_law_1403 ?_
  refine V.aload_n 0 dL_law_1404 rfl rfl ?_
  refine V.iload 4 dL_law_1405 rfl ?_
  refine V.iconst (v := 3) dL_law_1407 rfl ?_
  refine V.iadd dL_law_1408 ?_
  refine V.ialdL (hin 3 (by decide)) dL_law_1409 ?_
  refine V.aload_n 0 dL_law_1410 rfl rfl ?_
  refine V.iload 4 dL_law_1411 rfl ?_
  refine V.iconst (v := 4) dL_law_1413 rfl ?_
  refine V.iadd dL_law_1414 ?_
  refine V.ialdL (hin 4 (by decide)) dL_law_1415 ?_
  refine V.swap rfl ?_
  refine V.callL mf_X12_rests ml_L_159 sh_251 (s_X12_rests e2) (by decide) rfl rfl (Nat.le_of_ble_eq_true rfl) hcs dL_law_1416 ?_
  refine V.swap rfl ?_
  refine V.icmp_eq (tgt := 1625) dL_law_1419 rfl (fun _ => ?_) (fun q => absurd rfl q)
  exact fin h2 g2 hR2
set_option maxRecDepth 100000 in
set_option maxHeartbeats 4000000 in
theorem law_case_31 {X : WX} {G : GX} {n cells slots : Nat} {Q : State → Prop} {R : Mm → Mm → Prop} {i : Int32} {h g : Mm} (S_odds : Sim_odds n R) (hR : R h g) (hin : ∀ k : Int32, 0 ≤ k.toInt ∧ k.toInt ≤ 6 → inB (i + k) (xn X)) (hcs : cells ≤ (gR G).cells ∧ slots ≤ (gR G).slots) (fin : ∀ h g, R h g → V X G RL cL_law 7 (some .boolean) 120 cells slots Q true g 1625 [(0, .ref (xa X 1000)), (1, .ref (xa X 0)), (2, .ref (xa X 251)), (3, .ref (xa X 273)), (4, .int i)] [] h) : V X G RL cL_law 7 (some .boolean) 120 cells slots Q true g 1424 [(0, .ref (xa X 1000)), (1, .ref (xa X 0)), (2, .ref (xa X 251)), (3, .ref (xa X 273)), (4, .int i)] [] h := by
  refine V.aload_n 1 dL_law_1424 rfl rfl ?_
  refine V.aload_n 0 dL_law_1425 rfl rfl ?_
  refine V.iload 4 dL_law_1426 rfl ?_
  refine V.iconst (v := 1) dL_law_1428 rfl ?_
  refine V.iadd dL_law_1429 ?_
  refine V.ialdL (hin 1 (by decide)) dL_law_1430 ?_
  refine V.aload_n 0 dL_law_1431 rfl rfl ?_
  refine V.iload 4 dL_law_1432 rfl ?_
  refine V.iconst (v := 2) dL_law_1434 rfl ?_
  refine V.iadd dL_law_1435 ?_
  refine V.ialdL (hin 2 (by decide)) dL_law_1436 ?_
  obtain ⟨r, g2, e1, e2, hR2⟩ := S_odds (xs X (i + 1).toNatClampNeg) (xs X (i + 2).toNatClampNeg) h g hR
  refine V.callL mf_X11_odds ml_L_160 sh_0 (s_X11_odds e1) (by decide) rfl rfl (Nat.le_of_ble_eq_true rfl) hcs dL_law_1437 ?_
  refine V.aload_n 2 dL_law_1440 rfl rfl ?_
  refine V.aload_n 0 dL_law_1441 rfl rfl ?_
  refine V.iload 4 dL_law_1442 rfl ?_
  refine V.iconst (v := 1) dL_law_1444 rfl ?_
  refine V.iadd dL_law_1445 ?_
  refine V.ialdL (hin 1 (by decide)) dL_law_1446 ?_
  refine V.aload_n 0 dL_law_1447 rfl rfl ?_
  refine V.iload 4 dL_law_1448 rfl ?_
  refine V.iconst (v := 2) dL_law_1450 rfl ?_
  refine V.iadd dL_law_1451 ?_
  refine V.ialdL (hin 2 (by decide)) dL_law_1452 ?_
  refine V.swap rfl ?_
  refine V.callL mf_X12_odds ml_L_163 sh_251 (s_X12_odds e2) (by decide) rfl rfl (Nat.le_of_ble_eq_true rfl) hcs dL_law_1453 ?_
  refine V.swap rfl ?_
  refine V.icmp_eq (tgt := 1625) dL_law_1456 rfl (fun _ => ?_) (fun q => absurd rfl q)
  exact fin h g2 hR2
set_option maxRecDepth 100000 in
set_option maxHeartbeats 4000000 in
theorem law_case_32 {X : WX} {G : GX} {n cells slots : Nat} {Q : State → Prop} {R : Mm → Mm → Prop} {i : Int32} {h g : Mm} (S_lasts : Sim_lasts n R) (hR : R h g) (hin : ∀ k : Int32, 0 ≤ k.toInt ∧ k.toInt ≤ 6 → inB (i + k) (xn X)) (hcs : cells ≤ (gR G).cells ∧ slots ≤ (gR G).slots) (fin : ∀ h g, R h g → V X G RL cL_law 7 (some .boolean) 120 cells slots Q true g 1625 [(0, .ref (xa X 1000)), (1, .ref (xa X 0)), (2, .ref (xa X 251)), (3, .ref (xa X 273)), (4, .int i)] [] h) : V X G RL cL_law 7 (some .boolean) 120 cells slots Q true g 1461 [(0, .ref (xa X 1000)), (1, .ref (xa X 0)), (2, .ref (xa X 251)), (3, .ref (xa X 273)), (4, .int i)] [] h := by
  refine V.aload_n 1 dL_law_1461 rfl rfl ?_
  refine V.aload_n 0 dL_law_1462 rfl rfl ?_
  refine V.iload 4 dL_law_1463 rfl ?_
  refine V.iconst (v := 1) dL_law_1465 rfl ?_
  refine V.iadd dL_law_1466 ?_
  refine V.ialdL (hin 1 (by decide)) dL_law_1467 ?_
  obtain ⟨r, h2, g2, e1, e2, hR2⟩ := S_lasts (xs X (i + 1).toNatClampNeg) h g hR
  refine V.callL mf_X11_lasts ml_L_164 sh_0 (s_X11_lasts e1) (by decide) rfl rfl (Nat.le_of_ble_eq_true rfl) hcs dL_law_1468 ?_
  refine V.aload_n 2 dL_law_1471 rfl rfl ?_
  refine V.aload_n 0 dL_law_1472 rfl rfl ?_
  refine V.iload 4 dL_law_1473 rfl ?_
  refine V.iconst (v := 1) dL_law_1475 rfl ?_
  refine V.iadd dL_law_1476 ?_
  refine V.ialdL (hin 1 (by decide)) dL_law_1477 ?_
  refine V.swap rfl ?_
  refine V.callL mf_X12_lasts ml_L_167 sh_251 (s_X12_lasts e2) (by decide) rfl rfl (Nat.le_of_ble_eq_true rfl) hcs dL_law_1478 ?_
  refine V.swap rfl ?_
  refine V.icmp_eq (tgt := 1625) dL_law_1481 rfl (fun _ => ?_) (fun q => absurd rfl q)
  exact fin h2 g2 hR2
set_option maxRecDepth 100000 in
set_option maxHeartbeats 4000000 in
theorem law_case_33 {X : WX} {G : GX} {n cells slots : Nat} {Q : State → Prop} {R : Mm → Mm → Prop} {i : Int32} {h g : Mm} (S_quiet : Sim_quiet n R) (hR : R h g) (hin : ∀ k : Int32, 0 ≤ k.toInt ∧ k.toInt ≤ 6 → inB (i + k) (xn X)) (hcs : cells ≤ (gR G).cells ∧ slots ≤ (gR G).slots) (fin : ∀ h g, R h g → V X G RL cL_law 7 (some .boolean) 120 cells slots Q true g 1625 [(0, .ref (xa X 1000)), (1, .ref (xa X 0)), (2, .ref (xa X 251)), (3, .ref (xa X 273)), (4, .int i)] [] h) : V X G RL cL_law 7 (some .boolean) 120 cells slots Q true g 1486 [(0, .ref (xa X 1000)), (1, .ref (xa X 0)), (2, .ref (xa X 251)), (3, .ref (xa X 273)), (4, .int i)] [] h := by
  refine V.aload_n 1 dL_law_1486 rfl rfl ?_
  obtain ⟨r, g2, e1, e2, hR2⟩ := S_quiet  h g hR
  refine V.callL mf_X11_quiet ml_L_168 sh_0 (s_X11_quiet e1) (by decide) rfl rfl (Nat.le_of_ble_eq_true rfl) hcs dL_law_1487 ?_
  refine V.aload_n 2 dL_law_1490 rfl rfl ?_
  refine V.swap rfl ?_
  refine V.callL mf_X12_quiet ml_L_171 sh_251 (s_X12_quiet e2) (by decide) rfl rfl (Nat.le_of_ble_eq_true rfl) hcs dL_law_1491 ?_
  refine V.swap rfl ?_
  refine V.icmp_eq (tgt := 1625) dL_law_1494 rfl (fun _ => ?_) (fun q => absurd rfl q)
  exact fin h g2 hR2
set_option maxRecDepth 100000 in
set_option maxHeartbeats 4000000 in
theorem law_case_34 {X : WX} {G : GX} {n cells slots : Nat} {Q : State → Prop} {R : Mm → Mm → Prop} {i : Int32} {h g : Mm} (S_all : Sim_all n R) (hR : R h g) (hin : ∀ k : Int32, 0 ≤ k.toInt ∧ k.toInt ≤ 6 → inB (i + k) (xn X)) (hcs : cells ≤ (gR G).cells ∧ slots ≤ (gR G).slots) (fin : ∀ h g, R h g → V X G RL cL_law 7 (some .boolean) 120 cells slots Q true g 1625 [(0, .ref (xa X 1000)), (1, .ref (xa X 0)), (2, .ref (xa X 251)), (3, .ref (xa X 273)), (4, .int i)] [] h) : V X G RL cL_law 7 (some .boolean) 120 cells slots Q true g 1499 [(0, .ref (xa X 1000)), (1, .ref (xa X 0)), (2, .ref (xa X 251)), (3, .ref (xa X 273)), (4, .int i)] [] h := by
  refine V.aload_n 1 dL_law_1499 rfl rfl ?_
  refine V.aload_n 0 dL_law_1500 rfl rfl ?_
  refine V.iload 4 dL_law_1501 rfl ?_
  refine V.iconst (v := 1) dL_law_1503 rfl ?_
  refine V.iadd dL_law_1504 ?_
  refine V.ialdL (hin 1 (by decide)) dL_law_1505 ?_
  obtain ⟨r, g2, e1, e2, hR2⟩ := S_all (xs X (i + 1).toNatClampNeg) h g hR
  refine V.callL mf_X11_all ml_L_172 sh_0 (s_X11_all e1) (by decide) rfl rfl (Nat.le_of_ble_eq_true rfl) hcs dL_law_1506 ?_
  refine V.aload_n 2 dL_law_1509 rfl rfl ?_
  refine V.aload_n 0 dL_law_1510 rfl rfl ?_
  refine V.iload 4 dL_law_1511 rfl ?_
  refine V.iconst (v := 1) dL_law_1513 rfl ?_
  refine V.iadd dL_law_1514 ?_
  refine V.ialdL (hin 1 (by decide)) dL_law_1515 ?_
  refine V.swap rfl ?_
  refine V.callL mf_X12_all ml_L_175 sh_251 (s_X12_all e2) (by decide) rfl rfl (Nat.le_of_ble_eq_true rfl) hcs dL_law_1516 ?_
  refine V.swap rfl ?_
  refine V.icmp_eq (tgt := 1625) dL_law_1519 rfl (fun _ => ?_) (fun q => absurd rfl q)
  exact fin h g2 hR2
set_option maxRecDepth 100000 in
set_option maxHeartbeats 4000000 in
theorem law_case_35 {X : WX} {G : GX} {n cells slots : Nat} {Q : State → Prop} {R : Mm → Mm → Prop} {i : Int32} {h g : Mm} (S_pages : Sim_pages n R) (hR : R h g) (hin : ∀ k : Int32, 0 ≤ k.toInt ∧ k.toInt ≤ 6 → inB (i + k) (xn X)) (hcs : cells ≤ (gR G).cells ∧ slots ≤ (gR G).slots) (fin : ∀ h g, R h g → V X G RL cL_law 7 (some .boolean) 120 cells slots Q true g 1625 [(0, .ref (xa X 1000)), (1, .ref (xa X 0)), (2, .ref (xa X 251)), (3, .ref (xa X 273)), (4, .int i)] [] h) : V X G RL cL_law 7 (some .boolean) 120 cells slots Q true g 1524 [(0, .ref (xa X 1000)), (1, .ref (xa X 0)), (2, .ref (xa X 251)), (3, .ref (xa X 273)), (4, .int i)] [] h := by
  refine V.aload_n 1 dL_law_1524 rfl rfl ?_
  refine V.aload_n 0 dL_law_1525 rfl rfl ?_
  refine V.iload 4 dL_law_1526 rfl ?_
  refine V.iconst (v := 1) dL_law_1528 rfl ?_
  refine V.iadd dL_law_1529 ?_
  refine V.ialdL (hin 1 (by decide)) dL_law_1530 ?_
  obtain ⟨r, g2, e1, e2, hR2⟩ := S_pages (xs X (i + 1).toNatClampNeg) h g hR
  refine V.callL mf_X11_pages ml_L_176 sh_0 (s_X11_pages e1) (by decide) rfl rfl (Nat.le_of_ble_eq_true rfl) hcs dL_law_1531 ?_
  refine V.aload_n 2 dL_law_1534 rfl rfl ?_
  refine V.aload_n 0 dL_law_1535 rfl rfl ?_
  refine V.iload 4 dL_law_1536 rfl ?_
  refine V.iconst (v := 1) dL_law_1538 rfl ?_
  refine V.iadd dL_law_1539 ?_
  refine V.ialdL (hin 1 (by decide)) dL_law_1540 ?_
  refine V.swap rfl ?_
  refine V.callL mf_X12_pages ml_L_179 sh_251 (s_X12_pages e2) (by decide) rfl rfl (Nat.le_of_ble_eq_true rfl) hcs dL_law_1541 ?_
  refine V.swap rfl ?_
  refine V.icmp_eq (tgt := 1625) dL_law_1544 rfl (fun _ => ?_) (fun q => absurd rfl q)
  exact fin h g2 hR2
set_option maxRecDepth 100000 in
set_option maxHeartbeats 4000000 in
theorem law_case_36 {X : WX} {G : GX} {n cells slots : Nat} {Q : State → Prop} {R : Mm → Mm → Prop} {i : Int32} {h g : Mm} (S_left : Sim_left n R) (hR : R h g) (hin : ∀ k : Int32, 0 ≤ k.toInt ∧ k.toInt ≤ 6 → inB (i + k) (xn X)) (hcs : cells ≤ (gR G).cells ∧ slots ≤ (gR G).slots) (fin : ∀ h g, R h g → V X G RL cL_law 7 (some .boolean) 120 cells slots Q true g 1625 [(0, .ref (xa X 1000)), (1, .ref (xa X 0)), (2, .ref (xa X 251)), (3, .ref (xa X 273)), (4, .int i)] [] h) : V X G RL cL_law 7 (some .boolean) 120 cells slots Q true g 1549 [(0, .ref (xa X 1000)), (1, .ref (xa X 0)), (2, .ref (xa X 251)), (3, .ref (xa X 273)), (4, .int i)] [] h := by
  refine V.aload_n 1 dL_law_1549 rfl rfl ?_
  refine V.aload_n 0 dL_law_1550 rfl rfl ?_
  refine V.iload 4 dL_law_1551 rfl ?_
  refine V.iconst (v := 1) dL_law_1553 rfl ?_
  refine V.iadd dL_law_1554 ?_
  refine V.ialdL (hin 1 (by decide)) dL_law_1555 ?_
  obtain ⟨r, g2, e1, e2, hR2⟩ := S_left (xs X (i + 1).toNatClampNeg) h g hR
  refine V.callL mf_X11_left ml_L_180 sh_0 (s_X11_left e1) (by decide) rfl rfl (Nat.le_of_ble_eq_true rfl) hcs dL_law_1556 ?_
  refine V.aload_n 2 dL_law_1559 rfl rfl ?_
  refine V.aload_n 0 dL_law_1560 rfl rfl ?_
  refine V.iload 4 dL_law_1561 rfl ?_
  refine V.iconst (v := 1) dL_law_1563 rfl ?_
  refine V.iadd dL_law_1564 ?_
  refine V.ialdL (hin 1 (by decide)) dL_law_1565 ?_
  refine V.swap rfl ?_
  refine V.callL mf_X12_left ml_L_183 sh_251 (s_X12_left e2) (by decide) rfl rfl (Nat.le_of_ble_eq_true rfl) hcs dL_law_1566 ?_
  refine V.swap rfl ?_
  refine V.icmp_eq (tgt := 1625) dL_law_1569 rfl (fun _ => ?_) (fun q => absurd rfl q)
  exact fin h g2 hR2
set_option maxRecDepth 100000 in
set_option maxHeartbeats 4000000 in
theorem law_case_37 {X : WX} {G : GX} {n cells slots : Nat} {Q : State → Prop} {R : Mm → Mm → Prop} {i : Int32} {h g : Mm} (S_image : Sim_image n R) (hR : R h g) (hin : ∀ k : Int32, 0 ≤ k.toInt ∧ k.toInt ≤ 6 → inB (i + k) (xn X)) (hcs : cells ≤ (gR G).cells ∧ slots ≤ (gR G).slots) (fin : ∀ h g, R h g → V X G RL cL_law 7 (some .boolean) 120 cells slots Q true g 1625 [(0, .ref (xa X 1000)), (1, .ref (xa X 0)), (2, .ref (xa X 251)), (3, .ref (xa X 273)), (4, .int i)] [] h) : V X G RL cL_law 7 (some .boolean) 120 cells slots Q true g 1574 [(0, .ref (xa X 1000)), (1, .ref (xa X 0)), (2, .ref (xa X 251)), (3, .ref (xa X 273)), (4, .int i)] [] h := by
  refine V.aload_n 1 dL_law_1574 rfl rfl ?_
  obtain ⟨r, h2, g2, e1, e2, hR2⟩ := S_image  h g hR
  refine V.callL mf_X11_image ml_L_184 sh_0 (s_X11_image e1) (by decide) rfl rfl (Nat.le_of_ble_eq_true rfl) hcs dL_law_1575 ?_
  refine V.aload_n 2 dL_law_1578 rfl rfl ?_
  refine V.swap rfl ?_
  refine V.callL mf_X12_image ml_L_187 sh_251 (s_X12_image e2) (by decide) rfl rfl (Nat.le_of_ble_eq_true rfl) hcs dL_law_1579 ?_
  refine V.swap rfl ?_
  refine V.icmp_eq (tgt := 1625) dL_law_1582 rfl (fun _ => ?_) (fun q => absurd rfl q)
  exact fin h2 g2 hR2
set_option maxRecDepth 100000 in
set_option maxHeartbeats 4000000 in
theorem law_case_38 {X : WX} {G : GX} {n cells slots : Nat} {Q : State → Prop} {R : Mm → Mm → Prop} {i : Int32} {h g : Mm} (S_back : Sim_back n R) (hR : R h g) (hin : ∀ k : Int32, 0 ≤ k.toInt ∧ k.toInt ≤ 6 → inB (i + k) (xn X)) (hcs : cells ≤ (gR G).cells ∧ slots ≤ (gR G).slots) (fin : ∀ h g, R h g → V X G RL cL_law 7 (some .boolean) 120 cells slots Q true g 1625 [(0, .ref (xa X 1000)), (1, .ref (xa X 0)), (2, .ref (xa X 251)), (3, .ref (xa X 273)), (4, .int i)] [] h) : V X G RL cL_law 7 (some .boolean) 120 cells slots Q true g 1587 [(0, .ref (xa X 1000)), (1, .ref (xa X 0)), (2, .ref (xa X 251)), (3, .ref (xa X 273)), (4, .int i)] [] h := by
  refine V.aload_n 1 dL_law_1587 rfl rfl ?_
  obtain ⟨r, h2, g2, e1, e2, hR2⟩ := S_back  h g hR
  refine V.callL mf_X11_back ml_L_188 sh_0 (s_X11_back e1) (by decide) rfl rfl (Nat.le_of_ble_eq_true rfl) hcs dL_law_1588 ?_
  refine V.aload_n 2 dL_law_1591 rfl rfl ?_
  refine V.swap rfl ?_
  refine V.callL mf_X12_back ml_L_191 sh_251 (s_X12_back e2) (by decide) rfl rfl (Nat.le_of_ble_eq_true rfl) hcs dL_law_1592 ?_
  refine V.swap rfl ?_
  refine V.icmp_eq (tgt := 1625) dL_law_1595 rfl (fun _ => ?_) (fun q => absurd rfl q)
  exact fin h2 g2 hR2
set_option maxRecDepth 100000 in
set_option maxHeartbeats 4000000 in
theorem law_case_39 {X : WX} {G : GX} {n cells slots : Nat} {Q : State → Prop} {R : Mm → Mm → Prop} {i : Int32} {h g : Mm} (S_count : Sim_count n R) (hR : R h g) (hin : ∀ k : Int32, 0 ≤ k.toInt ∧ k.toInt ≤ 6 → inB (i + k) (xn X)) (hcs : cells ≤ (gR G).cells ∧ slots ≤ (gR G).slots) (fin : ∀ h g, R h g → V X G RL cL_law 7 (some .boolean) 120 cells slots Q true g 1625 [(0, .ref (xa X 1000)), (1, .ref (xa X 0)), (2, .ref (xa X 251)), (3, .ref (xa X 273)), (4, .int i)] [] h) : V X G RL cL_law 7 (some .boolean) 120 cells slots Q true g 1600 [(0, .ref (xa X 1000)), (1, .ref (xa X 0)), (2, .ref (xa X 251)), (3, .ref (xa X 273)), (4, .int i)] [] h := by
  refine V.aload_n 1 dL_law_1600 rfl rfl ?_
  refine V.aload_n 0 dL_law_1601 rfl rfl ?_
  refine V.iload 4 dL_law_1602 rfl ?_
  refine V.iconst (v := 1) dL_law_1604 rfl ?_
  refine V.iadd dL_law_1605 ?_
  refine V.ialdL (hin 1 (by decide)) dL_law_1606 ?_
  obtain ⟨r, g2, e1, e2, hR2⟩ := S_count (xs X (i + 1).toNatClampNeg) h g hR
  refine V.callL mf_X11_count ml_L_192 sh_0 (s_X11_count e1) (by decide) rfl rfl (Nat.le_of_ble_eq_true rfl) hcs dL_law_1607 ?_
  refine V.aload_n 2 dL_law_1610 rfl rfl ?_
  refine V.aload_n 0 dL_law_1611 rfl rfl ?_
  refine V.iload 4 dL_law_1612 rfl ?_
  refine V.iconst (v := 1) dL_law_1614 rfl ?_
  refine V.iadd dL_law_1615 ?_
  refine V.ialdL (hin 1 (by decide)) dL_law_1616 ?_
  refine V.swap rfl ?_
  refine V.callL mf_X12_count ml_L_195 sh_251 (s_X12_count e2) (by decide) rfl rfl (Nat.le_of_ble_eq_true rfl) hcs dL_law_1617 ?_
  refine V.swap rfl ?_
  refine V.icmp_eq (tgt := 1625) dL_law_1620 rfl (fun _ => ?_) (fun q => absurd rfl q)
  exact fin h g2 hR2
