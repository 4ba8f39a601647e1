set_option maxRecDepth 100000 in
theorem cok_in_X0 : ∀ w ∈ u_ws RX0 TX0 13, w ∈ gtbl := by
  have e : u_ws RX0 TX0 13 = [326, 328, 330, 332, 334, 336, 338, 340, 342, 344, 346, 348, 350].filterMap (fun i => lw_tbl[i]?) := by decide +kernel
  intro w hw
  refine List.mem_filter.mpr ⟨?_, ?_⟩
  · rw [e] at hw; obtain ⟨i, -, hi⟩ := List.mem_filterMap.mp hw; exact List.mem_of_getElem? hi
  · exact List.all_eq_true.mp (show (u_ws RX0 TX0 13).all goodWord = true by decide +kernel) w hw
set_option maxRecDepth 100000 in
theorem cok_in_X1 : ∀ w ∈ u_ws RX1 TX1 2, w ∈ gtbl := by
  have e : u_ws RX1 TX1 2 = [162, 164].filterMap (fun i => lw_tbl[i]?) := by decide +kernel
  intro w hw
  refine List.mem_filter.mpr ⟨?_, ?_⟩
  · rw [e] at hw; obtain ⟨i, -, hi⟩ := List.mem_filterMap.mp hw; exact List.mem_of_getElem? hi
  · exact List.all_eq_true.mp (show (u_ws RX1 TX1 2).all goodWord = true by decide +kernel) w hw
set_option maxRecDepth 100000 in
theorem cok_in_X2 : ∀ w ∈ u_ws RX2 TX2 2, w ∈ gtbl := by
  have e : u_ws RX2 TX2 2 = [171, 173].filterMap (fun i => lw_tbl[i]?) := by decide +kernel
  intro w hw
  refine List.mem_filter.mpr ⟨?_, ?_⟩
  · rw [e] at hw; obtain ⟨i, -, hi⟩ := List.mem_filterMap.mp hw; exact List.mem_of_getElem? hi
  · exact List.all_eq_true.mp (show (u_ws RX2 TX2 2).all goodWord = true by decide +kernel) w hw
set_option maxRecDepth 100000 in
theorem cok_in_X3 : ∀ w ∈ u_ws RX3 TX3 3, w ∈ gtbl := by
  have e : u_ws RX3 TX3 3 = [187, 189, 191].filterMap (fun i => lw_tbl[i]?) := by decide +kernel
  intro w hw
  refine List.mem_filter.mpr ⟨?_, ?_⟩
  · rw [e] at hw; obtain ⟨i, -, hi⟩ := List.mem_filterMap.mp hw; exact List.mem_of_getElem? hi
  · exact List.all_eq_true.mp (show (u_ws RX3 TX3 3).all goodWord = true by decide +kernel) w hw
set_option maxRecDepth 100000 in
theorem cok_in_X4 : ∀ w ∈ u_ws RX4 TX4 8, w ∈ gtbl := by
  have e : u_ws RX4 TX4 8 = [240, 242, 244, 246, 248, 250, 252, 254].filterMap (fun i => lw_tbl[i]?) := by decide +kernel
  intro w hw
  refine List.mem_filter.mpr ⟨?_, ?_⟩
  · rw [e] at hw; obtain ⟨i, -, hi⟩ := List.mem_filterMap.mp hw; exact List.mem_of_getElem? hi
  · exact List.all_eq_true.mp (show (u_ws RX4 TX4 8).all goodWord = true by decide +kernel) w hw
set_option maxRecDepth 100000 in
theorem cok_in_X5 : ∀ w ∈ u_ws RX5 TX5 7, w ∈ gtbl := by
  have e : u_ws RX5 TX5 7 = [370, 372, 374, 376, 378, 380, 382].filterMap (fun i => lw_tbl[i]?) := by decide +kernel
  intro w hw
  refine List.mem_filter.mpr ⟨?_, ?_⟩
  · rw [e] at hw; obtain ⟨i, -, hi⟩ := List.mem_filterMap.mp hw; exact List.mem_of_getElem? hi
  · exact List.all_eq_true.mp (show (u_ws RX5 TX5 7).all goodWord = true by decide +kernel) w hw
set_option maxRecDepth 100000 in
theorem cok_in_X6 : ∀ w ∈ u_ws RX6 TX6 9, w ∈ gtbl := by
  have e : u_ws RX6 TX6 9 = [402, 404, 406, 408, 410, 412, 414, 416, 418].filterMap (fun i => lw_tbl[i]?) := by decide +kernel
  intro w hw
  refine List.mem_filter.mpr ⟨?_, ?_⟩
  · rw [e] at hw; obtain ⟨i, -, hi⟩ := List.mem_filterMap.mp hw; exact List.mem_of_getElem? hi
  · exact List.all_eq_true.mp (show (u_ws RX6 TX6 9).all goodWord = true by decide +kernel) w hw
set_option maxRecDepth 100000 in
theorem cok_in_X7 : ∀ w ∈ u_ws RX7 TX7 3, w ∈ gtbl := by
  have e : u_ws RX7 TX7 3 = [140, 142, 144].filterMap (fun i => lw_tbl[i]?) := by decide +kernel
  intro w hw
  refine List.mem_filter.mpr ⟨?_, ?_⟩
  · rw [e] at hw; obtain ⟨i, -, hi⟩ := List.mem_filterMap.mp hw; exact List.mem_of_getElem? hi
  · exact List.all_eq_true.mp (show (u_ws RX7 TX7 3).all goodWord = true by decide +kernel) w hw
set_option maxRecDepth 100000 in
theorem cok_in_X8 : ∀ w ∈ u_ws RX8 TX8 5, w ∈ gtbl := by
  have e : u_ws RX8 TX8 5 = [433, 435, 437, 439, 441].filterMap (fun i => lw_tbl[i]?) := by decide +kernel
  intro w hw
  refine List.mem_filter.mpr ⟨?_, ?_⟩
  · rw [e] at hw; obtain ⟨i, -, hi⟩ := List.mem_filterMap.mp hw; exact List.mem_of_getElem? hi
  · exact List.all_eq_true.mp (show (u_ws RX8 TX8 5).all goodWord = true by decide +kernel) w hw
set_option maxRecDepth 100000 in
theorem cok_in_X9 : ∀ w ∈ u_ws RX9 TX9 2, w ∈ gtbl := by
  have e : u_ws RX9 TX9 2 = [269, 271].filterMap (fun i => lw_tbl[i]?) := by decide +kernel
  intro w hw
  refine List.mem_filter.mpr ⟨?_, ?_⟩
  · rw [e] at hw; obtain ⟨i, -, hi⟩ := List.mem_filterMap.mp hw; exact List.mem_of_getElem? hi
  · exact List.all_eq_true.mp (show (u_ws RX9 TX9 2).all goodWord = true by decide +kernel) w hw
set_option maxRecDepth 100000 in
theorem cok_in_X10 : ∀ w ∈ u_ws RX10 TX10 6, w ∈ gtbl := by
  have e : u_ws RX10 TX10 6 = [207, 209, 211, 213, 215, 217].filterMap (fun i => lw_tbl[i]?) := by decide +kernel
  intro w hw
  refine List.mem_filter.mpr ⟨?_, ?_⟩
  · rw [e] at hw; obtain ⟨i, -, hi⟩ := List.mem_filterMap.mp hw; exact List.mem_of_getElem? hi
  · exact List.all_eq_true.mp (show (u_ws RX10 TX10 6).all goodWord = true by decide +kernel) w hw
set_option maxRecDepth 100000 in
theorem cok_in_X11 : ∀ w ∈ u_ws RX11 TX11 14, w ∈ gtbl := by
  have e : u_ws RX11 TX11 14 = [458, 460, 462, 464, 466, 468, 470, 472, 474, 476, 478, 480, 482, 484].filterMap (fun i => lw_tbl[i]?) := by decide +kernel
  intro w hw
  refine List.mem_filter.mpr ⟨?_, ?_⟩
  · rw [e] at hw; obtain ⟨i, -, hi⟩ := List.mem_filterMap.mp hw; exact List.mem_of_getElem? hi
  · exact List.all_eq_true.mp (show (u_ws RX11 TX11 14).all goodWord = true by decide +kernel) w hw
set_option maxRecDepth 100000 in
theorem cok_in_X12 : ∀ w ∈ u_ws RX12 TX12 51, w ∈ gtbl := by
  have e : u_ws RX12 TX12 51 = [1538, 1540, 1542, 1544, 1546, 1548, 1550, 1552, 1554, 1556, 1558, 1560, 1562, 1564, 1566, 1568, 1570, 1572, 1574, 1576, 1578, 1580, 1582, 1584, 1586, 1588, 1590, 1592, 1594, 1596, 1598, 1600, 1602, 1604, 1606, 1608, 1610, 1612, 1614, 1616, 1618, 1620, 1622, 1624, 1626, 1628, 1630, 1632, 1634, 1636, 1638].filterMap (fun i => lw_tbl[i]?) := by decide +kernel
  intro w hw
  refine List.mem_filter.mpr ⟨?_, ?_⟩
  · rw [e] at hw; obtain ⟨i, -, hi⟩ := List.mem_filterMap.mp hw; exact List.mem_of_getElem? hi
  · exact List.all_eq_true.mp (show (u_ws RX12 TX12 51).all goodWord = true by decide +kernel) w hw
set_option maxRecDepth 100000 in
theorem cok_X0 : cOK 0 RX0 TX0 13 := ⟨rfl, cok_in_X0, ⟨tyX0, tyX0_ok⟩, nmX0⟩
set_option maxRecDepth 100000 in
theorem cok_X1 : cOK 1 RX1 TX1 2 := ⟨rfl, cok_in_X1, ⟨tyX1, tyX1_ok⟩, nmX1⟩
set_option maxRecDepth 100000 in
theorem cok_X2 : cOK 2 RX2 TX2 2 := ⟨rfl, cok_in_X2, ⟨tyX2, tyX2_ok⟩, nmX2⟩
set_option maxRecDepth 100000 in
theorem cok_X3 : cOK 3 RX3 TX3 3 := ⟨rfl, cok_in_X3, ⟨tyX3, tyX3_ok⟩, nmX3⟩
set_option maxRecDepth 100000 in
theorem cok_X4 : cOK 4 RX4 TX4 8 := ⟨rfl, cok_in_X4, ⟨tyX4, tyX4_ok⟩, nmX4⟩
set_option maxRecDepth 100000 in
theorem cok_X5 : cOK 5 RX5 TX5 7 := ⟨rfl, cok_in_X5, ⟨tyX5, tyX5_ok⟩, nmX5⟩
set_option maxRecDepth 100000 in
theorem cok_X6 : cOK 6 RX6 TX6 9 := ⟨rfl, cok_in_X6, ⟨tyX6, tyX6_ok⟩, nmX6⟩
set_option maxRecDepth 100000 in
theorem cok_X7 : cOK 7 RX7 TX7 3 := ⟨rfl, cok_in_X7, ⟨tyX7, tyX7_ok⟩, nmX7⟩
set_option maxRecDepth 100000 in
theorem cok_X8 : cOK 8 RX8 TX8 5 := ⟨rfl, cok_in_X8, ⟨tyX8, tyX8_ok⟩, nmX8⟩
set_option maxRecDepth 100000 in
theorem cok_X9 : cOK 9 RX9 TX9 2 := ⟨rfl, cok_in_X9, ⟨tyX9, tyX9_ok⟩, nmX9⟩
set_option maxRecDepth 100000 in
theorem cok_X10 : cOK 10 RX10 TX10 6 := ⟨rfl, cok_in_X10, ⟨tyX10, tyX10_ok⟩, nmX10⟩
set_option maxRecDepth 100000 in
theorem cok_X11 : cOK 11 RX11 TX11 14 := ⟨rfl, cok_in_X11, ⟨tyX11, tyX11_ok⟩, nmX11⟩
set_option maxRecDepth 100000 in
theorem cok_X12 : cOK 12 RX12 TX12 51 := ⟨rfl, cok_in_X12, ⟨tyX12, tyX12_ok⟩, nmX12⟩
set_option maxRecDepth 100000 in
theorem fx_0_0 : fxv 0 0 = 1 + 1 := by decide +kernel
set_option maxRecDepth 100000 in
theorem fx_0_1 : fxv 0 1 = 3 + 1 := by decide +kernel
set_option maxRecDepth 100000 in
theorem fx_0_10 : fxv 0 10 = 246 + 1 := by decide +kernel
set_option maxRecDepth 100000 in
theorem fx_0_11 : fxv 0 11 = 249 + 1 := by decide +kernel
set_option maxRecDepth 100000 in
theorem fx_0_2 : fxv 0 2 = 7 + 1 := by decide +kernel
set_option maxRecDepth 100000 in
theorem fx_0_3 : fxv 0 3 = 9 + 1 := by decide +kernel
set_option maxRecDepth 100000 in
theorem fx_0_4 : fxv 0 4 = 13 + 1 := by decide +kernel
set_option maxRecDepth 100000 in
theorem fx_0_5 : fxv 0 5 = 16 + 1 := by decide +kernel
set_option maxRecDepth 100000 in
theorem fx_0_6 : fxv 0 6 = 26 + 1 := by decide +kernel
set_option maxRecDepth 100000 in
theorem fx_0_7 : fxv 0 7 = 27 + 1 := by decide +kernel
set_option maxRecDepth 100000 in
theorem fx_0_8 : fxv 0 8 = 32 + 1 := by decide +kernel
set_option maxRecDepth 100000 in
theorem fx_0_9 : fxv 0 9 = 37 + 1 := by decide +kernel
set_option maxRecDepth 100000 in
theorem fx_16_0 : fxv 16 0 = 17 + 1 := by decide +kernel
set_option maxRecDepth 100000 in
theorem fx_16_1 : fxv 16 1 = 22 + 1 := by decide +kernel
set_option maxRecDepth 100000 in
theorem fx_16_2 : fxv 16 2 = 23 + 1 := by decide +kernel
set_option maxRecDepth 100000 in
theorem fx_16_3 : fxv 16 3 = 24 + 1 := by decide +kernel
set_option maxRecDepth 100000 in
theorem fx_16_4 : fxv 16 4 = 25 + 1 := by decide +kernel
set_option maxRecDepth 100000 in
theorem fx_1_0 : fxv 1 0 = 2 + 1 := by decide +kernel
set_option maxRecDepth 100000 in
theorem fx_246_0 : fxv 246 0 = 26 + 1 := by decide +kernel
set_option maxRecDepth 100000 in
theorem fx_246_1 : fxv 246 1 = 13 + 1 := by decide +kernel
set_option maxRecDepth 100000 in
theorem fx_246_2 : fxv 246 2 = 16 + 1 := by decide +kernel
set_option maxRecDepth 100000 in
theorem fx_246_3 : fxv 246 3 = 27 + 1 := by decide +kernel
set_option maxRecDepth 100000 in
theorem fx_246_4 : fxv 246 4 = 247 + 1 := by decide +kernel
set_option maxRecDepth 100000 in
theorem fx_246_5 : fxv 246 5 = 248 + 1 := by decide +kernel
set_option maxRecDepth 100000 in
theorem fx_249_0 : fxv 249 0 = 26 + 1 := by decide +kernel
set_option maxRecDepth 100000 in
theorem fx_249_1 : fxv 249 1 = 13 + 1 := by decide +kernel
set_option maxRecDepth 100000 in
theorem fx_249_2 : fxv 249 2 = 27 + 1 := by decide +kernel
set_option maxRecDepth 100000 in
theorem fx_249_3 : fxv 249 3 = 250 + 1 := by decide +kernel
set_option maxRecDepth 100000 in
theorem fx_251_1 : fxv 251 1 = 252 + 1 := by decide +kernel
set_option maxRecDepth 100000 in
theorem fx_251_18 : fxv 251 18 = 256 + 1 := by decide +kernel
set_option maxRecDepth 100000 in
theorem fx_251_19 : fxv 251 19 = 257 + 1 := by decide +kernel
set_option maxRecDepth 100000 in
theorem fx_251_2 : fxv 251 2 = 253 + 1 := by decide +kernel
set_option maxRecDepth 100000 in
theorem fx_251_20 : fxv 251 20 = 258 + 1 := by decide +kernel
set_option maxRecDepth 100000 in
theorem fx_251_21 : fxv 251 21 = 259 + 1 := by decide +kernel
set_option maxRecDepth 100000 in
theorem fx_251_22 : fxv 251 22 = 260 + 1 := by decide +kernel
set_option maxRecDepth 100000 in
theorem fx_251_23 : fxv 251 23 = 261 + 1 := by decide +kernel
set_option maxRecDepth 100000 in
theorem fx_251_24 : fxv 251 24 = 262 + 1 := by decide +kernel
set_option maxRecDepth 100000 in
theorem fx_251_25 : fxv 251 25 = 263 + 1 := by decide +kernel
set_option maxRecDepth 100000 in
theorem fx_251_3 : fxv 251 3 = 254 + 1 := by decide +kernel
set_option maxRecDepth 100000 in
theorem fx_251_32 : fxv 251 32 = 264 + 1 := by decide +kernel
set_option maxRecDepth 100000 in
theorem fx_251_33 : fxv 251 33 = 265 + 1 := by decide +kernel
set_option maxRecDepth 100000 in
theorem fx_251_36 : fxv 251 36 = 266 + 1 := by decide +kernel
set_option maxRecDepth 100000 in
theorem fx_251_37 : fxv 251 37 = 267 + 1 := by decide +kernel
set_option maxRecDepth 100000 in
theorem fx_251_38 : fxv 251 38 = 268 + 1 := by decide +kernel
set_option maxRecDepth 100000 in
theorem fx_251_4 : fxv 251 4 = 255 + 1 := by decide +kernel
set_option maxRecDepth 100000 in
theorem fx_251_43 : fxv 251 43 = 269 + 1 := by decide +kernel
set_option maxRecDepth 100000 in
theorem fx_251_46 : fxv 251 46 = 270 + 1 := by decide +kernel
set_option maxRecDepth 100000 in
theorem fx_251_48 : fxv 251 48 = 271 + 1 := by decide +kernel
set_option maxRecDepth 100000 in
theorem fx_251_49 : fxv 251 49 = 272 + 1 := by decide +kernel
set_option maxRecDepth 100000 in
theorem fx_26_0 : fxv 26 0 = 13 + 1 := by decide +kernel
set_option maxRecDepth 100000 in
theorem fx_26_1 : fxv 26 1 = 16 + 1 := by decide +kernel
set_option maxRecDepth 100000 in
theorem fx_27_0 : fxv 27 0 = 28 + 1 := by decide +kernel
set_option maxRecDepth 100000 in
theorem fx_27_1 : fxv 27 1 = 29 + 1 := by decide +kernel
set_option maxRecDepth 100000 in
theorem fx_27_2 : fxv 27 2 = 30 + 1 := by decide +kernel
set_option maxRecDepth 100000 in
theorem fx_27_3 : fxv 27 3 = 31 + 1 := by decide +kernel
set_option maxRecDepth 100000 in
theorem fx_37_0 : fxv 37 0 = 38 + 1 := by decide +kernel
set_option maxRecDepth 100000 in
theorem fx_37_1 : fxv 37 1 = 39 + 1 := by decide +kernel
set_option maxRecDepth 100000 in
theorem fx_37_2 : fxv 37 2 = 40 + 1 := by decide +kernel
set_option maxRecDepth 100000 in
theorem fx_37_3 : fxv 37 3 = 45 + 1 := by decide +kernel
set_option maxRecDepth 100000 in
theorem fx_3_0 : fxv 3 0 = 1 + 1 := by decide +kernel
set_option maxRecDepth 100000 in
theorem fx_3_1 : fxv 3 1 = 4 + 1 := by decide +kernel
set_option maxRecDepth 100000 in
theorem fx_7_0 : fxv 7 0 = 1 + 1 := by decide +kernel
set_option maxRecDepth 100000 in
theorem fx_7_1 : fxv 7 1 = 8 + 1 := by decide +kernel
set_option maxRecDepth 100000 in
theorem fx_9_0 : fxv 9 0 = 1 + 1 := by decide +kernel
set_option maxRecDepth 100000 in
theorem fx_9_1 : fxv 9 1 = 10 + 1 := by decide +kernel
set_option maxRecDepth 100000 in
theorem fx_9_2 : fxv 9 2 = 11 + 1 := by decide +kernel
set_option maxRecDepth 100000 in
theorem fx_9_3 : fxv 9 3 = 12 + 1 := by decide +kernel
set_option maxRecDepth 100000 in
theorem sh_0 : SHF[0]? = some (.inl 11) := by decide +kernel
set_option maxRecDepth 100000 in
theorem sh_1 : SHF[1]? = some (.inl 7) := by decide +kernel
set_option maxRecDepth 100000 in
theorem sh_13 : SHF[13]? = some (.inl 1) := by decide +kernel
set_option maxRecDepth 100000 in
theorem sh_16 : SHF[16]? = some (.inl 4) := by decide +kernel
set_option maxRecDepth 100000 in
theorem sh_17 : SHF[17]? = some (.inr (5, 4)) := by decide +kernel
set_option maxRecDepth 100000 in
theorem sh_2 : SHF[2]? = some (.inr (1, 240)) := by decide +kernel
set_option maxRecDepth 100000 in
theorem sh_24 : SHF[24]? = some (.inr (0, 64)) := by decide +kernel
set_option maxRecDepth 100000 in
theorem sh_246 : SHF[246]? = some (.inl 6) := by decide +kernel
set_option maxRecDepth 100000 in
theorem sh_249 : SHF[249]? = some (.inl 8) := by decide +kernel
set_option maxRecDepth 100000 in
theorem sh_25 : SHF[25]? = some (.inr (3, 2048)) := by decide +kernel
set_option maxRecDepth 100000 in
theorem sh_251 : SHF[251]? = some (.inl 12) := by decide +kernel
set_option maxRecDepth 100000 in
theorem sh_26 : SHF[26]? = some (.inl 9) := by decide +kernel
set_option maxRecDepth 100000 in
theorem sh_27 : SHF[27]? = some (.inl 0) := by decide +kernel
set_option maxRecDepth 100000 in
theorem sh_3 : SHF[3]? = some (.inl 2) := by decide +kernel
set_option maxRecDepth 100000 in
theorem sh_32 : SHF[32]? = some (.inl 0) := by decide +kernel
set_option maxRecDepth 100000 in
theorem sh_37 : SHF[37]? = some (.inl 5) := by decide +kernel
set_option maxRecDepth 100000 in
theorem sh_38 : SHF[38]? = some (.inr (4, 40)) := by decide +kernel
set_option maxRecDepth 100000 in
theorem sh_4 : SHF[4]? = some (.inl 1) := by decide +kernel
set_option maxRecDepth 100000 in
theorem sh_40 : SHF[40]? = some (.inl 0) := by decide +kernel
set_option maxRecDepth 100000 in
theorem sh_7 : SHF[7]? = some (.inl 3) := by decide +kernel
set_option maxRecDepth 100000 in
theorem sh_9 : SHF[9]? = some (.inl 10) := by decide +kernel
set_option maxRecDepth 100000 in
theorem km_0 : decide (0 < KM) = true := by decide +kernel
set_option maxRecDepth 100000 in
theorem km_1 : decide (1 < KM) = true := by decide +kernel
set_option maxRecDepth 100000 in
theorem km_13 : decide (13 < KM) = true := by decide +kernel
set_option maxRecDepth 100000 in
theorem km_16 : decide (16 < KM) = true := by decide +kernel
set_option maxRecDepth 100000 in
theorem km_246 : decide (246 < KM) = true := by decide +kernel
set_option maxRecDepth 100000 in
theorem km_249 : decide (249 < KM) = true := by decide +kernel
set_option maxRecDepth 100000 in
theorem km_251 : decide (251 < KM) = false := by decide +kernel
set_option maxRecDepth 100000 in
theorem km_26 : decide (26 < KM) = true := by decide +kernel
set_option maxRecDepth 100000 in
theorem km_27 : decide (27 < KM) = true := by decide +kernel
set_option maxRecDepth 100000 in
theorem km_3 : decide (3 < KM) = true := by decide +kernel
set_option maxRecDepth 100000 in
theorem km_32 : decide (32 < KM) = true := by decide +kernel
set_option maxRecDepth 100000 in
theorem km_37 : decide (37 < KM) = true := by decide +kernel
set_option maxRecDepth 100000 in
theorem km_4 : decide (4 < KM) = true := by decide +kernel
set_option maxRecDepth 100000 in
theorem km_40 : decide (40 < KM) = true := by decide +kernel
set_option maxRecDepth 100000 in
theorem km_7 : decide (7 < KM) = true := by decide +kernel
set_option maxRecDepth 100000 in
theorem km_9 : decide (9 < KM) = true := by decide +kernel
set_option maxRecDepth 100000 in
theorem io_10 : isO true 0 10 := ⟨by decide +kernel, by decide +kernel⟩
set_option maxRecDepth 100000 in
theorem io_11 : isO true 0 11 := ⟨by decide +kernel, by decide +kernel⟩
set_option maxRecDepth 100000 in
theorem io_12 : isO true 0 12 := ⟨by decide +kernel, by decide +kernel⟩
set_option maxRecDepth 100000 in
theorem io_2 : isO true 1 2 := ⟨by decide +kernel, by decide +kernel⟩
set_option maxRecDepth 100000 in
theorem io_22 : isO true 0 22 := ⟨by decide +kernel, by decide +kernel⟩
set_option maxRecDepth 100000 in
theorem io_23 : isO true 0 23 := ⟨by decide +kernel, by decide +kernel⟩
set_option maxRecDepth 100000 in
theorem io_24 : isO true 0 24 := ⟨by decide +kernel, by decide +kernel⟩
set_option maxRecDepth 100000 in
theorem io_247 : isO true 0 247 := ⟨by decide +kernel, by decide +kernel⟩
set_option maxRecDepth 100000 in
theorem io_248 : isO true 0 248 := ⟨by decide +kernel, by decide +kernel⟩
set_option maxRecDepth 100000 in
theorem io_25 : isO true 3 25 := ⟨by decide +kernel, by decide +kernel⟩
set_option maxRecDepth 100000 in
theorem io_250 : isO true 0 250 := ⟨by decide +kernel, by decide +kernel⟩
set_option maxRecDepth 100000 in
theorem io_252 : isO false 2 252 := ⟨by decide +kernel, by decide +kernel⟩
set_option maxRecDepth 100000 in
theorem io_253 : isO false 2 253 := ⟨by decide +kernel, by decide +kernel⟩
set_option maxRecDepth 100000 in
theorem io_254 : isO false 0 254 := ⟨by decide +kernel, by decide +kernel⟩
set_option maxRecDepth 100000 in
theorem io_255 : isO false 0 255 := ⟨by decide +kernel, by decide +kernel⟩
set_option maxRecDepth 100000 in
theorem io_256 : isO false 0 256 := ⟨by decide +kernel, by decide +kernel⟩
set_option maxRecDepth 100000 in
theorem io_257 : isO false 0 257 := ⟨by decide +kernel, by decide +kernel⟩
set_option maxRecDepth 100000 in
theorem io_258 : isO false 0 258 := ⟨by decide +kernel, by decide +kernel⟩
set_option maxRecDepth 100000 in
theorem io_259 : isO false 0 259 := ⟨by decide +kernel, by decide +kernel⟩
set_option maxRecDepth 100000 in
theorem io_260 : isO false 0 260 := ⟨by decide +kernel, by decide +kernel⟩
set_option maxRecDepth 100000 in
theorem io_261 : isO false 0 261 := ⟨by decide +kernel, by decide +kernel⟩
set_option maxRecDepth 100000 in
theorem io_262 : isO false 0 262 := ⟨by decide +kernel, by decide +kernel⟩
set_option maxRecDepth 100000 in
theorem io_263 : isO false 0 263 := ⟨by decide +kernel, by decide +kernel⟩
set_option maxRecDepth 100000 in
theorem io_264 : isO false 0 264 := ⟨by decide +kernel, by decide +kernel⟩
set_option maxRecDepth 100000 in
theorem io_265 : isO false 0 265 := ⟨by decide +kernel, by decide +kernel⟩
set_option maxRecDepth 100000 in
theorem io_266 : isO false 3 266 := ⟨by decide +kernel, by decide +kernel⟩
set_option maxRecDepth 100000 in
theorem io_267 : isO false 0 267 := ⟨by decide +kernel, by decide +kernel⟩
set_option maxRecDepth 100000 in
theorem io_268 : isO false 0 268 := ⟨by decide +kernel, by decide +kernel⟩
set_option maxRecDepth 100000 in
theorem io_269 : isO false 0 269 := ⟨by decide +kernel, by decide +kernel⟩
set_option maxRecDepth 100000 in
theorem io_270 : isO false 0 270 := ⟨by decide +kernel, by decide +kernel⟩
set_option maxRecDepth 100000 in
theorem io_271 : isO false 0 271 := ⟨by decide +kernel, by decide +kernel⟩
set_option maxRecDepth 100000 in
theorem io_272 : isO false 0 272 := ⟨by decide +kernel, by decide +kernel⟩
set_option maxRecDepth 100000 in
theorem io_28 : isO true 0 28 := ⟨by decide +kernel, by decide +kernel⟩
set_option maxRecDepth 100000 in
theorem io_29 : isO true 0 29 := ⟨by decide +kernel, by decide +kernel⟩
set_option maxRecDepth 100000 in
theorem io_30 : isO true 0 30 := ⟨by decide +kernel, by decide +kernel⟩
set_option maxRecDepth 100000 in
theorem io_31 : isO true 0 31 := ⟨by decide +kernel, by decide +kernel⟩
set_option maxRecDepth 100000 in
theorem io_39 : isO true 0 39 := ⟨by decide +kernel, by decide +kernel⟩
set_option maxRecDepth 100000 in
theorem io_45 : isO true 0 45 := ⟨by decide +kernel, by decide +kernel⟩
set_option maxRecDepth 100000 in
theorem io_8 : isO true 0 8 := ⟨by decide +kernel, by decide +kernel⟩
set_option maxRecDepth 100000 in
theorem isb_27 : isBed 27 := by unfold isBed; decide +kernel
set_option maxRecDepth 100000 in
theorem isb_32 : isBed 32 := by unfold isBed; decide +kernel
set_option maxRecDepth 100000 in
theorem isb_40 : isBed 40 := by unfold isBed; decide +kernel
set_option maxRecDepth 100000 in
theorem fl_X0_15 : fOK RX0 15 0 RX0 TX0 13 1 := ⟨cok_X0, by decide, rfl, gin 284 (by decide +kernel) rfl⟩
set_option maxRecDepth 100000 in
theorem fl_X0_18 : fOK RX0 18 0 RX0 TX0 13 2 := ⟨cok_X0, by decide, rfl, gin 288 (by decide +kernel) rfl⟩
set_option maxRecDepth 100000 in
theorem fl_X0_21 : fOK RX0 21 0 RX0 TX0 13 3 := ⟨cok_X0, by decide, rfl, gin 293 (by decide +kernel) rfl⟩
set_option maxRecDepth 100000 in
theorem fl_X0_44 : fOK RX0 44 0 RX0 TX0 13 4 := ⟨cok_X0, by decide, rfl, gin 298 (by decide +kernel) rfl⟩
set_option maxRecDepth 100000 in
theorem fl_X0_48 : fOK RX0 48 0 RX0 TX0 13 5 := ⟨cok_X0, by decide, rfl, gin 301 (by decide +kernel) rfl⟩
set_option maxRecDepth 100000 in
theorem fl_X0_51 : fOK RX0 51 0 RX0 TX0 13 6 := ⟨cok_X0, by decide, rfl, gin 305 (by decide +kernel) rfl⟩
set_option maxRecDepth 100000 in
theorem fl_X0_54 : fOK RX0 54 0 RX0 TX0 13 7 := ⟨cok_X0, by decide, rfl, gin 309 (by decide +kernel) rfl⟩
set_option maxRecDepth 100000 in
theorem fl_X0_57 : fOK RX0 57 0 RX0 TX0 13 8 := ⟨cok_X0, by decide, rfl, gin 312 (by decide +kernel) rfl⟩
set_option maxRecDepth 100000 in
theorem fl_X0_60 : fOK RX0 60 0 RX0 TX0 13 10 := ⟨cok_X0, by decide, rfl, gin 318 (by decide +kernel) rfl⟩
set_option maxRecDepth 100000 in
theorem fl_X0_66 : fOK RX0 66 0 RX0 TX0 13 9 := ⟨cok_X0, by decide, rfl, gin 315 (by decide +kernel) rfl⟩
set_option maxRecDepth 100000 in
theorem fl_X0_69 : fOK RX0 69 0 RX0 TX0 13 11 := ⟨cok_X0, by decide, rfl, gin 320 (by decide +kernel) rfl⟩
set_option maxRecDepth 100000 in
theorem fl_X0_73 : fOK RX0 73 0 RX0 TX0 13 12 := ⟨cok_X0, by decide, rfl, gin 323 (by decide +kernel) rfl⟩
set_option maxRecDepth 100000 in
theorem fl_X0_9 : fOK RX0 9 0 RX0 TX0 13 0 := ⟨cok_X0, by decide, rfl, gin 280 (by decide +kernel) rfl⟩
set_option maxRecDepth 100000 in
theorem fl_X10_11 : fOK RX10 11 10 RX10 TX10 6 1 := ⟨cok_X10, by decide, rfl, gin 201 (by decide +kernel) rfl⟩
set_option maxRecDepth 100000 in
theorem fl_X10_15 : fOK RX10 15 10 RX10 TX10 6 2 := ⟨cok_X10, by decide, rfl, gin 202 (by decide +kernel) rfl⟩
set_option maxRecDepth 100000 in
theorem fl_X10_18 : fOK RX10 18 10 RX10 TX10 6 3 := ⟨cok_X10, by decide, rfl, gin 203 (by decide +kernel) rfl⟩
set_option maxRecDepth 100000 in
theorem fl_X10_21 : fOK RX10 21 10 RX10 TX10 6 0 := ⟨cok_X10, by decide, rfl, gin 200 (by decide +kernel) rfl⟩
set_option maxRecDepth 100000 in
theorem fl_X10_25 : fOK RX10 25 7 RX7 TX7 3 2 := ⟨cok_X7, by decide, rfl, gin 137 (by decide +kernel) rfl⟩
set_option maxRecDepth 100000 in
theorem fl_X10_39 : fOK RX10 39 10 RX10 TX10 6 4 := ⟨cok_X10, by decide, rfl, gin 204 (by decide +kernel) rfl⟩
set_option maxRecDepth 100000 in
theorem fl_X10_67 : fOK RX10 67 10 RX10 TX10 6 5 := ⟨cok_X10, by decide, rfl, gin 205 (by decide +kernel) rfl⟩
set_option maxRecDepth 100000 in
theorem fl_X11_10 : fOK RX11 10 11 RX11 TX11 14 0 := ⟨cok_X11, by decide, rfl, gin 444 (by decide +kernel) rfl⟩
set_option maxRecDepth 100000 in
theorem fl_X11_110 : fOK RX11 110 7 RX7 TX7 3 2 := ⟨cok_X7, by decide, rfl, gin 138 (by decide +kernel) rfl⟩
set_option maxRecDepth 100000 in
theorem fl_X11_128 : fOK RX11 128 0 RX0 TX0 13 4 := ⟨cok_X0, by decide, rfl, gin 300 (by decide +kernel) rfl⟩
set_option maxRecDepth 100000 in
theorem fl_X11_169 : fOK RX11 169 0 RX0 TX0 13 2 := ⟨cok_X0, by decide, rfl, gin 292 (by decide +kernel) rfl⟩
set_option maxRecDepth 100000 in
theorem fl_X11_186 : fOK RX11 186 0 RX0 TX0 13 0 := ⟨cok_X0, by decide, rfl, gin 283 (by decide +kernel) rfl⟩
set_option maxRecDepth 100000 in
theorem fl_X11_192 : fOK RX11 192 11 RX11 TX11 14 12 := ⟨cok_X11, by decide, rfl, gin 456 (by decide +kernel) rfl⟩
set_option maxRecDepth 100000 in
theorem fl_X11_21 : fOK RX11 21 11 RX11 TX11 14 1 := ⟨cok_X11, by decide, rfl, gin 445 (by decide +kernel) rfl⟩
set_option maxRecDepth 100000 in
theorem fl_X11_221 : fOK RX11 221 0 RX0 TX0 13 5 := ⟨cok_X0, by decide, rfl, gin 304 (by decide +kernel) rfl⟩
set_option maxRecDepth 100000 in
theorem fl_X11_234 : fOK RX11 234 0 RX0 TX0 13 6 := ⟨cok_X0, by decide, rfl, gin 308 (by decide +kernel) rfl⟩
set_option maxRecDepth 100000 in
theorem fl_X11_237 : fOK RX11 237 11 RX11 TX11 14 13 := ⟨cok_X11, by decide, rfl, gin 457 (by decide +kernel) rfl⟩
set_option maxRecDepth 100000 in
theorem fl_X11_250 : fOK RX11 250 5 RX5 TX5 7 5 := ⟨cok_X5, by decide, rfl, gin 368 (by decide +kernel) rfl⟩
set_option maxRecDepth 100000 in
theorem fl_X11_28 : fOK RX11 28 11 RX11 TX11 14 2 := ⟨cok_X11, by decide, rfl, gin 446 (by decide +kernel) rfl⟩
set_option maxRecDepth 100000 in
theorem fl_X11_303 : fOK RX11 303 6 RX6 TX6 9 7 := ⟨cok_X6, by decide, rfl, gin 400 (by decide +kernel) rfl⟩
set_option maxRecDepth 100000 in
theorem fl_X11_306 : fOK RX11 306 6 RX6 TX6 9 6 := ⟨cok_X6, by decide, rfl, gin 398 (by decide +kernel) rfl⟩
set_option maxRecDepth 100000 in
theorem fl_X11_320 : fOK RX11 320 8 RX8 TX8 5 4 := ⟨cok_X8, by decide, rfl, gin 432 (by decide +kernel) rfl⟩
set_option maxRecDepth 100000 in
theorem fl_X11_35 : fOK RX11 35 11 RX11 TX11 14 3 := ⟨cok_X11, by decide, rfl, gin 447 (by decide +kernel) rfl⟩
set_option maxRecDepth 100000 in
theorem fl_X11_382 : fOK RX11 382 4 RX4 TX4 8 5 := ⟨cok_X4, by decide, rfl, gin 236 (by decide +kernel) rfl⟩
set_option maxRecDepth 100000 in
theorem fl_X11_383 : fOK RX11 383 10 RX10 TX10 6 5 := ⟨cok_X10, by decide, rfl, gin 206 (by decide +kernel) rfl⟩
set_option maxRecDepth 100000 in
theorem fl_X11_384 : fOK RX11 384 4 RX4 TX4 8 6 := ⟨cok_X4, by decide, rfl, gin 238 (by decide +kernel) rfl⟩
set_option maxRecDepth 100000 in
theorem fl_X11_390 : fOK RX11 390 0 RX0 TX0 13 7 := ⟨cok_X0, by decide, rfl, gin 311 (by decide +kernel) rfl⟩
set_option maxRecDepth 100000 in
theorem fl_X11_393 : fOK RX11 393 0 RX0 TX0 13 8 := ⟨cok_X0, by decide, rfl, gin 314 (by decide +kernel) rfl⟩
set_option maxRecDepth 100000 in
theorem fl_X11_396 : fOK RX11 396 0 RX0 TX0 13 11 := ⟨cok_X0, by decide, rfl, gin 322 (by decide +kernel) rfl⟩
set_option maxRecDepth 100000 in
theorem fl_X11_400 : fOK RX11 400 0 RX0 TX0 13 12 := ⟨cok_X0, by decide, rfl, gin 325 (by decide +kernel) rfl⟩
set_option maxRecDepth 100000 in
theorem fl_X11_411 : fOK RX11 411 2 RX2 TX2 2 1 := ⟨cok_X2, by decide, rfl, gin 170 (by decide +kernel) rfl⟩
set_option maxRecDepth 100000 in
theorem fl_X11_42 : fOK RX11 42 11 RX11 TX11 14 4 := ⟨cok_X11, by decide, rfl, gin 448 (by decide +kernel) rfl⟩
set_option maxRecDepth 100000 in
theorem fl_X11_49 : fOK RX11 49 11 RX11 TX11 14 5 := ⟨cok_X11, by decide, rfl, gin 449 (by decide +kernel) rfl⟩
set_option maxRecDepth 100000 in
theorem fl_X11_58 : fOK RX11 58 11 RX11 TX11 14 6 := ⟨cok_X11, by decide, rfl, gin 450 (by decide +kernel) rfl⟩
set_option maxRecDepth 100000 in
theorem fl_X11_65 : fOK RX11 65 11 RX11 TX11 14 7 := ⟨cok_X11, by decide, rfl, gin 451 (by decide +kernel) rfl⟩
set_option maxRecDepth 100000 in
theorem fl_X11_69 : fOK RX11 69 11 RX11 TX11 14 8 := ⟨cok_X11, by decide, rfl, gin 452 (by decide +kernel) rfl⟩
set_option maxRecDepth 100000 in
theorem fl_X11_75 : fOK RX11 75 11 RX11 TX11 14 9 := ⟨cok_X11, by decide, rfl, gin 453 (by decide +kernel) rfl⟩
set_option maxRecDepth 100000 in
theorem fl_X11_84 : fOK RX11 84 11 RX11 TX11 14 10 := ⟨cok_X11, by decide, rfl, gin 454 (by decide +kernel) rfl⟩
set_option maxRecDepth 100000 in
theorem fl_X11_91 : fOK RX11 91 11 RX11 TX11 14 11 := ⟨cok_X11, by decide, rfl, gin 455 (by decide +kernel) rfl⟩
set_option maxRecDepth 100000 in
theorem fl_X11_99 : fOK RX11 99 7 RX7 TX7 3 1 := ⟨cok_X7, by decide, rfl, gin 134 (by decide +kernel) rfl⟩
set_option maxRecDepth 100000 in
theorem fl_X12_106 : fOK RX12 106 12 RX12 TX12 51 6 := ⟨cok_X12, by decide, rfl, gin 1493 (by decide +kernel) rfl⟩
set_option maxRecDepth 100000 in
theorem fl_X12_116 : fOK RX12 116 12 RX12 TX12 51 10 := ⟨cok_X12, by decide, rfl, gin 1497 (by decide +kernel) rfl⟩
set_option maxRecDepth 100000 in
theorem fl_X12_119 : fOK RX12 119 12 RX12 TX12 51 9 := ⟨cok_X12, by decide, rfl, gin 1496 (by decide +kernel) rfl⟩
set_option maxRecDepth 100000 in
theorem fl_X12_122 : fOK RX12 122 12 RX12 TX12 51 8 := ⟨cok_X12, by decide, rfl, gin 1495 (by decide +kernel) rfl⟩
set_option maxRecDepth 100000 in
theorem fl_X12_125 : fOK RX12 125 12 RX12 TX12 51 11 := ⟨cok_X12, by decide, rfl, gin 1498 (by decide +kernel) rfl⟩
set_option maxRecDepth 100000 in
theorem fl_X12_128 : fOK RX12 128 12 RX12 TX12 51 12 := ⟨cok_X12, by decide, rfl, gin 1499 (by decide +kernel) rfl⟩
set_option maxRecDepth 100000 in
theorem fl_X12_13 : fOK RX12 13 12 RX12 TX12 51 2 := ⟨cok_X12, by decide, rfl, gin 1489 (by decide +kernel) rfl⟩
set_option maxRecDepth 100000 in
theorem fl_X12_16 : fOK RX12 16 12 RX12 TX12 51 3 := ⟨cok_X12, by decide, rfl, gin 1490 (by decide +kernel) rfl⟩
set_option maxRecDepth 100000 in
theorem fl_X12_194 : fOK RX12 194 12 RX12 TX12 51 17 := ⟨cok_X12, by decide, rfl, gin 1504 (by decide +kernel) rfl⟩
set_option maxRecDepth 100000 in
theorem fl_X12_198 : fOK RX12 198 12 RX12 TX12 51 13 := ⟨cok_X12, by decide, rfl, gin 1500 (by decide +kernel) rfl⟩
set_option maxRecDepth 100000 in
theorem fl_X12_20 : fOK RX12 20 12 RX12 TX12 51 4 := ⟨cok_X12, by decide, rfl, gin 1491 (by decide +kernel) rfl⟩
set_option maxRecDepth 100000 in
theorem fl_X12_201 : fOK RX12 201 12 RX12 TX12 51 14 := ⟨cok_X12, by decide, rfl, gin 1501 (by decide +kernel) rfl⟩
set_option maxRecDepth 100000 in
theorem fl_X12_23 : fOK RX12 23 12 RX12 TX12 51 5 := ⟨cok_X12, by decide, rfl, gin 1492 (by decide +kernel) rfl⟩
set_option maxRecDepth 100000 in
theorem fl_X12_239 : fOK RX12 239 12 RX12 TX12 51 31 := ⟨cok_X12, by decide, rfl, gin 1518 (by decide +kernel) rfl⟩
set_option maxRecDepth 100000 in
theorem fl_X12_242 : fOK RX12 242 12 RX12 TX12 51 28 := ⟨cok_X12, by decide, rfl, gin 1515 (by decide +kernel) rfl⟩
set_option maxRecDepth 100000 in
theorem fl_X12_245 : fOK RX12 245 12 RX12 TX12 51 29 := ⟨cok_X12, by decide, rfl, gin 1516 (by decide +kernel) rfl⟩
set_option maxRecDepth 100000 in
theorem fl_X12_280 : fOK RX12 280 12 RX12 TX12 51 7 := ⟨cok_X12, by decide, rfl, gin 1494 (by decide +kernel) rfl⟩
set_option maxRecDepth 100000 in
theorem fl_X12_283 : fOK RX12 283 12 RX12 TX12 51 30 := ⟨cok_X12, by decide, rfl, gin 1517 (by decide +kernel) rfl⟩
set_option maxRecDepth 100000 in
theorem fl_X12_288 : fOK RX12 288 12 RX12 TX12 51 26 := ⟨cok_X12, by decide, rfl, gin 1513 (by decide +kernel) rfl⟩
set_option maxRecDepth 100000 in
theorem fl_X12_291 : fOK RX12 291 12 RX12 TX12 51 27 := ⟨cok_X12, by decide, rfl, gin 1514 (by decide +kernel) rfl⟩
set_option maxRecDepth 100000 in
theorem fl_X12_294 : fOK RX12 294 12 RX12 TX12 51 47 := ⟨cok_X12, by decide, rfl, gin 1534 (by decide +kernel) rfl⟩
set_option maxRecDepth 100000 in
theorem fl_X12_297 : fOK RX12 297 12 RX12 TX12 51 39 := ⟨cok_X12, by decide, rfl, gin 1526 (by decide +kernel) rfl⟩
set_option maxRecDepth 100000 in
theorem fl_X12_300 : fOK RX12 300 12 RX12 TX12 51 50 := ⟨cok_X12, by decide, rfl, gin 1537 (by decide +kernel) rfl⟩
set_option maxRecDepth 100000 in
theorem fl_X12_352 : fOK RX12 352 12 RX12 TX12 51 35 := ⟨cok_X12, by decide, rfl, gin 1522 (by decide +kernel) rfl⟩
set_option maxRecDepth 100000 in
theorem fl_X12_37 : fOK RX12 37 12 RX12 TX12 51 18 := ⟨cok_X12, by decide, rfl, gin 1505 (by decide +kernel) rfl⟩
set_option maxRecDepth 100000 in
theorem fl_X12_381 : fOK RX12 381 12 RX12 TX12 51 40 := ⟨cok_X12, by decide, rfl, gin 1527 (by decide +kernel) rfl⟩
set_option maxRecDepth 100000 in
theorem fl_X12_40 : fOK RX12 40 12 RX12 TX12 51 19 := ⟨cok_X12, by decide, rfl, gin 1506 (by decide +kernel) rfl⟩
set_option maxRecDepth 100000 in
theorem fl_X12_412 : fOK RX12 412 12 RX12 TX12 51 41 := ⟨cok_X12, by decide, rfl, gin 1528 (by decide +kernel) rfl⟩
set_option maxRecDepth 100000 in
theorem fl_X12_415 : fOK RX12 415 12 RX12 TX12 51 42 := ⟨cok_X12, by decide, rfl, gin 1529 (by decide +kernel) rfl⟩
set_option maxRecDepth 100000 in
theorem fl_X12_422 : fOK RX12 422 12 RX12 TX12 51 45 := ⟨cok_X12, by decide, rfl, gin 1532 (by decide +kernel) rfl⟩
set_option maxRecDepth 100000 in
theorem fl_X12_425 : fOK RX12 425 12 RX12 TX12 51 44 := ⟨cok_X12, by decide, rfl, gin 1531 (by decide +kernel) rfl⟩
set_option maxRecDepth 100000 in
theorem fl_X12_43 : fOK RX12 43 12 RX12 TX12 51 20 := ⟨cok_X12, by decide, rfl, gin 1507 (by decide +kernel) rfl⟩
set_option maxRecDepth 100000 in
theorem fl_X12_46 : fOK RX12 46 12 RX12 TX12 51 21 := ⟨cok_X12, by decide, rfl, gin 1508 (by decide +kernel) rfl⟩
set_option maxRecDepth 100000 in
theorem fl_X12_49 : fOK RX12 49 12 RX12 TX12 51 22 := ⟨cok_X12, by decide, rfl, gin 1509 (by decide +kernel) rfl⟩
set_option maxRecDepth 100000 in
theorem fl_X12_52 : fOK RX12 52 12 RX12 TX12 51 23 := ⟨cok_X12, by decide, rfl, gin 1510 (by decide +kernel) rfl⟩
set_option maxRecDepth 100000 in
theorem fl_X12_55 : fOK RX12 55 12 RX12 TX12 51 24 := ⟨cok_X12, by decide, rfl, gin 1511 (by decide +kernel) rfl⟩
set_option maxRecDepth 100000 in
theorem fl_X12_58 : fOK RX12 58 12 RX12 TX12 51 25 := ⟨cok_X12, by decide, rfl, gin 1512 (by decide +kernel) rfl⟩
set_option maxRecDepth 100000 in
theorem fl_X12_61 : fOK RX12 61 12 RX12 TX12 51 32 := ⟨cok_X12, by decide, rfl, gin 1519 (by decide +kernel) rfl⟩
set_option maxRecDepth 100000 in
theorem fl_X12_64 : fOK RX12 64 12 RX12 TX12 51 33 := ⟨cok_X12, by decide, rfl, gin 1520 (by decide +kernel) rfl⟩
set_option maxRecDepth 100000 in
theorem fl_X12_67 : fOK RX12 67 12 RX12 TX12 51 34 := ⟨cok_X12, by decide, rfl, gin 1521 (by decide +kernel) rfl⟩
set_option maxRecDepth 100000 in
theorem fl_X12_71 : fOK RX12 71 12 RX12 TX12 51 36 := ⟨cok_X12, by decide, rfl, gin 1523 (by decide +kernel) rfl⟩
set_option maxRecDepth 100000 in
theorem fl_X12_75 : fOK RX12 75 12 RX12 TX12 51 37 := ⟨cok_X12, by decide, rfl, gin 1524 (by decide +kernel) rfl⟩
set_option maxRecDepth 100000 in
theorem fl_X12_78 : fOK RX12 78 12 RX12 TX12 51 38 := ⟨cok_X12, by decide, rfl, gin 1525 (by decide +kernel) rfl⟩
set_option maxRecDepth 100000 in
theorem fl_X12_81 : fOK RX12 81 12 RX12 TX12 51 43 := ⟨cok_X12, by decide, rfl, gin 1530 (by decide +kernel) rfl⟩
set_option maxRecDepth 100000 in
theorem fl_X12_84 : fOK RX12 84 12 RX12 TX12 51 46 := ⟨cok_X12, by decide, rfl, gin 1533 (by decide +kernel) rfl⟩
set_option maxRecDepth 100000 in
theorem fl_X12_87 : fOK RX12 87 12 RX12 TX12 51 48 := ⟨cok_X12, by decide, rfl, gin 1535 (by decide +kernel) rfl⟩
set_option maxRecDepth 100000 in
theorem fl_X12_9 : fOK RX12 9 12 RX12 TX12 51 1 := ⟨cok_X12, by decide, rfl, gin 1488 (by decide +kernel) rfl⟩
set_option maxRecDepth 100000 in
theorem fl_X12_90 : fOK RX12 90 12 RX12 TX12 51 49 := ⟨cok_X12, by decide, rfl, gin 1536 (by decide +kernel) rfl⟩
set_option maxRecDepth 100000 in
theorem fl_X12_93 : fOK RX12 93 12 RX12 TX12 51 0 := ⟨cok_X12, by decide, rfl, gin 1487 (by decide +kernel) rfl⟩
set_option maxRecDepth 100000 in
theorem fl_X1_15 : fOK RX1 15 1 RX1 TX1 2 1 := ⟨cok_X1, by decide, rfl, gin 161 (by decide +kernel) rfl⟩
set_option maxRecDepth 100000 in
theorem fl_X1_9 : fOK RX1 9 1 RX1 TX1 2 0 := ⟨cok_X1, by decide, rfl, gin 160 (by decide +kernel) rfl⟩
set_option maxRecDepth 100000 in
theorem fl_X2_12 : fOK RX2 12 2 RX2 TX2 2 1 := ⟨cok_X2, by decide, rfl, gin 169 (by decide +kernel) rfl⟩
set_option maxRecDepth 100000 in
theorem fl_X2_18 : fOK RX2 18 2 RX2 TX2 2 0 := ⟨cok_X2, by decide, rfl, gin 168 (by decide +kernel) rfl⟩
set_option maxRecDepth 100000 in
theorem fl_X2_22 : fOK RX2 22 7 RX7 TX7 3 2 := ⟨cok_X7, by decide, rfl, gin 135 (by decide +kernel) rfl⟩
set_option maxRecDepth 100000 in
theorem fl_X3_11 : fOK RX3 11 3 RX3 TX3 3 1 := ⟨cok_X3, by decide, rfl, gin 183 (by decide +kernel) rfl⟩
set_option maxRecDepth 100000 in
theorem fl_X3_17 : fOK RX3 17 3 RX3 TX3 3 0 := ⟨cok_X3, by decide, rfl, gin 182 (by decide +kernel) rfl⟩
set_option maxRecDepth 100000 in
theorem fl_X3_21 : fOK RX3 21 7 RX7 TX7 3 2 := ⟨cok_X7, by decide, rfl, gin 136 (by decide +kernel) rfl⟩
set_option maxRecDepth 100000 in
theorem fl_X3_27 : fOK RX3 27 3 RX3 TX3 3 2 := ⟨cok_X3, by decide, rfl, gin 185 (by decide +kernel) rfl⟩
set_option maxRecDepth 100000 in
theorem fl_X4_13 : fOK RX4 13 4 RX4 TX4 8 0 := ⟨cok_X4, by decide, rfl, gin 230 (by decide +kernel) rfl⟩
set_option maxRecDepth 100000 in
theorem fl_X4_16 : fOK RX4 16 4 RX4 TX4 8 1 := ⟨cok_X4, by decide, rfl, gin 231 (by decide +kernel) rfl⟩
set_option maxRecDepth 100000 in
theorem fl_X4_20 : fOK RX4 20 4 RX4 TX4 8 2 := ⟨cok_X4, by decide, rfl, gin 232 (by decide +kernel) rfl⟩
set_option maxRecDepth 100000 in
theorem fl_X4_23 : fOK RX4 23 4 RX4 TX4 8 3 := ⟨cok_X4, by decide, rfl, gin 233 (by decide +kernel) rfl⟩
set_option maxRecDepth 100000 in
theorem fl_X4_26 : fOK RX4 26 4 RX4 TX4 8 4 := ⟨cok_X4, by decide, rfl, gin 234 (by decide +kernel) rfl⟩
set_option maxRecDepth 100000 in
theorem fl_X4_30 : fOK RX4 30 4 RX4 TX4 8 6 := ⟨cok_X4, by decide, rfl, gin 237 (by decide +kernel) rfl⟩
set_option maxRecDepth 100000 in
theorem fl_X4_34 : fOK RX4 34 4 RX4 TX4 8 5 := ⟨cok_X4, by decide, rfl, gin 235 (by decide +kernel) rfl⟩
set_option maxRecDepth 100000 in
theorem fl_X4_37 : fOK RX4 37 3 RX3 TX3 3 1 := ⟨cok_X3, by decide, rfl, gin 184 (by decide +kernel) rfl⟩
set_option maxRecDepth 100000 in
theorem fl_X4_45 : fOK RX4 45 3 RX3 TX3 3 2 := ⟨cok_X3, by decide, rfl, gin 186 (by decide +kernel) rfl⟩
set_option maxRecDepth 100000 in
theorem fl_X4_78 : fOK RX4 78 4 RX4 TX4 8 7 := ⟨cok_X4, by decide, rfl, gin 239 (by decide +kernel) rfl⟩
set_option maxRecDepth 100000 in
theorem fl_X5_13 : fOK RX5 13 5 RX5 TX5 7 0 := ⟨cok_X5, by decide, rfl, gin 362 (by decide +kernel) rfl⟩
set_option maxRecDepth 100000 in
theorem fl_X5_17 : fOK RX5 17 5 RX5 TX5 7 1 := ⟨cok_X5, by decide, rfl, gin 363 (by decide +kernel) rfl⟩
set_option maxRecDepth 100000 in
theorem fl_X5_22 : fOK RX5 22 5 RX5 TX5 7 2 := ⟨cok_X5, by decide, rfl, gin 364 (by decide +kernel) rfl⟩
set_option maxRecDepth 100000 in
theorem fl_X5_26 : fOK RX5 26 5 RX5 TX5 7 3 := ⟨cok_X5, by decide, rfl, gin 365 (by decide +kernel) rfl⟩
set_option maxRecDepth 100000 in
theorem fl_X5_29 : fOK RX5 29 5 RX5 TX5 7 5 := ⟨cok_X5, by decide, rfl, gin 367 (by decide +kernel) rfl⟩
set_option maxRecDepth 100000 in
theorem fl_X5_33 : fOK RX5 33 5 RX5 TX5 7 4 := ⟨cok_X5, by decide, rfl, gin 366 (by decide +kernel) rfl⟩
set_option maxRecDepth 100000 in
theorem fl_X5_37 : fOK RX5 37 5 RX5 TX5 7 6 := ⟨cok_X5, by decide, rfl, gin 369 (by decide +kernel) rfl⟩
set_option maxRecDepth 100000 in
theorem fl_X5_50 : fOK RX5 50 0 RX0 TX0 13 10 := ⟨cok_X0, by decide, rfl, gin 319 (by decide +kernel) rfl⟩
set_option maxRecDepth 100000 in
theorem fl_X6_107 : fOK RX6 107 0 RX0 TX0 13 6 := ⟨cok_X0, by decide, rfl, gin 306 (by decide +kernel) rfl⟩
set_option maxRecDepth 100000 in
theorem fl_X6_130 : fOK RX6 130 6 RX6 TX6 9 8 := ⟨cok_X6, by decide, rfl, gin 401 (by decide +kernel) rfl⟩
set_option maxRecDepth 100000 in
theorem fl_X6_15 : fOK RX6 15 6 RX6 TX6 9 5 := ⟨cok_X6, by decide, rfl, gin 396 (by decide +kernel) rfl⟩
set_option maxRecDepth 100000 in
theorem fl_X6_179 : fOK RX6 179 0 RX0 TX0 13 3 := ⟨cok_X0, by decide, rfl, gin 295 (by decide +kernel) rfl⟩
set_option maxRecDepth 100000 in
theorem fl_X6_18 : fOK RX6 18 6 RX6 TX6 9 0 := ⟨cok_X6, by decide, rfl, gin 391 (by decide +kernel) rfl⟩
set_option maxRecDepth 100000 in
theorem fl_X6_28 : fOK RX6 28 6 RX6 TX6 9 1 := ⟨cok_X6, by decide, rfl, gin 392 (by decide +kernel) rfl⟩
set_option maxRecDepth 100000 in
theorem fl_X6_33 : fOK RX6 33 6 RX6 TX6 9 2 := ⟨cok_X6, by decide, rfl, gin 393 (by decide +kernel) rfl⟩
set_option maxRecDepth 100000 in
theorem fl_X6_34 : fOK RX6 34 6 RX6 TX6 9 3 := ⟨cok_X6, by decide, rfl, gin 394 (by decide +kernel) rfl⟩
set_option maxRecDepth 100000 in
theorem fl_X6_38 : fOK RX6 38 6 RX6 TX6 9 6 := ⟨cok_X6, by decide, rfl, gin 397 (by decide +kernel) rfl⟩
set_option maxRecDepth 100000 in
theorem fl_X6_42 : fOK RX6 42 6 RX6 TX6 9 7 := ⟨cok_X6, by decide, rfl, gin 399 (by decide +kernel) rfl⟩
set_option maxRecDepth 100000 in
theorem fl_X6_45 : fOK RX6 45 0 RX0 TX0 13 0 := ⟨cok_X0, by decide, rfl, gin 281 (by decide +kernel) rfl⟩
set_option maxRecDepth 100000 in
theorem fl_X6_52 : fOK RX6 52 0 RX0 TX0 13 4 := ⟨cok_X0, by decide, rfl, gin 297 (by decide +kernel) rfl⟩
set_option maxRecDepth 100000 in
theorem fl_X6_65 : fOK RX6 65 0 RX0 TX0 13 9 := ⟨cok_X0, by decide, rfl, gin 316 (by decide +kernel) rfl⟩
set_option maxRecDepth 100000 in
theorem fl_X6_83 : fOK RX6 83 0 RX0 TX0 13 2 := ⟨cok_X0, by decide, rfl, gin 290 (by decide +kernel) rfl⟩
set_option maxRecDepth 100000 in
theorem fl_X6_86 : fOK RX6 86 0 RX0 TX0 13 5 := ⟨cok_X0, by decide, rfl, gin 302 (by decide +kernel) rfl⟩
set_option maxRecDepth 100000 in
theorem fl_X6_89 : fOK RX6 89 0 RX0 TX0 13 1 := ⟨cok_X0, by decide, rfl, gin 286 (by decide +kernel) rfl⟩
set_option maxRecDepth 100000 in
theorem fl_X6_9 : fOK RX6 9 6 RX6 TX6 9 4 := ⟨cok_X6, by decide, rfl, gin 395 (by decide +kernel) rfl⟩
set_option maxRecDepth 100000 in
theorem fl_X7_15 : fOK RX7 15 7 RX7 TX7 3 1 := ⟨cok_X7, by decide, rfl, gin 133 (by decide +kernel) rfl⟩
set_option maxRecDepth 100000 in
theorem fl_X7_27 : fOK RX7 27 7 RX7 TX7 3 2 := ⟨cok_X7, by decide, rfl, gin 139 (by decide +kernel) rfl⟩
set_option maxRecDepth 100000 in
theorem fl_X7_9 : fOK RX7 9 7 RX7 TX7 3 0 := ⟨cok_X7, by decide, rfl, gin 132 (by decide +kernel) rfl⟩
set_option maxRecDepth 100000 in
theorem fl_X8_11 : fOK RX8 11 8 RX8 TX8 5 3 := ⟨cok_X8, by decide, rfl, gin 430 (by decide +kernel) rfl⟩
set_option maxRecDepth 100000 in
theorem fl_X8_15 : fOK RX8 15 8 RX8 TX8 5 0 := ⟨cok_X8, by decide, rfl, gin 427 (by decide +kernel) rfl⟩
set_option maxRecDepth 100000 in
theorem fl_X8_25 : fOK RX8 25 8 RX8 TX8 5 1 := ⟨cok_X8, by decide, rfl, gin 428 (by decide +kernel) rfl⟩
set_option maxRecDepth 100000 in
theorem fl_X8_26 : fOK RX8 26 8 RX8 TX8 5 2 := ⟨cok_X8, by decide, rfl, gin 429 (by decide +kernel) rfl⟩
set_option maxRecDepth 100000 in
theorem fl_X8_30 : fOK RX8 30 8 RX8 TX8 5 4 := ⟨cok_X8, by decide, rfl, gin 431 (by decide +kernel) rfl⟩
set_option maxRecDepth 100000 in
theorem fl_X8_44 : fOK RX8 44 0 RX0 TX0 13 2 := ⟨cok_X0, by decide, rfl, gin 289 (by decide +kernel) rfl⟩
set_option maxRecDepth 100000 in
theorem fl_X9_100 : fOK RX9 100 0 RX0 TX0 13 9 := ⟨cok_X0, by decide, rfl, gin 317 (by decide +kernel) rfl⟩
set_option maxRecDepth 100000 in
theorem fl_X9_116 : fOK RX9 116 0 RX0 TX0 13 11 := ⟨cok_X0, by decide, rfl, gin 321 (by decide +kernel) rfl⟩
set_option maxRecDepth 100000 in
theorem fl_X9_123 : fOK RX9 123 0 RX0 TX0 13 12 := ⟨cok_X0, by decide, rfl, gin 324 (by decide +kernel) rfl⟩
set_option maxRecDepth 100000 in
theorem fl_X9_139 : fOK RX9 139 0 RX0 TX0 13 7 := ⟨cok_X0, by decide, rfl, gin 310 (by decide +kernel) rfl⟩
set_option maxRecDepth 100000 in
theorem fl_X9_142 : fOK RX9 142 0 RX0 TX0 13 8 := ⟨cok_X0, by decide, rfl, gin 313 (by decide +kernel) rfl⟩
set_option maxRecDepth 100000 in
theorem fl_X9_15 : fOK RX9 15 9 RX9 TX9 2 1 := ⟨cok_X9, by decide, rfl, gin 267 (by decide +kernel) rfl⟩
set_option maxRecDepth 100000 in
theorem fl_X9_152 : fOK RX9 152 0 RX0 TX0 13 3 := ⟨cok_X0, by decide, rfl, gin 296 (by decide +kernel) rfl⟩
set_option maxRecDepth 100000 in
theorem fl_X9_32 : fOK RX9 32 0 RX0 TX0 13 1 := ⟨cok_X0, by decide, rfl, gin 285 (by decide +kernel) rfl⟩
set_option maxRecDepth 100000 in
theorem fl_X9_54 : fOK RX9 54 0 RX0 TX0 13 0 := ⟨cok_X0, by decide, rfl, gin 282 (by decide +kernel) rfl⟩
set_option maxRecDepth 100000 in
theorem fl_X9_60 : fOK RX9 60 0 RX0 TX0 13 5 := ⟨cok_X0, by decide, rfl, gin 303 (by decide +kernel) rfl⟩
set_option maxRecDepth 100000 in
theorem fl_X9_64 : fOK RX9 64 0 RX0 TX0 13 4 := ⟨cok_X0, by decide, rfl, gin 299 (by decide +kernel) rfl⟩
set_option maxRecDepth 100000 in
theorem fl_X9_67 : fOK RX9 67 0 RX0 TX0 13 2 := ⟨cok_X0, by decide, rfl, gin 291 (by decide +kernel) rfl⟩
set_option maxRecDepth 100000 in
theorem fl_X9_70 : fOK RX9 70 0 RX0 TX0 13 6 := ⟨cok_X0, by decide, rfl, gin 307 (by decide +kernel) rfl⟩
set_option maxRecDepth 100000 in
theorem fl_X9_9 : fOK RX9 9 9 RX9 TX9 2 0 := ⟨cok_X9, by decide, rfl, gin 264 (by decide +kernel) rfl⟩
