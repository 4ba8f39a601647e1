set_option maxRecDepth 100000 in
theorem cok_in_X0 : ∀ w ∈ u_ws RX0 TX0 13, w ∈ gtbl := by
  have e : u_ws RX0 TX0 13 = [326, 328, 330, 332, 334, 336, 338, 340, 342, 344, 346, 348, 350].filterMap (fun i => lw_tbl[i]?) := by decide +kernel
  intro w hw
  refine List.mem_filter.mpr ⟨?_, ?_⟩
  · rw [e] at hw; obtain ⟨i, -, hi⟩ := List.mem_filterMap.mp hw; exact List.mem_of_getElem? hi
  · exact List.all_eq_true.mp (show (u_ws RX0 TX0 13).all goodWord = true by decide +kernel) w hw
set_option maxRecDepth 100000 in
theorem cok_in_X1 : ∀ w ∈ u_ws RX1 TX1 2, w ∈ gtbl := by
  have e : u_ws RX1 TX1 2 = [162, 164].filterMap (fun i => lw_tbl[i]?) := by decide +kernel
  intro w hw
  refine List.mem_filter.mpr ⟨?_, ?_⟩
  · rw [e] at hw; obtain ⟨i, -, hi⟩ := List.mem_filterMap.mp hw; exact List.mem_of_getElem? hi
  · exact List.all_eq_true.mp (show (u_ws RX1 TX1 2).all goodWord = true by decide +kernel) w hw
set_option maxRecDepth 100000 in
theorem cok_in_X2 : ∀ w ∈ u_ws RX2 TX2 2, w ∈ gtbl := by
  have e : u_ws RX2 TX2 2 = [171, 173].filterMap (fun i => lw_tbl[i]?) := by decide +kernel
  intro w hw
  refine List.mem_filter.mpr ⟨?_, ?_⟩
  · rw [e] at hw; obtain ⟨i, -, hi⟩ := List.mem_filterMap.mp hw; exact List.mem_of_getElem? hi
  · exact List.all_eq_true.mp (show (u_ws RX2 TX2 2).all goodWord = true by decide +kernel) w hw
set_option maxRecDepth 100000 in
theorem cok_in_X3 : ∀ w ∈ u_ws RX3 TX3 3, w ∈ gtbl := by
  have e : u_ws RX3 TX3 3 = [187, 189, 191].filterMap (fun i => lw_tbl[i]?) := by decide +kernel
  intro w hw
  refine List.mem_filter.mpr ⟨?_, ?_⟩
  · rw [e] at hw; obtain ⟨i, -, hi⟩ := List.mem_filterMap.mp hw; exact List.mem_of_getElem? hi
  · exact List.all_eq_true.mp (show (u_ws RX3 TX3 3).all goodWord = true by decide +kernel) w hw
set_option maxRecDepth 100000 in
theorem cok_in_X4 : ∀ w ∈ u_ws RX4 TX4 8, w ∈ gtbl := by
  have e : u_ws RX4 TX4 8 = [240, 242, 244, 246, 248, 250, 252, 254].filterMap (fun i => lw_tbl[i]?) := by decide +kernel
  intro w hw
  refine List.mem_filter.mpr ⟨?_, ?_⟩
  · rw [e] at hw; obtain ⟨i, -, hi⟩ := List.mem_filterMap.mp hw; exact List.mem_of_getElem? hi
  · exact List.all_eq_true.mp (show (u_ws RX4 TX4 8).all goodWord = true by decide +kernel) w hw
set_option maxRecDepth 100000 in
theorem cok_in_X5 : ∀ w ∈ u_ws RX5 TX5 7, w ∈ gtbl := by
  have e : u_ws RX5 TX5 7 = [370, 372, 374, 376, 378, 380, 382].filterMap (fun i => lw_tbl[i]?) := by decide +kernel
  intro w hw
  refine List.mem_filter.mpr ⟨?_, ?_⟩
  · rw [e] at hw; obtain ⟨i, -, hi⟩ := List.mem_filterMap.mp hw; exact List.mem_of_getElem? hi
  · exact List.all_eq_true.mp (show (u_ws RX5 TX5 7).all goodWord = true by decide +kernel) w hw
set_option maxRecDepth 100000 in
theorem cok_in_X6 : ∀ w ∈ u_ws RX6 TX6 9, w ∈ gtbl := by
  have e : u_ws RX6 TX6 9 = [402, 404, 406, 408, 410, 412, 414, 416, 418].filterMap (fun i => lw_tbl[i]?) := by decide +kernel
  intro w hw
  refine List.mem_filter.mpr ⟨?_, ?_⟩
  · rw [e] at hw; obtain ⟨i, -, hi⟩ := List.mem_filterMap.mp hw; exact List.mem_of_getElem? hi
  · exact List.all_eq_true.mp (show (u_ws RX6 TX6 9).all goodWord = true by decide +kernel) w hw
set_option maxRecDepth 100000 in
theorem cok_in_X7 : ∀ w ∈ u_ws RX7 TX7 3, w ∈ gtbl := by
  have e : u_ws RX7 TX7 3 = [140, 142, 144].filterMap (fun i => lw_tbl[i]?) := by decide +kernel
  intro w hw
  refine List.mem_filter.mpr ⟨?_, ?_⟩
  · rw [e] at hw; obtain ⟨i, -, hi⟩ := List.mem_filterMap.mp hw; exact List.mem_of_getElem? hi
  · exact List.all_eq_true.mp (show (u_ws RX7 TX7 3).all goodWord = true by decide +kernel) w hw
set_option maxRecDepth 100000 in
theorem cok_in_X8 : ∀ w ∈ u_ws RX8 TX8 5, w ∈ gtbl := by
  have e : u_ws RX8 TX8 5 = [433, 435, 437, 439, 441].filterMap (fun i => lw_tbl[i]?) := by decide +kernel
  intro w hw
  refine List.mem_filter.mpr ⟨?_, ?_⟩
  · rw [e] at hw; obtain ⟨i, -, hi⟩ := List.mem_filterMap.mp hw; exact List.mem_of_getElem? hi
  · exact List.all_eq_true.mp (show (u_ws RX8 TX8 5).all goodWord = true by decide +kernel) w hw
set_option maxRecDepth 100000 in
theorem cok_in_X9 : ∀ w ∈ u_ws RX9 TX9 2, w ∈ gtbl := by
  have e : u_ws RX9 TX9 2 = [269, 271].filterMap (fun i => lw_tbl[i]?) := by decide +kernel
  intro w hw
  refine List.mem_filter.mpr ⟨?_, ?_⟩
  · rw [e] at hw; obtain ⟨i, -, hi⟩ := List.mem_filterMap.mp hw; exact List.mem_of_getElem? hi
  · exact List.all_eq_true.mp (show (u_ws RX9 TX9 2).all goodWord = true by decide +kernel) w hw
set_option maxRecDepth 100000 in
theorem cok_in_X10 : ∀ w ∈ u_ws RX10 TX10 6, w ∈ gtbl := by
  have e : u_ws RX10 TX10 6 = [207, 209, 211, 213, 215, 217].filterMap (fun i => lw_tbl[i]?) := by decide +kernel
  intro w hw
  refine List.mem_filter.mpr ⟨?_, ?_⟩
  · rw [e] at hw; obtain ⟨i, -, hi⟩ := List.mem_filterMap.mp hw; exact List.mem_of_getElem? hi
  · exact List.all_eq_true.mp (show (u_ws RX10 TX10 6).all goodWord = true by decide +kernel) w hw
set_option maxRecDepth 100000 in
theorem cok_in_X11 : ∀ w ∈ u_ws RX11 TX11 14, w ∈ gtbl := by
  have e : u_ws RX11 TX11 14 = [458, 460, 462, 464, 466, 468, 470, 472, 474, 476, 478, 480, 482, 484].filterMap (fun i => lw_tbl[i]?) := by decide +kernel
  intro w hw
  refine List.mem_filter.mpr ⟨?_, ?_⟩
  · rw [e] at hw; obtain ⟨i, -, hi⟩ := List.mem_filterMap.mp hw; exact List.mem_of_getElem? hi
  · exact List.all_eq_true.mp (show (u_ws RX11 TX11 14).all goodWord = true by decide +kernel) w hw
set_option maxRecDepth 100000 in
theorem cok_in_X12 : ∀ w ∈ u_ws RX12 TX12 51, w ∈ gtbl := by
  have e : u_ws RX12 TX12 51 = [1538, 1540, 1542, 1544, 1546, 1548, 1550, 1552, 1554, 1556, 1558, 1560, 1562, 1564, 1566, 1568, 1570, 1572, 1574, 1576, 1578, 1580, 1582, 1584, 1586, 1588, 1590, 1592, 1594, 1596, 1598, 1600, 1602, 1604, 1606, 1608, 1610, 1612, 1614, 1616, 1618, 1620, 1622, 1624, 1626, 1628, 1630, 1632, 1634, 1636, 1638].filterMap (fun i => lw_tbl[i]?) := by decide +kernel
  intro w hw
  refine List.mem_filter.mpr ⟨?_, ?_⟩
  · rw [e] at hw; obtain ⟨i, -, hi⟩ := List.mem_filterMap.mp hw; exact List.mem_of_getElem? hi
  · exact List.all_eq_true.mp (show (u_ws RX12 TX12 51).all goodWord = true by decide +kernel) w hw
set_option maxRecDepth 100000 in
theorem cok_X0 : cOK 0 RX0 TX0 13 := ⟨rfl, cok_in_X0, ⟨tyX0, tyX0_ok⟩, nmX0⟩
set_option maxRecDepth 100000 in
theorem cok_X1 : cOK 1 RX1 TX1 2 := ⟨rfl, cok_in_X1, ⟨tyX1, tyX1_ok⟩, nmX1⟩
set_option maxRecDepth 100000 in
theorem cok_X2 : cOK 2 RX2 TX2 2 := ⟨rfl, cok_in_X2, ⟨tyX2, tyX2_ok⟩, nmX2⟩
set_option maxRecDepth 100000 in
theorem cok_X3 : cOK 3 RX3 TX3 3 := ⟨rfl, cok_in_X3, ⟨tyX3, tyX3_ok⟩, nmX3⟩
set_option maxRecDepth 100000 in
theorem cok_X4 : cOK 4 RX4 TX4 8 := ⟨rfl, cok_in_X4, ⟨tyX4, tyX4_ok⟩, nmX4⟩
set_option maxRecDepth 100000 in
theorem cok_X5 : cOK 5 RX5 TX5 7 := ⟨rfl, cok_in_X5, ⟨tyX5, tyX5_ok⟩, nmX5⟩
set_option maxRecDepth 100000 in
theorem cok_X6 : cOK 6 RX6 TX6 9 := ⟨rfl, cok_in_X6, ⟨tyX6, tyX6_ok⟩, nmX6⟩
set_option maxRecDepth 100000 in
theorem cok_X7 : cOK 7 RX7 TX7 3 := ⟨rfl, cok_in_X7, ⟨tyX7, tyX7_ok⟩, nmX7⟩
set_option maxRecDepth 100000 in
theorem cok_X8 : cOK 8 RX8 TX8 5 := ⟨rfl, cok_in_X8, ⟨tyX8, tyX8_ok⟩, nmX8⟩
set_option maxRecDepth 100000 in
theorem cok_X9 : cOK 9 RX9 TX9 2 := ⟨rfl, cok_in_X9, ⟨tyX9, tyX9_ok⟩, nmX9⟩
set_option maxRecDepth 100000 in
theorem cok_X10 : cOK 10 RX10 TX10 6 := ⟨rfl, cok_in_X10, ⟨tyX10, tyX10_ok⟩, nmX10⟩
set_option maxRecDepth 100000 in
theorem cok_X11 : cOK 11 RX11 TX11 14 := ⟨rfl, cok_in_X11, ⟨tyX11, tyX11_ok⟩, nmX11⟩
set_option maxRecDepth 100000 in
theorem cok_X12 : cOK 12 RX12 TX12 51 := ⟨rfl, cok_in_X12, ⟨tyX12, tyX12_ok⟩, nmX12⟩
set_option maxRecDepth 100000 in
theorem fx_0_0 : fxv 0 0 = 1 + 1 := by decide +kernel
set_option maxRecDepth 100000 in
theorem fx_0_1 : fxv 0 1 = 3 + 1 := by decide +kernel
set_option maxRecDepth 100000 in
theorem fx_0_10 : fxv 0 10 = 246 + 1 := by decide +kernel
set_option maxRecDepth 100000 in
theorem fx_0_11 : fxv 0 11 = 249 + 1 := by decide +kernel
set_option maxRecDepth 100000 in
theorem fx_0_2 : fxv 0 2 = 7 + 1 := by decide +kernel
set_option maxRecDepth 100000 in
theorem fx_0_3 : fxv 0 3 = 9 + 1 := by decide +kernel
set_option maxRecDepth 100000 in
theorem fx_0_4 : fxv 0 4 = 13 + 1 := by decide +kernel
set_option maxRecDepth 100000 in
theorem fx_0_5 : fxv 0 5 = 16 + 1 := by decide +kernel
set_option maxRecDepth 100000 in
theorem fx_0_6 : fxv 0 6 = 26 + 1 := by decide +kernel
set_option maxRecDepth 100000 in
theorem fx_0_7 : fxv 0 7 = 27 + 1 := by decide +kernel
set_option maxRecDepth 100000 in
theorem fx_0_8 : fxv 0 8 = 32 + 1 := by decide +kernel
set_option maxRecDepth 100000 in
theorem fx_0_9 : fxv 0 9 = 37 + 1 := by decide +kernel
set_option maxRecDepth 100000 in
theorem fx_16_0 : fxv 16 0 = 17 + 1 := by decide +kernel
set_option maxRecDepth 100000 in
theorem fx_16_1 : fxv 16 1 = 22 + 1 := by decide +kernel
set_option maxRecDepth 100000 in
theorem fx_16_2 : fxv 16 2 = 23 + 1 := by decide +kernel
set_option maxRecDepth 100000 in
theorem fx_16_3 : fxv 16 3 = 24 + 1 := by decide +kernel
set_option maxRecDepth 100000 in
theorem fx_16_4 : fxv 16 4 = 25 + 1 := by decide +kernel
set_option maxRecDepth 100000 in
theorem fx_1_0 : fxv 1 0 = 2 + 1 := by decide +kernel
set_option maxRecDepth 100000 in
theorem fx_246_0 : fxv 246 0 = 26 + 1 := by decide +kernel
set_option maxRecDepth 100000 in
theorem fx_246_1 : fxv 246 1 = 13 + 1 := by decide +kernel
set_option maxRecDepth 100000 in
theorem fx_246_2 : fxv 246 2 = 16 + 1 := by decide +kernel
set_option maxRecDepth 100000 in
theorem fx_246_3 : fxv 246 3 = 27 + 1 := by decide +kernel
set_option maxRecDepth 100000 in
theorem fx_246_4 : fxv 246 4 = 247 + 1 := by decide +kernel
set_option maxRecDepth 100000 in
theorem fx_246_5 : fxv 246 5 = 248 + 1 := by decide +kernel
set_option maxRecDepth 100000 in
theorem fx_249_0 : fxv 249 0 = 26 + 1 := by decide +kernel
set_option maxRecDepth 100000 in
theorem fx_249_1 : fxv 249 1 = 13 + 1 := by decide +kernel
set_option maxRecDepth 100000 in
theorem fx_249_2 : fxv 249 2 = 27 + 1 := by decide +kernel
set_option maxRecDepth 100000 in
theorem fx_249_3 : fxv 249 3 = 250 + 1 := by decide +kernel
set_option maxRecDepth 100000 in
theorem fx_251_1 : fxv 251 1 = 252 + 1 := by decide +kernel
set_option maxRecDepth 100000 in
theorem fx_251_18 : fxv 251 18 = 256 + 1 := by decide +kernel
set_option maxRecDepth 100000 in
theorem fx_251_19 : fxv 251 19 = 257 + 1 := by decide +kernel
set_option maxRecDepth 100000 in
theorem fx_251_2 : fxv 251 2 = 253 + 1 := by decide +kernel
set_option maxRecDepth 100000 in
theorem fx_251_20 : fxv 251 20 = 258 + 1 := by decide +kernel
set_option maxRecDepth 100000 in
theorem fx_251_21 : fxv 251 21 = 259 + 1 := by decide +kernel
set_option maxRecDepth 100000 in
theorem fx_251_22 : fxv 251 22 = 260 + 1 := by decide +kernel
set_option maxRecDepth 100000 in
theorem fx_251_23 : fxv 251 23 = 261 + 1 := by decide +kernel
set_option maxRecDepth 100000 in
theorem fx_251_24 : fxv 251 24 = 262 + 1 := by decide +kernel
set_option maxRecDepth 100000 in
theorem fx_251_25 : fxv 251 25 = 263 + 1 := by decide +kernel
set_option maxRecDepth 100000 in
theorem fx_251_3 : fxv 251 3 = 254 + 1 := by decide +kernel
set_option maxRecDepth 100000 in
theorem fx_251_32 : fxv 251 32 = 264 + 1 := by decide +kernel
set_option maxRecDepth 100000 in
theorem fx_251_33 : fxv 251 33 = 265 + 1 := by decide +kernel
set_option maxRecDepth 100000 in
theorem fx_251_36 : fxv 251 36 = 266 + 1 := by decide +kernel
set_option maxRecDepth 100000 in
theorem fx_251_37 : fxv 251 37 = 267 + 1 := by decide +kernel
set_option maxRecDepth 100000 in
theorem fx_251_38 : fxv 251 38 = 268 + 1 := by decide +kernel
set_option maxRecDepth 100000 in
theorem fx_251_4 : fxv 251 4 = 255 + 1 := by decide +kernel
set_option maxRecDepth 100000 in
theorem fx_251_43 : fxv 251 43 = 269 + 1 := by decide +kernel
set_option maxRecDepth 100000 in
theorem fx_251_46 : fxv 251 46 = 270 + 1 := by decide +kernel
set_option maxRecDepth 100000 in
theorem fx_251_48 : fxv 251 48 = 271 + 1 := by decide +kernel
set_option maxRecDepth 100000 in
theorem fx_251_49 : fxv 251 49 = 272 + 1 := by decide +kernel
set_option maxRecDepth 100000 in
theorem fx_26_0 : fxv 26 0 = 13 + 1 := by decide +kernel
set_option maxRecDepth 100000 in
theorem fx_26_1 : fxv 26 1 = 16 + 1 := by decide +kernel
set_option maxRecDepth 100000 in
theorem fx_27_0 : fxv 27 0 = 28 + 1 := by decide +kernel
set_option maxRecDepth 100000 in
theorem fx_27_1 : fxv 27 1 = 29 + 1 := by decide +kernel
set_option maxRecDepth 100000 in
theorem fx_27_2 : fxv 27 2 = 30 + 1 := by decide +kernel
set_option maxRecDepth 100000 in
theorem fx_27_3 : fxv 27 3 = 31 + 1 := by decide +kernel
set_option maxRecDepth 100000 in
theorem fx_37_0 : fxv 37 0 = 38 + 1 := by decide +kernel
set_option maxRecDepth 100000 in
theorem fx_37_1 : fxv 37 1 = 39 + 1 := by decide +kernel
set_option maxRecDepth 100000 in
theorem fx_37_2 : fxv 37 2 = 40 + 1 := by decide +kernel
set_option maxRecDepth 100000 in
theorem fx_37_3 : fxv 37 3 = 45 + 1 := by decide +kernel
set_option maxRecDepth 100000 in
theorem fx_3_0 : fxv 3 0 = 1 + 1 := by decide +kernel
set_option maxRecDepth 100000 in
theorem fx_3_1 : fxv 3 1 = 4 + 1 := by decide +kernel
set_option maxRecDepth 100000 in
theorem fx_7_0 : fxv 7 0 = 1 + 1 := by decide +kernel
set_option maxRecDepth 100000 in
theorem fx_7_1 : fxv 7 1 = 8 + 1 := by decide +kernel
set_option maxRecDepth 100000 in
theorem fx_9_0 : fxv 9 0 = 1 + 1 := by decide +kernel
set_option maxRecDepth 100000 in
theorem fx_9_1 : fxv 9 1 = 10 + 1 := by decide +kernel
set_option maxRecDepth 100000 in
theorem fx_9_2 : fxv 9 2 = 11 + 1 := by decide +kernel
set_option maxRecDepth 100000 in
theorem fx_9_3 : fxv 9 3 = 12 + 1 := by decide +kernel
set_option maxRecDepth 100000 in
theorem sh_0 : SHF[0]? = some (.inl 11) := by decide +kernel
set_option maxRecDepth 100000 in
theorem sh_1 : SHF[1]? = some (.inl 7) := by decide +kernel
set_option maxRecDepth 100000 in
theorem sh_13 : SHF[13]? = some (.inl 1) := by decide +kernel
set_option maxRecDepth 100000 in
theorem sh_16 : SHF[16]? = some (.inl 4) := by decide +kernel
set_option maxRecDepth 100000 in
theorem sh_17 : SHF[17]? = some (.inr (5, 4)) := by decide +kernel
set_option maxRecDepth 100000 in
theorem sh_2 : SHF[2]? = some (.inr (1, 240)) := by decide +kernel
set_option maxRecDepth 100000 in
theorem sh_24 : SHF[24]? = some (.inr (0, 64)) := by decide +kernel
set_option maxRecDepth 100000 in
theorem sh_246 : SHF[246]? = some (.inl 6) := by decide +kernel
set_option maxRecDepth 100000 in
theorem sh_249 : SHF[249]? = some (.inl 8) := by decide +kernel
set_option maxRecDepth 100000 in
theorem sh_25 : SHF[25]? = some (.inr (3, 2048)) := by decide +kernel
set_option maxRecDepth 100000 in
theorem sh_251 : SHF[251]? = some (.inl 12) := by decide +kernel
set_option maxRecDepth 100000 in
theorem sh_26 : SHF[26]? = some (.inl 9) := by decide +kernel
set_option maxRecDepth 100000 in
theorem sh_27 : SHF[27]? = some (.inl 0) := by decide +kernel
set_option maxRecDepth 100000 in
theorem sh_3 : SHF[3]? = some (.inl 2) := by decide +kernel
set_option maxRecDepth 100000 in
theorem sh_32 : SHF[32]? = some (.inl 0) := by decide +kernel
set_option maxRecDepth 100000 in
theorem sh_37 : SHF[37]? = some (.inl 5) := by decide +kernel
set_option maxRecDepth 100000 in
theorem sh_38 : SHF[38]? = some (.inr (4, 40)) := by decide +kernel
set_option maxRecDepth 100000 in
theorem sh_4 : SHF[4]? = some (.inl 1) := by decide +kernel
set_option maxRecDepth 100000 in
theorem sh_40 : SHF[40]? = some (.inl 0) := by decide +kernel
set_option maxRecDepth 100000 in
theorem sh_7 : SHF[7]? = some (.inl 3) := by decide +kernel
set_option maxRecDepth 100000 in
theorem sh_9 : SHF[9]? = some (.inl 10) := by decide +kernel
set_option maxRecDepth 100000 in
theorem km_0 : decide (0 < KM) = true := by decide +kernel
set_option maxRecDepth 100000 in
theorem km_1 : decide (1 < KM) = true := by decide +kernel
set_option maxRecDepth 100000 in
theorem km_13 : decide (13 < KM) = true := by decide +kernel
set_option maxRecDepth 100000 in
theorem km_16 : decide (16 < KM) = true := by decide +kernel
set_option maxRecDepth 100000 in
theorem km_246 : decide (246 < KM) = true := by decide +kernel
set_option maxRecDepth 100000 in
theorem km_249 : decide (249 < KM) = true := by decide +kernel
set_option maxRecDepth 100000 in
theorem km_251 : decide (251 < KM) = false := by decide +kernel
set_option maxRecDepth 100000 in
theorem km_26 : decide (26 < KM) = true := by decide +kernel
set_option maxRecDepth 100000 in
theorem km_27 : decide (27 < KM) = true := by decide +kernel
set_option maxRecDepth 100000 in
theorem km_3 : decide (3 < KM) = true := by decide +kernel
set_option maxRecDepth 100000 in
theorem km_32 : decide (32 < KM) = true := by decide +kernel
set_option maxRecDepth 100000 in
theorem km_37 : decide (37 < KM) = true := by decide +kernel
set_option maxRecDepth 100000 in
theorem km_4 : decide (4 < KM) = true := by decide +kernel
set_option maxRecDepth 100000 in
theorem km_40 : decide (40 < KM) = true := by decide +kernel
set_option maxRecDepth 100000 in
theorem km_7 : decide (7 < KM) = true := by decide +kernel
set_option maxRecDepth 100000 in
theorem km_9 : decide (9 < KM) = true := by decide +kernel
set_option maxRecDepth 100000 in
theorem io_10 : isO true 0 10 := ⟨by decide +kernel, by decide +kernel⟩
set_option maxRecDepth 100000 in
theorem io_11 : isO true 0 11 := ⟨by decide +kernel, by decide +kernel⟩
set_option maxRecDepth 100000 in
theorem io_12 : isO true 0 12 := ⟨by decide +kernel, by decide +kernel⟩
set_option maxRecDepth 100000 in
theorem io_2 : isO true 1 2 := ⟨by decide +kernel, by decide +kernel⟩
set_option maxRecDepth 100000 in
theorem io_22 : isO true 0 22 := ⟨by decide +kernel, by decide +kernel⟩
set_option maxRecDepth 100000 in
theorem io_23 : isO true 0 23 := ⟨by decide +kernel, by decide +kernel⟩
set_option maxRecDepth 100000 in
theorem io_24 : isO true 0 24 := ⟨by decide +kernel, by decide +kernel⟩
set_option maxRecDepth 100000 in
theorem io_247 : isO true 0 247 := ⟨by decide +kernel, by decide +kernel⟩
set_option maxRecDepth 100000 in
theorem io_248 : isO true 0 248 := ⟨by decide +kernel, by decide +kernel⟩
set_option maxRecDepth 100000 in
theorem io_25 : isO true 3 25 := ⟨by decide +kernel, by decide +kernel⟩
set_option maxRecDepth 100000 in
theorem io_250 : isO true 0 250 := ⟨by decide +kernel, by decide +kernel⟩
set_option maxRecDepth 100000 in
theorem io_252 : isO false 2 252 := ⟨by decide +kernel, by decide +kernel⟩
set_option maxRecDepth 100000 in
theorem io_253 : isO false 2 253 := ⟨by decide +kernel, by decide +kernel⟩
set_option maxRecDepth 100000 in
theorem io_254 : isO false 0 254 := ⟨by decide +kernel, by decide +kernel⟩
set_option maxRecDepth 100000 in
theorem io_255 : isO false 0 255 := ⟨by decide +kernel, by decide +kernel⟩
set_option maxRecDepth 100000 in
theorem io_256 : isO false 0 256 := ⟨by decide +kernel, by decide +kernel⟩
set_option maxRecDepth 100000 in
theorem io_257 : isO false 0 257 := ⟨by decide +kernel, by decide +kernel⟩
set_option maxRecDepth 100000 in
theorem io_258 : isO false 0 258 := ⟨by decide +kernel, by decide +kernel⟩
set_option maxRecDepth 100000 in
theorem io_259 : isO false 0 259 := ⟨by decide +kernel, by decide +kernel⟩
set_option maxRecDepth 100000 in
theorem io_260 : isO false 0 260 := ⟨by decide +kernel, by decide +kernel⟩
set_option maxRecDepth 100000 in
theorem io_261 : isO false 0 261 := ⟨by decide +kernel, by decide +kernel⟩
set_option maxRecDepth 100000 in
theorem io_262 : isO false 0 262 := ⟨by decide +kernel, by decide +kernel⟩
set_option maxRecDepth 100000 in
theorem io_263 : isO false 0 263 := ⟨by decide +kernel, by decide +kernel⟩
set_option maxRecDepth 100000 in
theorem io_264 : isO false 0 264 := ⟨by decide +kernel, by decide +kernel⟩
set_option maxRecDepth 100000 in
theorem io_265 : isO false 0 265 := ⟨by decide +kernel, by decide +kernel⟩
set_option maxRecDepth 100000 in
theorem io_266 : isO false 3 266 := ⟨by decide +kernel, by decide +kernel⟩
set_option maxRecDepth 100000 in
theorem io_267 : isO false 0 267 := ⟨by decide +kernel, by decide +kernel⟩
set_option maxRecDepth 100000 in
theorem io_268 : isO false 0 268 := ⟨by decide +kernel, by decide +kernel⟩
set_option maxRecDepth 100000 in
theorem io_269 : isO false 0 269 := ⟨by decide +kernel, by decide +kernel⟩
set_option maxRecDepth 100000 in
theorem io_270 : isO false 0 270 := ⟨by decide +kernel, by decide +kernel⟩
set_option maxRecDepth 100000 in
theorem io_271 : isO false 0 271 := ⟨by decide +kernel, by decide +kernel⟩
set_option maxRecDepth 100000 in
theorem io_272 : isO false 0 272 := ⟨by decide +kernel, by decide +kernel⟩
set_option maxRecDepth 100000 in
theorem io_28 : isO true 0 28 := ⟨by decide +kernel, by decide +kernel⟩
set_option maxRecDepth 100000 in
theorem io_29 : isO true 0 29 := ⟨by decide +kernel, by decide +kernel⟩
set_option maxRecDepth 100000 in
theorem io_30 : isO true 0 30 := ⟨by decide +kernel, by decide +kernel⟩
set_option maxRecDepth 100000 in
theorem io_31 : isO true 0 31 := ⟨by decide +kernel, by decide +kernel⟩
set_option maxRecDepth 100000 in
theorem io_39 : isO true 0 39 := ⟨by decide +kernel, by decide +kernel⟩
set_option maxRecDepth 100000 in
theorem io_45 : isO true 0 45 := ⟨by decide +kernel, by decide +kernel⟩
set_option maxRecDepth 100000 in
theorem io_8 : isO true 0 8 := ⟨by decide +kernel, by decide +kernel⟩
set_option maxRecDepth 100000 in
theorem isb_27 : isBed 27 := by unfold isBed; decide +kernel
set_option maxRecDepth 100000 in
theorem isb_32 : isBed 32 := by unfold isBed; decide +kernel
set_option maxRecDepth 100000 in
theorem isb_40 : isBed 40 := by unfold isBed; decide +kernel
set_option maxRecDepth 100000 in
theorem fl_X0_15 : fOK RX0 15 0 RX0 TX0 13 1 := ⟨cok_X0, by decide, rfl, gin 284 (by decide +kernel) rfl⟩
set_option maxRecDepth 100000 in
theorem fl_X0_18 : fOK RX0 18 0 RX0 TX0 13 2 := ⟨cok_X0, by decide, rfl, gin 288 (by decide +kernel) rfl⟩
set_option maxRecDepth 100000 in
theorem fl_X0_21 : fOK RX0 21 0 RX0 TX0 13 3 := ⟨cok_X0, by decide, rfl, gin 293 (by decide +kernel) rfl⟩
set_option maxRecDepth 100000 in
theorem fl_X0_44 : fOK RX0 44 0 RX0 TX0 13 4 := ⟨cok_X0, by decide, rfl, gin 298 (by decide +kernel) rfl⟩
set_option maxRecDepth 100000 in
theorem fl_X0_48 : fOK RX0 48 0 RX0 TX0 13 5 := ⟨cok_X0, by decide, rfl, gin 301 (by decide +kernel) rfl⟩
set_option maxRecDepth 100000 in
theorem fl_X0_51 : fOK RX0 51 0 RX0 TX0 13 6 := ⟨cok_X0, by decide, rfl, gin 305 (by decide +kernel) rfl⟩
set_option maxRecDepth 100000 in
theorem fl_X0_54 : fOK RX0 54 0 RX0 TX0 13 7 := ⟨cok_X0, by decide, rfl, gin 309 (by decide +kernel) rfl⟩
set_option maxRecDepth 100000 in
theorem fl_X0_57 : fOK RX0 57 0 RX0 TX0 13 8 := ⟨cok_X0, by decide, rfl, gin 312 (by decide +kernel) rfl⟩
set_option maxRecDepth 100000 in
theorem fl_X0_60 : fOK RX0 60 0 RX0 TX0 13 10 := ⟨cok_X0, by decide, rfl, gin 318 (by decide +kernel) rfl⟩
set_option maxRecDepth 100000 in
theorem fl_X0_66 : fOK RX0 66 0 RX0 TX0 13 9 := ⟨cok_X0, by decide, rfl, gin 315 (by decide +kernel) rfl⟩
set_option maxRecDepth 100000 in
theorem fl_X0_69 : fOK RX0 69 0 RX0 TX0 13 11 := ⟨cok_X0, by decide, rfl, gin 320 (by decide +kernel) rfl⟩
set_option maxRecDepth 100000 in
theorem fl_X0_73 : fOK RX0 73 0 RX0 TX0 13 12 := ⟨cok_X0, by decide, rfl, gin 323 (by decide +kernel) rfl⟩
set_option maxRecDepth 100000 in
theorem fl_X0_9 : fOK RX0 9 0 RX0 TX0 13 0 := ⟨cok_X0, by decide, rfl, gin 280 (by decide +kernel) rfl⟩
set_option maxRecDepth 100000 in
theorem fl_X10_11 : fOK RX10 11 10 RX10 TX10 6 1 := ⟨cok_X10, by decide, rfl, gin 201 (by decide +kernel) rfl⟩
set_option maxRecDepth 100000 in
theorem fl_X10_15 : fOK RX10 15 10 RX10 TX10 6 2 := ⟨cok_X10, by decide, rfl, gin 202 (by decide +kernel) rfl⟩
set_option maxRecDepth 100000 in
theorem fl_X10_18 : fOK RX10 18 10 RX10 TX10 6 3 := ⟨cok_X10, by decide, rfl, gin 203 (by decide +kernel) rfl⟩
set_option maxRecDepth 100000 in
theorem fl_X10_21 : fOK RX10 21 10 RX10 TX10 6 0 := ⟨cok_X10, by decide, rfl, gin 200 (by decide +kernel) rfl⟩
set_option maxRecDepth 100000 in
theorem fl_X10_25 : fOK RX10 25 7 RX7 TX7 3 2 := ⟨cok_X7, by decide, rfl, gin 137 (by decide +kernel) rfl⟩
set_option maxRecDepth 100000 in
theorem fl_X10_39 : fOK RX10 39 10 RX10 TX10 6 4 := ⟨cok_X10, by decide, rfl, gin 204 (by decide +kernel) rfl⟩
set_option maxRecDepth 100000 in
theorem fl_X10_67 : fOK RX10 67 10 RX10 TX10 6 5 := ⟨cok_X10, by decide, rfl, gin 205 (by decide +kernel) rfl⟩
set_option maxRecDepth 100000 in
theorem fl_X11_10 : fOK RX11 10 11 RX11 TX11 14 0 := ⟨cok_X11, by decide, rfl, gin 444 (by decide +kernel) rfl⟩
set_option maxRecDepth 100000 in
theorem fl_X11_110 : fOK RX11 110 7 RX7 TX7 3 2 := ⟨cok_X7, by decide, rfl, gin 138 (by decide +kernel) rfl⟩
set_option maxRecDepth 100000 in
theorem fl_X11_128 : fOK RX11 128 0 RX0 TX0 13 4 := ⟨cok_X0, by decide, rfl, gin 300 (by decide +kernel) rfl⟩
set_option maxRecDepth 100000 in
theorem fl_X11_169 : fOK RX11 169 0 RX0 TX0 13 2 := ⟨cok_X0, by decide, rfl, gin 292 (by decide +kernel) rfl⟩
set_option maxRecDepth 100000 in
theorem fl_X11_186 : fOK RX11 186 0 RX0 TX0 13 0 := ⟨cok_X0, by decide, rfl, gin 283 (by decide +kernel) rfl⟩
set_option maxRecDepth 100000 in
theorem fl_X11_192 : fOK RX11 192 11 RX11 TX11 14 12 := ⟨cok_X11, by decide, rfl, gin 456 (by decide +kernel) rfl⟩
set_option maxRecDepth 100000 in
theorem fl_X11_21 : fOK RX11 21 11 RX11 TX11 14 1 := ⟨cok_X11, by decide, rfl, gin 445 (by decide +kernel) rfl⟩
set_option maxRecDepth 100000 in
theorem fl_X11_221 : fOK RX11 221 0 RX0 TX0 13 5 := ⟨cok_X0, by decide, rfl, gin 304 (by decide +kernel) rfl⟩
set_option maxRecDepth 100000 in
theorem fl_X11_234 : fOK RX11 234 0 RX0 TX0 13 6 := ⟨cok_X0, by decide, rfl, gin 308 (by decide +kernel) rfl⟩
set_option maxRecDepth 100000 in
theorem fl_X11_237 : fOK RX11 237 11 RX11 TX11 14 13 := ⟨cok_X11, by decide, rfl, gin 457 (by decide +kernel) rfl⟩
set_option maxRecDepth 100000 in
theorem fl_X11_250 : fOK RX11 250 5 RX5 TX5 7 5 := ⟨cok_X5, by decide, rfl, gin 368 (by decide +kernel) rfl⟩
set_option maxRecDepth 100000 in
theorem fl_X11_28 : fOK RX11 28 11 RX11 TX11 14 2 := ⟨cok_X11, by decide, rfl, gin 446 (by decide +kernel) rfl⟩
set_option maxRecDepth 100000 in
theorem fl_X11_303 : fOK RX11 303 6 RX6 TX6 9 7 := ⟨cok_X6, by decide, rfl, gin 400 (by decide +kernel) rfl⟩
set_option maxRecDepth 100000 in
theorem fl_X11_306 : fOK RX11 306 6 RX6 TX6 9 6 := ⟨cok_X6, by decide, rfl, gin 398 (by decide +kernel) rfl⟩
set_option maxRecDepth 100000 in
theorem fl_X11_320 : fOK RX11 320 8 RX8 TX8 5 4 := ⟨cok_X8, by decide, rfl, gin 432 (by decide +kernel) rfl⟩
set_option maxRecDepth 100000 in
theorem fl_X11_35 : fOK RX11 35 11 RX11 TX11 14 3 := ⟨cok_X11, by decide, rfl, gin 447 (by decide +kernel) rfl⟩
set_option maxRecDepth 100000 in
theorem fl_X11_382 : fOK RX11 382 4 RX4 TX4 8 5 := ⟨cok_X4, by decide, rfl, gin 236 (by decide +kernel) rfl⟩
set_option maxRecDepth 100000 in
theorem fl_X11_383 : fOK RX11 383 10 RX10 TX10 6 5 := ⟨cok_X10, by decide, rfl, gin 206 (by decide +kernel) rfl⟩
set_option maxRecDepth 100000 in
theorem fl_X11_384 : fOK RX11 384 4 RX4 TX4 8 6 := ⟨cok_X4, by decide, rfl, gin 238 (by decide +kernel) rfl⟩
set_option maxRecDepth 100000 in
theorem fl_X11_390 : fOK RX11 390 0 RX0 TX0 13 7 := ⟨cok_X0, by decide, rfl, gin 311 (by decide +kernel) rfl⟩
set_option maxRecDepth 100000 in
theorem fl_X11_393 : fOK RX11 393 0 RX0 TX0 13 8 := ⟨cok_X0, by decide, rfl, gin 314 (by decide +kernel) rfl⟩
set_option maxRecDepth 100000 in
theorem fl_X11_396 : fOK RX11 396 0 RX0 TX0 13 11 := ⟨cok_X0, by decide, rfl, gin 322 (by decide +kernel) rfl⟩
set_option maxRecDepth 100000 in
theorem fl_X11_400 : fOK RX11 400 0 RX0 TX0 13 12 := ⟨cok_X0, by decide, rfl, gin 325 (by decide +kernel) rfl⟩
set_option maxRecDepth 100000 in
theorem fl_X11_411 : fOK RX11 411 2 RX2 TX2 2 1 := ⟨cok_X2, by decide, rfl, gin 170 (by decide +kernel) rfl⟩
set_option maxRecDepth 100000 in
theorem fl_X11_42 : fOK RX11 42 11 RX11 TX11 14 4 := ⟨cok_X11, by decide, rfl, gin 448 (by decide +kernel) rfl⟩
set_option maxRecDepth 100000 in
theorem fl_X11_49 : fOK RX11 49 11 RX11 TX11 14 5 := ⟨cok_X11, by decide, rfl, gin 449 (by decide +kernel) rfl⟩
set_option maxRecDepth 100000 in
theorem fl_X11_58 : fOK RX11 58 11 RX11 TX11 14 6 := ⟨cok_X11, by decide, rfl, gin 450 (by decide +kernel) rfl⟩
set_option maxRecDepth 100000 in
theorem fl_X11_65 : fOK RX11 65 11 RX11 TX11 14 7 := ⟨cok_X11, by decide, rfl, gin 451 (by decide +kernel) rfl⟩
set_option maxRecDepth 100000 in
theorem fl_X11_69 : fOK RX11 69 11 RX11 TX11 14 8 := ⟨cok_X11, by decide, rfl, gin 452 (by decide +kernel) rfl⟩
set_option maxRecDepth 100000 in
theorem fl_X11_75 : fOK RX11 75 11 RX11 TX11 14 9 := ⟨cok_X11, by decide, rfl, gin 453 (by decide +kernel) rfl⟩
set_option maxRecDepth 100000 in
theorem fl_X11_84 : fOK RX11 84 11 RX11 TX11 14 10 := ⟨cok_X11, by decide, rfl, gin 454 (by decide +kernel) rfl⟩
set_option maxRecDepth 100000 in
theorem fl_X11_91 : fOK RX11 91 11 RX11 TX11 14 11 := ⟨cok_X11, by decide, rfl, gin 455 (by decide +kernel) rfl⟩
set_option maxRecDepth 100000 in
theorem fl_X11_99 : fOK RX11 99 7 RX7 TX7 3 1 := ⟨cok_X7, by decide, rfl, gin 134 (by decide +kernel) rfl⟩
set_option maxRecDepth 100000 in
theorem fl_X12_106 : fOK RX12 106 12 RX12 TX12 51 6 := ⟨cok_X12, by decide, rfl, gin 1493 (by decide +kernel) rfl⟩
set_option maxRecDepth 100000 in
theorem fl_X12_116 : fOK RX12 116 12 RX12 TX12 51 10 := ⟨cok_X12, by decide, rfl, gin 1497 (by decide +kernel) rfl⟩
set_option maxRecDepth 100000 in
theorem fl_X12_119 : fOK RX12 119 12 RX12 TX12 51 9 := ⟨cok_X12, by decide, rfl, gin 1496 (by decide +kernel) rfl⟩
set_option maxRecDepth 100000 in
theorem fl_X12_122 : fOK RX12 122 12 RX12 TX12 51 8 := ⟨cok_X12, by decide, rfl, gin 1495 (by decide +kernel) rfl⟩
set_option maxRecDepth 100000 in
theorem fl_X12_125 : fOK RX12 125 12 RX12 TX12 51 11 := ⟨cok_X12, by decide, rfl, gin 1498 (by decide +kernel) rfl⟩
set_option maxRecDepth 100000 in
theorem fl_X12_128 : fOK RX12 128 12 RX12 TX12 51 12 := ⟨cok_X12, by decide, rfl, gin 1499 (by decide +kernel) rfl⟩
set_option maxRecDepth 100000 in
theorem fl_X12_13 : fOK RX12 13 12 RX12 TX12 51 2 := ⟨cok_X12, by decide, rfl, gin 1489 (by decide +kernel) rfl⟩
set_option maxRecDepth 100000 in
theorem fl_X12_16 : fOK RX12 16 12 RX12 TX12 51 3 := ⟨cok_X12, by decide, rfl, gin 1490 (by decide +kernel) rfl⟩
set_option maxRecDepth 100000 in
theorem fl_X12_194 : fOK RX12 194 12 RX12 TX12 51 17 := ⟨cok_X12, by decide, rfl, gin 1504 (by decide +kernel) rfl⟩
set_option maxRecDepth 100000 in
theorem fl_X12_198 : fOK RX12 198 12 RX12 TX12 51 13 := ⟨cok_X12, by decide, rfl, gin 1500 (by decide +kernel) rfl⟩
set_option maxRecDepth 100000 in
theorem fl_X12_20 : fOK RX12 20 12 RX12 TX12 51 4 := ⟨cok_X12, by decide, rfl, gin 1491 (by decide +kernel) rfl⟩
set_option maxRecDepth 100000 in
theorem fl_X12_201 : fOK RX12 201 12 RX12 TX12 51 14 := ⟨cok_X12, by decide, rfl, gin 1501 (by decide +kernel) rfl⟩
set_option maxRecDepth 100000 in
theorem fl_X12_23 : fOK RX12 23 12 RX12 TX12 51 5 := ⟨cok_X12, by decide, rfl, gin 1492 (by decide +kernel) rfl⟩
set_option maxRecDepth 100000 in
theorem fl_X12_239 : fOK RX12 239 12 RX12 TX12 51 31 := ⟨cok_X12, by decide, rfl, gin 1518 (by decide +kernel) rfl⟩
set_option maxRecDepth 100000 in
theorem fl_X12_242 : fOK RX12 242 12 RX12 TX12 51 28 := ⟨cok_X12, by decide, rfl, gin 1515 (by decide +kernel) rfl⟩
set_option maxRecDepth 100000 in
theorem fl_X12_245 : fOK RX12 245 12 RX12 TX12 51 29 := ⟨cok_X12, by decide, rfl, gin 1516 (by decide +kernel) rfl⟩
set_option maxRecDepth 100000 in
theorem fl_X12_280 : fOK RX12 280 12 RX12 TX12 51 7 := ⟨cok_X12, by decide, rfl, gin 1494 (by decide +kernel) rfl⟩
set_option maxRecDepth 100000 in
theorem fl_X12_283 : fOK RX12 283 12 RX12 TX12 51 30 := ⟨cok_X12, by decide, rfl, gin 1517 (by decide +kernel) rfl⟩
set_option maxRecDepth 100000 in
theorem fl_X12_288 : fOK RX12 288 12 RX12 TX12 51 26 := ⟨cok_X12, by decide, rfl, gin 1513 (by decide +kernel) rfl⟩
set_option maxRecDepth 100000 in
theorem fl_X12_291 : fOK RX12 291 12 RX12 TX12 51 27 := ⟨cok_X12, by decide, rfl, gin 1514 (by decide +kernel) rfl⟩
set_option maxRecDepth 100000 in
theorem fl_X12_294 : fOK RX12 294 12 RX12 TX12 51 47 := ⟨cok_X12, by decide, rfl, gin 1534 (by decide +kernel) rfl⟩
set_option maxRecDepth 100000 in
theorem fl_X12_297 : fOK RX12 297 12 RX12 TX12 51 39 := ⟨cok_X12, by decide, rfl, gin 1526 (by decide +kernel) rfl⟩
set_option maxRecDepth 100000 in
theorem fl_X12_300 : fOK RX12 300 12 RX12 TX12 51 50 := ⟨cok_X12, by decide, rfl, gin 1537 (by decide +kernel) rfl⟩
set_option maxRecDepth 100000 in
theorem fl_X12_352 : fOK RX12 352 12 RX12 TX12 51 35 := ⟨cok_X12, by decide, rfl, gin 1522 (by decide +kernel) rfl⟩
set_option maxRecDepth 100000 in
theorem fl_X12_37 : fOK RX12 37 12 RX12 TX12 51 18 := ⟨cok_X12, by decide, rfl, gin 1505 (by decide +kernel) rfl⟩
set_option maxRecDepth 100000 in
theorem fl_X12_381 : fOK RX12 381 12 RX12 TX12 51 40 := ⟨cok_X12, by decide, rfl, gin 1527 (by decide +kernel) rfl⟩
set_option maxRecDepth 100000 in
theorem fl_X12_40 : fOK RX12 40 12 RX12 TX12 51 19 := ⟨cok_X12, by decide, rfl, gin 1506 (by decide +kernel) rfl⟩
set_option maxRecDepth 100000 in
theorem fl_X12_412 : fOK RX12 412 12 RX12 TX12 51 41 := ⟨cok_X12, by decide, rfl, gin 1528 (by decide +kernel) rfl⟩
set_option maxRecDepth 100000 in
theorem fl_X12_415 : fOK RX12 415 12 RX12 TX12 51 42 := ⟨cok_X12, by decide, rfl, gin 1529 (by decide +kernel) rfl⟩
set_option maxRecDepth 100000 in
theorem fl_X12_422 : fOK RX12 422 12 RX12 TX12 51 45 := ⟨cok_X12, by decide, rfl, gin 1532 (by decide +kernel) rfl⟩
set_option maxRecDepth 100000 in
theorem fl_X12_425 : fOK RX12 425 12 RX12 TX12 51 44 := ⟨cok_X12, by decide, rfl, gin 1531 (by decide +kernel) rfl⟩
set_option maxRecDepth 100000 in
theorem fl_X12_43 : fOK RX12 43 12 RX12 TX12 51 20 := ⟨cok_X12, by decide, rfl, gin 1507 (by decide +kernel) rfl⟩
set_option maxRecDepth 100000 in
theorem fl_X12_46 : fOK RX12 46 12 RX12 TX12 51 21 := ⟨cok_X12, by decide, rfl, gin 1508 (by decide +kernel) rfl⟩
set_option maxRecDepth 100000 in
theorem fl_X12_49 : fOK RX12 49 12 RX12 TX12 51 22 := ⟨cok_X12, by decide, rfl, gin 1509 (by decide +kernel) rfl⟩
set_option maxRecDepth 100000 in
theorem fl_X12_52 : fOK RX12 52 12 RX12 TX12 51 23 := ⟨cok_X12, by decide, rfl, gin 1510 (by decide +kernel) rfl⟩
set_option maxRecDepth 100000 in
theorem fl_X12_55 : fOK RX12 55 12 RX12 TX12 51 24 := ⟨cok_X12, by decide, rfl, gin 1511 (by decide +kernel) rfl⟩
set_option maxRecDepth 100000 in
theorem fl_X12_58 : fOK RX12 58 12 RX12 TX12 51 25 := ⟨cok_X12, by decide, rfl, gin 1512 (by decide +kernel) rfl⟩
set_option maxRecDepth 100000 in
theorem fl_X12_61 : fOK RX12 61 12 RX12 TX12 51 32 := ⟨cok_X12, by decide, rfl, gin 1519 (by decide +kernel) rfl⟩
set_option maxRecDepth 100000 in
theorem fl_X12_64 : fOK RX12 64 12 RX12 TX12 51 33 := ⟨cok_X12, by decide, rfl, gin 1520 (by decide +kernel) rfl⟩
set_option maxRecDepth 100000 in
theorem fl_X12_67 : fOK RX12 67 12 RX12 TX12 51 34 := ⟨cok_X12, by decide, rfl, gin 1521 (by decide +kernel) rfl⟩
set_option maxRecDepth 100000 in
theorem fl_X12_71 : fOK RX12 71 12 RX12 TX12 51 36 := ⟨cok_X12, by decide, rfl, gin 1523 (by decide +kernel) rfl⟩
set_option maxRecDepth 100000 in
theorem fl_X12_75 : fOK RX12 75 12 RX12 TX12 51 37 := ⟨cok_X12, by decide, rfl, gin 1524 (by decide +kernel) rfl⟩
set_option maxRecDepth 100000 in
theorem fl_X12_78 : fOK RX12 78 12 RX12 TX12 51 38 := ⟨cok_X12, by decide, rfl, gin 1525 (by decide +kernel) rfl⟩
set_option maxRecDepth 100000 in
theorem fl_X12_81 : fOK RX12 81 12 RX12 TX12 51 43 := ⟨cok_X12, by decide, rfl, gin 1530 (by decide +kernel) rfl⟩
set_option maxRecDepth 100000 in
theorem fl_X12_84 : fOK RX12 84 12 RX12 TX12 51 46 := ⟨cok_X12, by decide, rfl, gin 1533 (by decide +kernel) rfl⟩
set_option maxRecDepth 100000 in
theorem fl_X12_87 : fOK RX12 87 12 RX12 TX12 51 48 := ⟨cok_X12, by decide, rfl, gin 1535 (by decide +kernel) rfl⟩
set_option maxRecDepth 100000 in
theorem fl_X12_9 : fOK RX12 9 12 RX12 TX12 51 1 := ⟨cok_X12, by decide, rfl, gin 1488 (by decide +kernel) rfl⟩
set_option maxRecDepth 100000 in
theorem fl_X12_90 : fOK RX12 90 12 RX12 TX12 51 49 := ⟨cok_X12, by decide, rfl, gin 1536 (by decide +kernel) rfl⟩
set_option maxRecDepth 100000 in
theorem fl_X12_93 : fOK RX12 93 12 RX12 TX12 51 0 := ⟨cok_X12, by decide, rfl, gin 1487 (by decide +kernel) rfl⟩
set_option maxRecDepth 100000 in
theorem fl_X1_15 : fOK RX1 15 1 RX1 TX1 2 1 := ⟨cok_X1, by decide, rfl, gin 161 (by decide +kernel) rfl⟩
set_option maxRecDepth 100000 in
theorem fl_X1_9 : fOK RX1 9 1 RX1 TX1 2 0 := ⟨cok_X1, by decide, rfl, gin 160 (by decide +kernel) rfl⟩
set_option maxRecDepth 100000 in
theorem fl_X2_12 : fOK RX2 12 2 RX2 TX2 2 1 := ⟨cok_X2, by decide, rfl, gin 169 (by decide +kernel) rfl⟩
set_option maxRecDepth 100000 in
theorem fl_X2_18 : fOK RX2 18 2 RX2 TX2 2 0 := ⟨cok_X2, by decide, rfl, gin 168 (by decide +kernel) rfl⟩
set_option maxRecDepth 100000 in
theorem fl_X2_22 : fOK RX2 22 7 RX7 TX7 3 2 := ⟨cok_X7, by decide, rfl, gin 135 (by decide +kernel) rfl⟩
set_option maxRecDepth 100000 in
theorem fl_X3_11 : fOK RX3 11 3 RX3 TX3 3 1 := ⟨cok_X3, by decide, rfl, gin 183 (by decide +kernel) rfl⟩
set_option maxRecDepth 100000 in
theorem fl_X3_17 : fOK RX3 17 3 RX3 TX3 3 0 := ⟨cok_X3, by decide, rfl, gin 182 (by decide +kernel) rfl⟩
set_option maxRecDepth 100000 in
theorem fl_X3_21 : fOK RX3 21 7 RX7 TX7 3 2 := ⟨cok_X7, by decide, rfl, gin 136 (by decide +kernel) rfl⟩
set_option maxRecDepth 100000 in
theorem fl_X3_27 : fOK RX3 27 3 RX3 TX3 3 2 := ⟨cok_X3, by decide, rfl, gin 185 (by decide +kernel) rfl⟩
set_option maxRecDepth 100000 in
theorem fl_X4_13 : fOK RX4 13 4 RX4 TX4 8 0 := ⟨cok_X4, by decide, rfl, gin 230 (by decide +kernel) rfl⟩
set_option maxRecDepth 100000 in
theorem fl_X4_16 : fOK RX4 16 4 RX4 TX4 8 1 := ⟨cok_X4, by decide, rfl, gin 231 (by decide +kernel) rfl⟩
set_option maxRecDepth 100000 in
theorem fl_X4_20 : fOK RX4 20 4 RX4 TX4 8 2 := ⟨cok_X4, by decide, rfl, gin 232 (by decide +kernel) rfl⟩
set_option maxRecDepth 100000 in
theorem fl_X4_23 : fOK RX4 23 4 RX4 TX4 8 3 := ⟨cok_X4, by decide, rfl, gin 233 (by decide +kernel) rfl⟩
set_option maxRecDepth 100000 in
theorem fl_X4_26 : fOK RX4 26 4 RX4 TX4 8 4 := ⟨cok_X4, by decide, rfl, gin 234 (by decide +kernel) rfl⟩
set_option maxRecDepth 100000 in
theorem fl_X4_30 : fOK RX4 30 4 RX4 TX4 8 6 := ⟨cok_X4, by decide, rfl, gin 237 (by decide +kernel) rfl⟩
set_option maxRecDepth 100000 in
theorem fl_X4_34 : fOK RX4 34 4 RX4 TX4 8 5 := ⟨cok_X4, by decide, rfl, gin 235 (by decide +kernel) rfl⟩
set_option maxRecDepth 100000 in
theorem fl_X4_37 : fOK RX4 37 3 RX3 TX3 3 1 := ⟨cok_X3, by decide, rfl, gin 184 (by decide +kernel) rfl⟩
set_option maxRecDepth 100000 in
theorem fl_X4_45 : fOK RX4 45 3 RX3 TX3 3 2 := ⟨cok_X3, by decide, rfl, gin 186 (by decide +kernel) rfl⟩
set_option maxRecDepth 100000 in
theorem fl_X4_78 : fOK RX4 78 4 RX4 TX4 8 7 := ⟨cok_X4, by decide, rfl, gin 239 (by decide +kernel) rfl⟩
set_option maxRecDepth 100000 in
theorem fl_X5_13 : fOK RX5 13 5 RX5 TX5 7 0 := ⟨cok_X5, by decide, rfl, gin 362 (by decide +kernel) rfl⟩
set_option maxRecDepth 100000 in
theorem fl_X5_17 : fOK RX5 17 5 RX5 TX5 7 1 := ⟨cok_X5, by decide, rfl, gin 363 (by decide +kernel) rfl⟩
set_option maxRecDepth 100000 in
theorem fl_X5_22 : fOK RX5 22 5 RX5 TX5 7 2 := ⟨cok_X5, by decide, rfl, gin 364 (by decide +kernel) rfl⟩
set_option maxRecDepth 100000 in
theorem fl_X5_26 : fOK RX5 26 5 RX5 TX5 7 3 := ⟨cok_X5, by decide, rfl, gin 365 (by decide +kernel) rfl⟩
set_option maxRecDepth 100000 in
theorem fl_X5_29 : fOK RX5 29 5 RX5 TX5 7 5 := ⟨cok_X5, by decide, rfl, gin 367 (by decide +kernel) rfl⟩
set_option maxRecDepth 100000 in
theorem fl_X5_33 : fOK RX5 33 5 RX5 TX5 7 4 := ⟨cok_X5, by decide, rfl, gin 366 (by decide +kernel) rfl⟩
set_option maxRecDepth 100000 in
theorem fl_X5_37 : fOK RX5 37 5 RX5 TX5 7 6 := ⟨cok_X5, by decide, rfl, gin 369 (by decide +kernel) rfl⟩
set_option maxRecDepth 100000 in
theorem fl_X5_50 : fOK RX5 50 0 RX0 TX0 13 10 := ⟨cok_X0, by decide, rfl, gin 319 (by decide +kernel) rfl⟩
set_option maxRecDepth 100000 in
theorem fl_X6_107 : fOK RX6 107 0 RX0 TX0 13 6 := ⟨cok_X0, by decide, rfl, gin 306 (by decide +kernel) rfl⟩
set_option maxRecDepth 100000 in
theorem fl_X6_130 : fOK RX6 130 6 RX6 TX6 9 8 := ⟨cok_X6, by decide, rfl, gin 401 (by decide +kernel) rfl⟩
set_option maxRecDepth 100000 in
theorem fl_X6_15 : fOK RX6 15 6 RX6 TX6 9 5 := ⟨cok_X6, by decide, rfl, gin 396 (by decide +kernel) rfl⟩
set_option maxRecDepth 100000 in
theorem fl_X6_179 : fOK RX6 179 0 RX0 TX0 13 3 := ⟨cok_X0, by decide, rfl, gin 295 (by decide +kernel) rfl⟩
set_option maxRecDepth 100000 in
theorem fl_X6_18 : fOK RX6 18 6 RX6 TX6 9 0 := ⟨cok_X6, by decide, rfl, gin 391 (by decide +kernel) rfl⟩
set_option maxRecDepth 100000 in
theorem fl_X6_28 : fOK RX6 28 6 RX6 TX6 9 1 := ⟨cok_X6, by decide, rfl, gin 392 (by decide +kernel) rfl⟩
set_option maxRecDepth 100000 in
theorem fl_X6_33 : fOK RX6 33 6 RX6 TX6 9 2 := ⟨cok_X6, by decide, rfl, gin 393 (by decide +kernel) rfl⟩
set_option maxRecDepth 100000 in
theorem fl_X6_34 : fOK RX6 34 6 RX6 TX6 9 3 := ⟨cok_X6, by decide, rfl, gin 394 (by decide +kernel) rfl⟩
set_option maxRecDepth 100000 in
theorem fl_X6_38 : fOK RX6 38 6 RX6 TX6 9 6 := ⟨cok_X6, by decide, rfl, gin 397 (by decide +kernel) rfl⟩
set_option maxRecDepth 100000 in
theorem fl_X6_42 : fOK RX6 42 6 RX6 TX6 9 7 := ⟨cok_X6, by decide, rfl, gin 399 (by decide +kernel) rfl⟩
set_option maxRecDepth 100000 in
theorem fl_X6_45 : fOK RX6 45 0 RX0 TX0 13 0 := ⟨cok_X0, by decide, rfl, gin 281 (by decide +kernel) rfl⟩
set_option maxRecDepth 100000 in
theorem fl_X6_52 : fOK RX6 52 0 RX0 TX0 13 4 := ⟨cok_X0, by decide, rfl, gin 297 (by decide +kernel) rfl⟩
set_option maxRecDepth 100000 in
theorem fl_X6_65 : fOK RX6 65 0 RX0 TX0 13 9 := ⟨cok_X0, by decide, rfl, gin 316 (by decide +kernel) rfl⟩
set_option maxRecDepth 100000 in
theorem fl_X6_83 : fOK RX6 83 0 RX0 TX0 13 2 := ⟨cok_X0, by decide, rfl, gin 290 (by decide +kernel) rfl⟩
set_option maxRecDepth 100000 in
theorem fl_X6_86 : fOK RX6 86 0 RX0 TX0 13 5 := ⟨cok_X0, by decide, rfl, gin 302 (by decide +kernel) rfl⟩
set_option maxRecDepth 100000 in
theorem fl_X6_89 : fOK RX6 89 0 RX0 TX0 13 1 := ⟨cok_X0, by decide, rfl, gin 286 (by decide +kernel) rfl⟩
set_option maxRecDepth 100000 in
theorem fl_X6_9 : fOK RX6 9 6 RX6 TX6 9 4 := ⟨cok_X6, by decide, rfl, gin 395 (by decide +kernel) rfl⟩
set_option maxRecDepth 100000 in
theorem fl_X7_15 : fOK RX7 15 7 RX7 TX7 3 1 := ⟨cok_X7, by decide, rfl, gin 133 (by decide +kernel) rfl⟩
set_option maxRecDepth 100000 in
theorem fl_X7_27 : fOK RX7 27 7 RX7 TX7 3 2 := ⟨cok_X7, by decide, rfl, gin 139 (by decide +kernel) rfl⟩
set_option maxRecDepth 100000 in
theorem fl_X7_9 : fOK RX7 9 7 RX7 TX7 3 0 := ⟨cok_X7, by decide, rfl, gin 132 (by decide +kernel) rfl⟩
set_option maxRecDepth 100000 in
theorem fl_X8_11 : fOK RX8 11 8 RX8 TX8 5 3 := ⟨cok_X8, by decide, rfl, gin 430 (by decide +kernel) rfl⟩
set_option maxRecDepth 100000 in
theorem fl_X8_15 : fOK RX8 15 8 RX8 TX8 5 0 := ⟨cok_X8, by decide, rfl, gin 427 (by decide +kernel) rfl⟩
set_option maxRecDepth 100000 in
theorem fl_X8_25 : fOK RX8 25 8 RX8 TX8 5 1 := ⟨cok_X8, by decide, rfl, gin 428 (by decide +kernel) rfl⟩
set_option maxRecDepth 100000 in
theorem fl_X8_26 : fOK RX8 26 8 RX8 TX8 5 2 := ⟨cok_X8, by decide, rfl, gin 429 (by decide +kernel) rfl⟩
set_option maxRecDepth 100000 in
theorem fl_X8_30 : fOK RX8 30 8 RX8 TX8 5 4 := ⟨cok_X8, by decide, rfl, gin 431 (by decide +kernel) rfl⟩
set_option maxRecDepth 100000 in
theorem fl_X8_44 : fOK RX8 44 0 RX0 TX0 13 2 := ⟨cok_X0, by decide, rfl, gin 289 (by decide +kernel) rfl⟩
set_option maxRecDepth 100000 in
theorem fl_X9_100 : fOK RX9 100 0 RX0 TX0 13 9 := ⟨cok_X0, by decide, rfl, gin 317 (by decide +kernel) rfl⟩
set_option maxRecDepth 100000 in
theorem fl_X9_116 : fOK RX9 116 0 RX0 TX0 13 11 := ⟨cok_X0, by decide, rfl, gin 321 (by decide +kernel) rfl⟩
set_option maxRecDepth 100000 in
theorem fl_X9_123 : fOK RX9 123 0 RX0 TX0 13 12 := ⟨cok_X0, by decide, rfl, gin 324 (by decide +kernel) rfl⟩
set_option maxRecDepth 100000 in
theorem fl_X9_139 : fOK RX9 139 0 RX0 TX0 13 7 := ⟨cok_X0, by decide, rfl, gin 310 (by decide +kernel) rfl⟩
set_option maxRecDepth 100000 in
theorem fl_X9_142 : fOK RX9 142 0 RX0 TX0 13 8 := ⟨cok_X0, by decide, rfl, gin 313 (by decide +kernel) rfl⟩
set_option maxRecDepth 100000 in
theorem fl_X9_15 : fOK RX9 15 9 RX9 TX9 2 1 := ⟨cok_X9, by decide, rfl, gin 267 (by decide +kernel) rfl⟩
set_option maxRecDepth 100000 in
theorem fl_X9_152 : fOK RX9 152 0 RX0 TX0 13 3 := ⟨cok_X0, by decide, rfl, gin 296 (by decide +kernel) rfl⟩
set_option maxRecDepth 100000 in
theorem fl_X9_32 : fOK RX9 32 0 RX0 TX0 13 1 := ⟨cok_X0, by decide, rfl, gin 285 (by decide +kernel) rfl⟩
set_option maxRecDepth 100000 in
theorem fl_X9_54 : fOK RX9 54 0 RX0 TX0 13 0 := ⟨cok_X0, by decide, rfl, gin 282 (by decide +kernel) rfl⟩
set_option maxRecDepth 100000 in
theorem fl_X9_60 : fOK RX9 60 0 RX0 TX0 13 5 := ⟨cok_X0, by decide, rfl, gin 303 (by decide +kernel) rfl⟩
set_option maxRecDepth 100000 in
theorem fl_X9_64 : fOK RX9 64 0 RX0 TX0 13 4 := ⟨cok_X0, by decide, rfl, gin 299 (by decide +kernel) rfl⟩
set_option maxRecDepth 100000 in
theorem fl_X9_67 : fOK RX9 67 0 RX0 TX0 13 2 := ⟨cok_X0, by decide, rfl, gin 291 (by decide +kernel) rfl⟩
set_option maxRecDepth 100000 in
theorem fl_X9_70 : fOK RX9 70 0 RX0 TX0 13 6 := ⟨cok_X0, by decide, rfl, gin 307 (by decide +kernel) rfl⟩
set_option maxRecDepth 100000 in
theorem fl_X9_9 : fOK RX9 9 9 RX9 TX9 2 0 := ⟨cok_X9, by decide, rfl, gin 264 (by decide +kernel) rfl⟩
set_option maxRecDepth 100000 in
theorem mf_J0_charAt_5068e : mT yJ0_charAt_5068e cJ0_charAt_5068e 2 (some .char) 1 := ⟨⟨gin 1703 (by decide +kernel) rfl, ⟨by decide +kernel, by decide +kernel, by decide +kernel⟩, by decide, gin 106 (by decide +kernel) rfl⟩, gin 1701 (by decide +kernel) rfl, gin 1702 (by decide +kernel) rfl, by decide +kernel⟩
set_option maxRecDepth 100000 in
theorem mf_J0_indexOf_0f7a4 : mT yJ0_indexOf_0f7a4 cJ0_indexOf_0f7a4 2 (some .int) 1 := ⟨⟨gin 559 (by decide +kernel) rfl, ⟨by decide +kernel, by decide +kernel, by decide +kernel⟩, by decide, gin 106 (by decide +kernel) rfl⟩, gin 557 (by decide +kernel) rfl, gin 558 (by decide +kernel) rfl, by decide +kernel⟩
set_option maxRecDepth 100000 in
theorem mf_J0_length_8abf5 : mT yJ0_length_8abf5 cJ0_length_8abf5 1 (some .int) 0 := ⟨⟨gin 573 (by decide +kernel) rfl, ⟨by decide +kernel, by decide +kernel, by decide +kernel⟩, by decide, gin 106 (by decide +kernel) rfl⟩, gin 571 (by decide +kernel) rfl, gin 572 (by decide +kernel) rfl, by decide +kernel⟩
set_option maxRecDepth 100000 in
theorem mf_J6_bitCount_0f7a4 : mS yJ6_bitCount_0f7a4 cJ6_bitCount_0f7a4 1 (some .int) 1 := ⟨⟨gin 2018 (by decide +kernel) rfl, ⟨by decide +kernel, by decide +kernel, by decide +kernel⟩, by decide, gin 117 (by decide +kernel) rfl⟩, gin 2017 (by decide +kernel) rfl⟩
set_option maxRecDepth 100000 in
theorem mf_J7_fill_53178 : mS yJ7_fill_53178 cJ7_fill_53178 4 (none) 2 := ⟨⟨gin 528 (by decide +kernel) rfl, ⟨by decide +kernel, by decide +kernel, by decide +kernel⟩, by decide, gin 105 (by decide +kernel) rfl⟩, gin 527 (by decide +kernel) rfl⟩
set_option maxRecDepth 100000 in
theorem mf_J9_abs_0f7a4 : mS yJ9_abs_0f7a4 cJ9_abs_0f7a4 1 (some .int) 1 := ⟨⟨gin 1268 (by decide +kernel) rfl, ⟨by decide +kernel, by decide +kernel, by decide +kernel⟩, by decide, gin 108 (by decide +kernel) rfl⟩, gin 1267 (by decide +kernel) rfl⟩
set_option maxRecDepth 100000 in
theorem mf_J9_floorMod_7cf53 : mS yJ9_floorMod_7cf53 cJ9_floorMod_7cf53 3 (some .int) 2 := ⟨⟨gin 1053 (by decide +kernel) rfl, ⟨by decide +kernel, by decide +kernel, by decide +kernel⟩, by decide, gin 108 (by decide +kernel) rfl⟩, gin 1052 (by decide +kernel) rfl⟩
set_option maxRecDepth 100000 in
theorem mf_J9_max_7cf53 : mS yJ9_max_7cf53 cJ9_max_7cf53 2 (some .int) 2 := ⟨⟨gin 586 (by decide +kernel) rfl, ⟨by decide +kernel, by decide +kernel, by decide +kernel⟩, by decide, gin 108 (by decide +kernel) rfl⟩, gin 585 (by decide +kernel) rfl⟩
set_option maxRecDepth 100000 in
theorem mf_J9_max_f86c9 : mS yJ9_max_f86c9 cJ9_max_f86c9 4 (some .long) 2 := ⟨⟨gin 1796 (by decide +kernel) rfl, ⟨by decide +kernel, by decide +kernel, by decide +kernel⟩, by decide, gin 108 (by decide +kernel) rfl⟩, gin 1795 (by decide +kernel) rfl⟩
set_option maxRecDepth 100000 in
theorem mf_J9_min_7cf53 : mS yJ9_min_7cf53 cJ9_min_7cf53 2 (some .int) 2 := ⟨⟨gin 589 (by decide +kernel) rfl, ⟨by decide +kernel, by decide +kernel, by decide +kernel⟩, by decide, gin 108 (by decide +kernel) rfl⟩, gin 588 (by decide +kernel) rfl⟩
set_option maxRecDepth 100000 in
theorem mf_J9_min_f86c9 : mS yJ9_min_f86c9 cJ9_min_f86c9 4 (some .long) 2 := ⟨⟨gin 1793 (by decide +kernel) rfl, ⟨by decide +kernel, by decide +kernel, by decide +kernel⟩, by decide, gin 108 (by decide +kernel) rfl⟩, gin 1792 (by decide +kernel) rfl⟩
set_option maxRecDepth 100000 in
theorem mf_X0_begin : mV yX0_begin cX0_begin 3 (none) 1 0 := ⟨⟨gin 788 (by decide +kernel) rfl, ⟨by decide +kernel, by decide +kernel, by decide +kernel⟩, by decide, gin 100 (by decide +kernel) rfl⟩, gin 786 (by decide +kernel) rfl, gin 787 (by decide +kernel) rfl, ⟨TX0, 13, rfl⟩⟩
set_option maxRecDepth 100000 in
theorem mf_X0_copyFrom : mV yX0_copyFrom cX0_copyFrom 2 (none) 1 0 := ⟨⟨gin 915 (by decide +kernel) rfl, ⟨by decide +kernel, by decide +kernel, by decide +kernel⟩, by decide, gin 100 (by decide +kernel) rfl⟩, gin 913 (by decide +kernel) rfl, gin 914 (by decide +kernel) rfl, ⟨TX0, 13, rfl⟩⟩
set_option maxRecDepth 100000 in
theorem mf_X0_forgetEvening : mV yX0_forgetEvening cX0_forgetEvening 1 (none) 0 0 := ⟨⟨gin 806 (by decide +kernel) rfl, ⟨by decide +kernel, by decide +kernel, by decide +kernel⟩, by decide, gin 100 (by decide +kernel) rfl⟩, gin 804 (by decide +kernel) rfl, gin 805 (by decide +kernel) rfl, ⟨TX0, 13, rfl⟩⟩
set_option maxRecDepth 100000 in
theorem mf_X0_wasRead : mV yX0_wasRead cX0_wasRead 2 (some .boolean) 1 0 := ⟨⟨gin 863 (by decide +kernel) rfl, ⟨by decide +kernel, by decide +kernel, by decide +kernel⟩, by decide, gin 100 (by decide +kernel) rfl⟩, gin 861 (by decide +kernel) rfl, gin 862 (by decide +kernel) rfl, ⟨TX0, 13, rfl⟩⟩
set_option maxRecDepth 100000 in
theorem mf_X10_digitOf : mS yX10_digitOf cX10_digitOf 2 (some .int) 2 := ⟨⟨gin 1121 (by decide +kernel) rfl, ⟨by decide +kernel, by decide +kernel, by decide +kernel⟩, by decide, gin 97 (by decide +kernel) rfl⟩, gin 1120 (by decide +kernel) rfl⟩
set_option maxRecDepth 100000 in
theorem mf_X10_has : mV yX10_has cX10_has 2 (some .boolean) 1 10 := ⟨⟨gin 1101 (by decide +kernel) rfl, ⟨by decide +kernel, by decide +kernel, by decide +kernel⟩, by decide, gin 97 (by decide +kernel) rfl⟩, gin 1099 (by decide +kernel) rfl, gin 1100 (by decide +kernel) rfl, ⟨TX10, 6, rfl⟩⟩
set_option maxRecDepth 100000 in
theorem mf_X10_hasDigit : mS yX10_hasDigit cX10_hasDigit 2 (some .boolean) 2 := ⟨⟨gin 1117 (by decide +kernel) rfl, ⟨by decide +kernel, by decide +kernel, by decide +kernel⟩, by decide, gin 97 (by decide +kernel) rfl⟩, gin 1116 (by decide +kernel) rfl⟩
set_option maxRecDepth 100000 in
theorem mf_X10_hasStep : mV yX10_hasStep cX10_hasStep 3 (some .boolean) 2 10 := ⟨⟨gin 1097 (by decide +kernel) rfl, ⟨by decide +kernel, by decide +kernel, by decide +kernel⟩, by decide, gin 97 (by decide +kernel) rfl⟩, gin 1095 (by decide +kernel) rfl, gin 1096 (by decide +kernel) rfl, ⟨TX10, 6, rfl⟩⟩
set_option maxRecDepth 100000 in
theorem mf_X10_isRight : mV yX10_isRight cX10_isRight 2 (some .boolean) 0 10 := ⟨⟨gin 748 (by decide +kernel) rfl, ⟨by decide +kernel, by decide +kernel, by decide +kernel⟩, by decide, gin 97 (by decide +kernel) rfl⟩, gin 746 (by decide +kernel) rfl, gin 747 (by decide +kernel) rfl, ⟨TX10, 6, rfl⟩⟩
set_option maxRecDepth 100000 in
theorem mf_X10_keepDraft : mV yX10_keepDraft cX10_keepDraft 2 (some .int) 0 10 := ⟨⟨gin 821 (by decide +kernel) rfl, ⟨by decide +kernel, by decide +kernel, by decide +kernel⟩, by decide, gin 97 (by decide +kernel) rfl⟩, gin 819 (by decide +kernel) rfl, gin 820 (by decide +kernel) rfl, ⟨TX10, 6, rfl⟩⟩
set_option maxRecDepth 100000 in
theorem mf_X10_sizeOf : mV yX10_sizeOf cX10_sizeOf 2 (some .int) 1 10 := ⟨⟨gin 1105 (by decide +kernel) rfl, ⟨by decide +kernel, by decide +kernel, by decide +kernel⟩, by decide, gin 97 (by decide +kernel) rfl⟩, gin 1103 (by decide +kernel) rfl, gin 1104 (by decide +kernel) rfl, ⟨TX10, 6, rfl⟩⟩
set_option maxRecDepth 100000 in
theorem mf_X10_sortOf : mS yX10_sortOf cX10_sortOf 1 (some .int) 1 := ⟨⟨gin 1114 (by decide +kernel) rfl, ⟨by decide +kernel, by decide +kernel, by decide +kernel⟩, by decide, gin 97 (by decide +kernel) rfl⟩, gin 1113 (by decide +kernel) rfl⟩
set_option maxRecDepth 100000 in
theorem mf_X10_stepOf : mV yX10_stepOf cX10_stepOf 3 (some .int) 2 10 := ⟨⟨gin 1110 (by decide +kernel) rfl, ⟨by decide +kernel, by decide +kernel, by decide +kernel⟩, by decide, gin 97 (by decide +kernel) rfl⟩, gin 1108 (by decide +kernel) rfl, gin 1109 (by decide +kernel) rfl, ⟨TX10, 6, rfl⟩⟩
set_option maxRecDepth 100000 in
theorem mf_X10_takeStep : mV yX10_takeStep cX10_takeStep 6 (some .boolean) 1 10 := ⟨⟨gin 752 (by decide +kernel) rfl, ⟨by decide +kernel, by decide +kernel, by decide +kernel⟩, by decide, gin 97 (by decide +kernel) rfl⟩, gin 751 (by decide +kernel) rfl, gin 15 (by decide +kernel) rfl, ⟨TX10, 6, rfl⟩⟩
set_option maxRecDepth 100000 in
theorem mf_X11_at : mS yX11_at cX11_at 2 (some .int) 2 := ⟨⟨gin 537 (by decide +kernel) rfl, ⟨by decide +kernel, by decide +kernel, by decide +kernel⟩, by decide, gin 92 (by decide +kernel) rfl⟩, gin 536 (by decide +kernel) rfl⟩
set_option maxRecDepth 100000 in
theorem mf_X11_canPlay : mV yX11_canPlay cX11_canPlay 4 (some .boolean) 3 11 := ⟨⟨gin 1288 (by decide +kernel) rfl, ⟨by decide +kernel, by decide +kernel, by decide +kernel⟩, by decide, gin 92 (by decide +kernel) rfl⟩, gin 1287 (by decide +kernel) rfl, gin 32 (by decide +kernel) rfl, ⟨TX11, 14, rfl⟩⟩
set_option maxRecDepth 100000 in
theorem mf_X11_copy : mS yX11_copy cX11_copy 2 (none) 2 := ⟨⟨gin 780 (by decide +kernel) rfl, ⟨by decide +kernel, by decide +kernel, by decide +kernel⟩, by decide, gin 92 (by decide +kernel) rfl⟩, gin 779 (by decide +kernel) rfl⟩
set_option maxRecDepth 100000 in
theorem mf_X11_countOfNow : mV yX11_countOfNow cX11_countOfNow 2 (some .int) 1 11 := ⟨⟨gin 1403 (by decide +kernel) rfl, ⟨by decide +kernel, by decide +kernel, by decide +kernel⟩, by decide, gin 92 (by decide +kernel) rfl⟩, gin 1402 (by decide +kernel) rfl, gin 35 (by decide +kernel) rfl, ⟨TX11, 14, rfl⟩⟩
set_option maxRecDepth 100000 in
theorem mf_X11_draw : mV yX11_draw cX11_draw 2 (some .int) 1 11 := ⟨⟨gin 1067 (by decide +kernel) rfl, ⟨by decide +kernel, by decide +kernel, by decide +kernel⟩, by decide, gin 92 (by decide +kernel) rfl⟩, gin 1066 (by decide +kernel) rfl, gin 23 (by decide +kernel) rfl, ⟨TX11, 14, rfl⟩⟩
set_option maxRecDepth 100000 in
theorem mf_X11_heldCalm : mS yX11_heldCalm cX11_heldCalm 1 (some .int) 1 := ⟨⟨gin 971 (by decide +kernel) rfl, ⟨by decide +kernel, by decide +kernel, by decide +kernel⟩, by decide, gin 92 (by decide +kernel) rfl⟩, gin 970 (by decide +kernel) rfl⟩
set_option maxRecDepth 100000 in
theorem mf_X11_isKind : mS yX11_isKind cX11_isKind 1 (some .boolean) 1 := ⟨⟨gin 870 (by decide +kernel) rfl, ⟨by decide +kernel, by decide +kernel, by decide +kernel⟩, by decide, gin 92 (by decide +kernel) rfl⟩, gin 869 (by decide +kernel) rfl⟩
set_option maxRecDepth 100000 in
theorem mf_X11_isRight : mV yX11_isRight cX11_isRight 2 (some .boolean) 1 11 := ⟨⟨gin 517 (by decide +kernel) rfl, ⟨by decide +kernel, by decide +kernel, by decide +kernel⟩, by decide, gin 92 (by decide +kernel) rfl⟩, gin 516 (by decide +kernel) rfl, gin 1 (by decide +kernel) rfl, ⟨TX11, 14, rfl⟩⟩
set_option maxRecDepth 100000 in
theorem mf_X11_lessen : mS yX11_lessen cX11_lessen 3 (none) 2 := ⟨⟨gin 1043 (by decide +kernel) rfl, ⟨by decide +kernel, by decide +kernel, by decide +kernel⟩, by decide, gin 92 (by decide +kernel) rfl⟩, gin 1042 (by decide +kernel) rfl⟩
set_option maxRecDepth 100000 in
theorem mf_X11_moveIn : mV yX11_moveIn cX11_moveIn 1 (some .int) 0 11 := ⟨⟨gin 773 (by decide +kernel) rfl, ⟨by decide +kernel, by decide +kernel, by decide +kernel⟩, by decide, gin 92 (by decide +kernel) rfl⟩, gin 772 (by decide +kernel) rfl, gin 16 (by decide +kernel) rfl, ⟨TX11, 14, rfl⟩⟩
set_option maxRecDepth 100000 in
theorem mf_X11_passLoggedNight : mV yX11_passLoggedNight cX11_passLoggedNight 4 (some .int) 0 11 := ⟨⟨gin 1026 (by decide +kernel) rfl, ⟨by decide +kernel, by decide +kernel, by decide +kernel⟩, by decide, gin 92 (by decide +kernel) rfl⟩, gin 1025 (by decide +kernel) rfl, gin 21 (by decide +kernel) rfl, ⟨TX11, 14, rfl⟩⟩
set_option maxRecDepth 100000 in
theorem mf_X11_put : mS yX11_put cX11_put 3 (none) 3 := ⟨⟨gin 546 (by decide +kernel) rfl, ⟨by decide +kernel, by decide +kernel, by decide +kernel⟩, by decide, gin 92 (by decide +kernel) rfl⟩, gin 545 (by decide +kernel) rfl⟩
set_option maxRecDepth 100000 in
theorem mf_X11_readByDraw : mV yX11_readByDraw cX11_readByDraw 4 (none) 0 11 := ⟨⟨gin 1062 (by decide +kernel) rfl, ⟨by decide +kernel, by decide +kernel, by decide +kernel⟩, by decide, gin 92 (by decide +kernel) rfl⟩, gin 1061 (by decide +kernel) rfl, gin 22 (by decide +kernel) rfl, ⟨TX11, 14, rfl⟩⟩
set_option maxRecDepth 100000 in
theorem mf_X11_within : mS yX11_within cX11_within 3 (some .int) 3 := ⟨⟨gin 938 (by decide +kernel) rfl, ⟨by decide +kernel, by decide +kernel, by decide +kernel⟩, by decide, gin 92 (by decide +kernel) rfl⟩, gin 937 (by decide +kernel) rfl⟩
set_option maxRecDepth 100000 in
theorem mf_X12_atom : mV yX12_atom cX12_atom 4 (some .int) 0 12 := ⟨⟨gin 1781 (by decide +kernel) rfl, ⟨by decide +kernel, by decide +kernel, by decide +kernel⟩, by decide, gin 104 (by decide +kernel) rfl⟩, gin 1780 (by decide +kernel) rfl, gin 55 (by decide +kernel) rfl, ⟨TX12, 51, rfl⟩⟩
set_option maxRecDepth 100000 in
theorem mf_X12_behind : mV yX12_behind cX12_behind 2 (some .int) 1 12 := ⟨⟨gin 1940 (by decide +kernel) rfl, ⟨by decide +kernel, by decide +kernel, by decide +kernel⟩, by decide, gin 104 (by decide +kernel) rfl⟩, gin 1939 (by decide +kernel) rfl, gin 75 (by decide +kernel) rfl, ⟨TX12, 51, rfl⟩⟩
set_option maxRecDepth 100000 in
theorem mf_X12_bytesIn : mS yX12_bytesIn cX12_bytesIn 3 (some .int) 1 := ⟨⟨gin 1651 (by decide +kernel) rfl, ⟨by decide +kernel, by decide +kernel, by decide +kernel⟩, by decide, gin 104 (by decide +kernel) rfl⟩, gin 1650 (by decide +kernel) rfl⟩
set_option maxRecDepth 100000 in
theorem mf_X12_calmBy : mV yX12_calmBy cX12_calmBy 8 (some .int) 5 12 := ⟨⟨gin 2070 (by decide +kernel) rfl, ⟨by decide +kernel, by decide +kernel, by decide +kernel⟩, by decide, gin 104 (by decide +kernel) rfl⟩, gin 2069 (by decide +kernel) rfl, gin 88 (by decide +kernel) rfl, ⟨TX12, 51, rfl⟩⟩
set_option maxRecDepth 100000 in
theorem mf_X12_calmIf : mV yX12_calmIf cX12_calmIf 8 (some .int) 4 12 := ⟨⟨gin 2041 (by decide +kernel) rfl, ⟨by decide +kernel, by decide +kernel, by decide +kernel⟩, by decide, gin 104 (by decide +kernel) rfl⟩, gin 2040 (by decide +kernel) rfl, gin 84 (by decide +kernel) rfl, ⟨TX12, 51, rfl⟩⟩
set_option maxRecDepth 100000 in
theorem mf_X12_canGo : mV yX12_canGo cX12_canGo 3 (some .boolean) 2 12 := ⟨⟨gin 1920 (by decide +kernel) rfl, ⟨by decide +kernel, by decide +kernel, by decide +kernel⟩, by decide, gin 104 (by decide +kernel) rfl⟩, gin 1919 (by decide +kernel) rfl, gin 72 (by decide +kernel) rfl, ⟨TX12, 51, rfl⟩⟩
set_option maxRecDepth 100000 in
theorem mf_X12_canRead : mV yX12_canRead cX12_canRead 5 (some .boolean) 4 12 := ⟨⟨gin 1872 (by decide +kernel) rfl, ⟨by decide +kernel, by decide +kernel, by decide +kernel⟩, by decide, gin 104 (by decide +kernel) rfl⟩, gin 1871 (by decide +kernel) rfl, gin 65 (by decide +kernel) rfl, ⟨TX12, 51, rfl⟩⟩
set_option maxRecDepth 100000 in
theorem mf_X12_canStep : mV yX12_canStep cX12_canStep 3 (some .boolean) 2 12 := ⟨⟨gin 1983 (by decide +kernel) rfl, ⟨by decide +kernel, by decide +kernel, by decide +kernel⟩, by decide, gin 104 (by decide +kernel) rfl⟩, gin 1982 (by decide +kernel) rfl, gin 79 (by decide +kernel) rfl, ⟨TX12, 51, rfl⟩⟩
set_option maxRecDepth 100000 in
theorem mf_X12_clause : mV yX12_clause cX12_clause 5 (none) 0 12 := ⟨⟨gin 1750 (by decide +kernel) rfl, ⟨by decide +kernel, by decide +kernel, by decide +kernel⟩, by decide, gin 104 (by decide +kernel) rfl⟩, gin 1749 (by decide +kernel) rfl, gin 48 (by decide +kernel) rfl, ⟨TX12, 51, rfl⟩⟩
set_option maxRecDepth 100000 in
theorem mf_X12_compares : mV yX12_compares cX12_compares 6 (some .boolean) 2 12 := ⟨⟨gin 1769 (by decide +kernel) rfl, ⟨by decide +kernel, by decide +kernel, by decide +kernel⟩, by decide, gin 104 (by decide +kernel) rfl⟩, gin 1768 (by decide +kernel) rfl, gin 52 (by decide +kernel) rfl, ⟨TX12, 51, rfl⟩⟩
set_option maxRecDepth 100000 in
theorem mf_X12_condition : mV yX12_condition cX12_condition 5 (some .boolean) 2 12 := ⟨⟨gin 1761 (by decide +kernel) rfl, ⟨by decide +kernel, by decide +kernel, by decide +kernel⟩, by decide, gin 104 (by decide +kernel) rfl⟩, gin 1760 (by decide +kernel) rfl, gin 50 (by decide +kernel) rfl, ⟨TX12, 51, rfl⟩⟩
set_option maxRecDepth 100000 in
theorem mf_X12_copy : mS yX12_copy cX12_copy 3 (none) 2 := ⟨⟨gin 1979 (by decide +kernel) rfl, ⟨by decide +kernel, by decide +kernel, by decide +kernel⟩, by decide, gin 104 (by decide +kernel) rfl⟩, gin 1978 (by decide +kernel) rfl⟩
set_option maxRecDepth 100000 in
theorem mf_X12_digit : mV yX12_digit cX12_digit 2 (some .int) 0 12 := ⟨⟨gin 1816 (by decide +kernel) rfl, ⟨by decide +kernel, by decide +kernel, by decide +kernel⟩, by decide, gin 104 (by decide +kernel) rfl⟩, gin 1815 (by decide +kernel) rfl, gin 60 (by decide +kernel) rfl, ⟨TX12, 51, rfl⟩⟩
set_option maxRecDepth 100000 in
theorem mf_X12_draw : mV yX12_draw cX12_draw 2 (some .int) 1 12 := ⟨⟨gin 1953 (by decide +kernel) rfl, ⟨by decide +kernel, by decide +kernel, by decide +kernel⟩, by decide, gin 104 (by decide +kernel) rfl⟩, gin 1952 (by decide +kernel) rfl, gin 77 (by decide +kernel) rfl, ⟨TX12, 51, rfl⟩⟩
set_option maxRecDepth 100000 in
theorem mf_X12_drawsReading : mV yX12_drawsReading cX12_drawsReading 3 (none) 0 12 := ⟨⟨gin 1949 (by decide +kernel) rfl, ⟨by decide +kernel, by decide +kernel, by decide +kernel⟩, by decide, gin 104 (by decide +kernel) rfl⟩, gin 1948 (by decide +kernel) rfl, gin 76 (by decide +kernel) rfl, ⟨TX12, 51, rfl⟩⟩
set_option maxRecDepth 100000 in
theorem mf_X12_drinks : mS yX12_drinks cX12_drinks 1 (none) 1 := ⟨⟨gin 1912 (by decide +kernel) rfl, ⟨by decide +kernel, by decide +kernel, by decide +kernel⟩, by decide, gin 104 (by decide +kernel) rfl⟩, gin 1911 (by decide +kernel) rfl⟩
set_option maxRecDepth 100000 in
theorem mf_X12_fails : mV yX12_fails cX12_fails 1 (some .boolean) 0 12 := ⟨⟨gin 1690 (by decide +kernel) rfl, ⟨by decide +kernel, by decide +kernel, by decide +kernel⟩, by decide, gin 104 (by decide +kernel) rfl⟩, gin 1689 (by decide +kernel) rfl, gin 42 (by decide +kernel) rfl, ⟨TX12, 51, rfl⟩⟩
set_option maxRecDepth 100000 in
theorem mf_X12_fault : mV yX12_fault cX12_fault 2 (some .int) 1 12 := ⟨⟨gin 1663 (by decide +kernel) rfl, ⟨by decide +kernel, by decide +kernel, by decide +kernel⟩, by decide, gin 104 (by decide +kernel) rfl⟩, gin 1661 (by decide +kernel) rfl, gin 1662 (by decide +kernel) rfl, ⟨TX12, 51, rfl⟩⟩
set_option maxRecDepth 100000 in
theorem mf_X12_gameOf : mV yX12_gameOf cX12_gameOf 11 (some .int) 6 12 := ⟨⟨gin 2066 (by decide +kernel) rfl, ⟨by decide +kernel, by decide +kernel, by decide +kernel⟩, by decide, gin 104 (by decide +kernel) rfl⟩, gin 2065 (by decide +kernel) rfl, gin 87 (by decide +kernel) rfl, ⟨TX12, 51, rfl⟩⟩
set_option maxRecDepth 100000 in
theorem mf_X12_goLeast : mV yX12_goLeast cX12_goLeast 11 (none) 3 12 := ⟨⟨gin 2003 (by decide +kernel) rfl, ⟨by decide +kernel, by decide +kernel, by decide +kernel⟩, by decide, gin 104 (by decide +kernel) rfl⟩, gin 2002 (by decide +kernel) rfl, gin 81 (by decide +kernel) rfl, ⟨TX12, 51, rfl⟩⟩
set_option maxRecDepth 100000 in
theorem mf_X12_goNight : mV yX12_goNight cX12_goNight 6 (some .int) 1 12 := ⟨⟨gin 1932 (by decide +kernel) rfl, ⟨by decide +kernel, by decide +kernel, by decide +kernel⟩, by decide, gin 104 (by decide +kernel) rfl⟩, gin 1931 (by decide +kernel) rfl, gin 73 (by decide +kernel) rfl, ⟨TX12, 51, rfl⟩⟩
set_option maxRecDepth 100000 in
theorem mf_X12_goRoster : mV yX12_goRoster cX12_goRoster 9 (none) 4 12 := ⟨⟨gin 2015 (by decide +kernel) rfl, ⟨by decide +kernel, by decide +kernel, by decide +kernel⟩, by decide, gin 104 (by decide +kernel) rfl⟩, gin 2014 (by decide +kernel) rfl, gin 82 (by decide +kernel) rfl, ⟨TX12, 51, rfl⟩⟩
set_option maxRecDepth 100000 in
theorem mf_X12_goThrough : mV yX12_goThrough cX12_goThrough 4 (none) 3 12 := ⟨⟨gin 1746 (by decide +kernel) rfl, ⟨by decide +kernel, by decide +kernel, by decide +kernel⟩, by decide, gin 104 (by decide +kernel) rfl⟩, gin 1745 (by decide +kernel) rfl, gin 47 (by decide +kernel) rfl, ⟨TX12, 51, rfl⟩⟩
set_option maxRecDepth 100000 in
theorem mf_X12_goesIn : mV yX12_goesIn cX12_goesIn 1 (some .boolean) 0 12 := ⟨⟨gin 1785 (by decide +kernel) rfl, ⟨by decide +kernel, by decide +kernel, by decide +kernel⟩, by decide, gin 104 (by decide +kernel) rfl⟩, gin 1784 (by decide +kernel) rfl, gin 56 (by decide +kernel) rfl, ⟨TX12, 51, rfl⟩⟩
set_option maxRecDepth 100000 in
theorem mf_X12_has : mS yX12_has cX12_has 2 (some .boolean) 2 := ⟨⟨gin 1722 (by decide +kernel) rfl, ⟨by decide +kernel, by decide +kernel, by decide +kernel⟩, by decide, gin 104 (by decide +kernel) rfl⟩, gin 1721 (by decide +kernel) rfl⟩
set_option maxRecDepth 100000 in
theorem mf_X12_held : mS yX12_held cX12_held 1 (some .int) 1 := ⟨⟨gin 1905 (by decide +kernel) rfl, ⟨by decide +kernel, by decide +kernel, by decide +kernel⟩, by decide, gin 104 (by decide +kernel) rfl⟩, gin 1904 (by decide +kernel) rfl⟩
set_option maxRecDepth 100000 in
theorem mf_X12_here : mV yX12_here cX12_here 1 (some .int) 0 12 := ⟨⟨gin 1740 (by decide +kernel) rfl, ⟨by decide +kernel, by decide +kernel, by decide +kernel⟩, by decide, gin 104 (by decide +kernel) rfl⟩, gin 1739 (by decide +kernel) rfl, gin 46 (by decide +kernel) rfl, ⟨TX12, 51, rfl⟩⟩
set_option maxRecDepth 100000 in
theorem mf_X12_isAmong : mS yX12_isAmong cX12_isAmong 3 (some .boolean) 2 := ⟨⟨gin 1753 (by decide +kernel) rfl, ⟨by decide +kernel, by decide +kernel, by decide +kernel⟩, by decide, gin 104 (by decide +kernel) rfl⟩, gin 1752 (by decide +kernel) rfl⟩
set_option maxRecDepth 100000 in
theorem mf_X12_isBook : mV yX12_isBook cX12_isBook 2 (some .boolean) 1 12 := ⟨⟨gin 1833 (by decide +kernel) rfl, ⟨by decide +kernel, by decide +kernel, by decide +kernel⟩, by decide, gin 104 (by decide +kernel) rfl⟩, gin 1832 (by decide +kernel) rfl, gin 61 (by decide +kernel) rfl, ⟨TX12, 51, rfl⟩⟩
set_option maxRecDepth 100000 in
theorem mf_X12_isCode : mS yX12_isCode cX12_isCode 1 (some .boolean) 1 := ⟨⟨gin 2033 (by decide +kernel) rfl, ⟨by decide +kernel, by decide +kernel, by decide +kernel⟩, by decide, gin 104 (by decide +kernel) rfl⟩, gin 2032 (by decide +kernel) rfl⟩
set_option maxRecDepth 100000 in
theorem mf_X12_isDigit : mV yX12_isDigit cX12_isDigit 1 (some .boolean) 0 12 := ⟨⟨gin 1736 (by decide +kernel) rfl, ⟨by decide +kernel, by decide +kernel, by decide +kernel⟩, by decide, gin 104 (by decide +kernel) rfl⟩, gin 1735 (by decide +kernel) rfl, gin 45 (by decide +kernel) rfl, ⟨TX12, 51, rfl⟩⟩
set_option maxRecDepth 100000 in
theorem mf_X12_isEnough : mV yX12_isEnough cX12_isEnough 2 (some .boolean) 1 12 := ⟨⟨gin 1936 (by decide +kernel) rfl, ⟨by decide +kernel, by decide +kernel, by decide +kernel⟩, by decide, gin 104 (by decide +kernel) rfl⟩, gin 1935 (by decide +kernel) rfl, gin 74 (by decide +kernel) rfl, ⟨TX12, 51, rfl⟩⟩
set_option maxRecDepth 100000 in
theorem mf_X12_isGame : mV yX12_isGame cX12_isGame 4 (some .boolean) 3 12 := ⟨⟨gin 2062 (by decide +kernel) rfl, ⟨by decide +kernel, by decide +kernel, by decide +kernel⟩, by decide, gin 104 (by decide +kernel) rfl⟩, gin 2061 (by decide +kernel) rfl, gin 86 (by decide +kernel) rfl, ⟨TX12, 51, rfl⟩⟩
set_option maxRecDepth 100000 in
theorem mf_X12_isHouse : mV yX12_isHouse cX12_isHouse 2 (some .boolean) 1 12 := ⟨⟨gin 1842 (by decide +kernel) rfl, ⟨by decide +kernel, by decide +kernel, by decide +kernel⟩, by decide, gin 104 (by decide +kernel) rfl⟩, gin 1841 (by decide +kernel) rfl, gin 62 (by decide +kernel) rfl, ⟨TX12, 51, rfl⟩⟩
set_option maxRecDepth 100000 in
theorem mf_X12_isIn : mS yX12_isIn cX12_isIn 6 (some .boolean) 3 := ⟨⟨gin 1667 (by decide +kernel) rfl, ⟨by decide +kernel, by decide +kernel, by decide +kernel⟩, by decide, gin 104 (by decide +kernel) rfl⟩, gin 1666 (by decide +kernel) rfl⟩
set_option maxRecDepth 100000 in
theorem mf_X12_isLiked : mV yX12_isLiked cX12_isLiked 3 (some .boolean) 1 12 := ⟨⟨gin 2037 (by decide +kernel) rfl, ⟨by decide +kernel, by decide +kernel, by decide +kernel⟩, by decide, gin 104 (by decide +kernel) rfl⟩, gin 2036 (by decide +kernel) rfl, gin 83 (by decide +kernel) rfl, ⟨TX12, 51, rfl⟩⟩
set_option maxRecDepth 100000 in
theorem mf_X12_isReadTo : mV yX12_isReadTo cX12_isReadTo 4 (some .boolean) 2 12 := ⟨⟨gin 2054 (by decide +kernel) rfl, ⟨by decide +kernel, by decide +kernel, by decide +kernel⟩, by decide, gin 104 (by decide +kernel) rfl⟩, gin 2053 (by decide +kernel) rfl, gin 85 (by decide +kernel) rfl, ⟨TX12, 51, rfl⟩⟩
set_option maxRecDepth 100000 in
theorem mf_X12_isSign : mS yX12_isSign cX12_isSign 1 (some .boolean) 1 := ⟨⟨gin 1799 (by decide +kernel) rfl, ⟨by decide +kernel, by decide +kernel, by decide +kernel⟩, by decide, gin 104 (by decide +kernel) rfl⟩, gin 1798 (by decide +kernel) rfl⟩
set_option maxRecDepth 100000 in
theorem mf_X12_isWeek : mV yX12_isWeek cX12_isWeek 2 (some .boolean) 1 12 := ⟨⟨gin 1971 (by decide +kernel) rfl, ⟨by decide +kernel, by decide +kernel, by decide +kernel⟩, by decide, gin 104 (by decide +kernel) rfl⟩, gin 1970 (by decide +kernel) rfl, gin 78 (by decide +kernel) rfl, ⟨TX12, 51, rfl⟩⟩
set_option maxRecDepth 100000 in
theorem mf_X12_kindOf : mV yX12_kindOf cX12_kindOf 2 (some .int) 1 12 := ⟨⟨gin 1888 (by decide +kernel) rfl, ⟨by decide +kernel, by decide +kernel, by decide +kernel⟩, by decide, gin 104 (by decide +kernel) rfl⟩, gin 1887 (by decide +kernel) rfl, gin 69 (by decide +kernel) rfl, ⟨TX12, 51, rfl⟩⟩
set_option maxRecDepth 100000 in
theorem mf_X12_leastOf : mS yX12_leastOf cX12_leastOf 2 (some .int) 2 := ⟨⟨gin 1725 (by decide +kernel) rfl, ⟨by decide +kernel, by decide +kernel, by decide +kernel⟩, by decide, gin 104 (by decide +kernel) rfl⟩, gin 1724 (by decide +kernel) rfl⟩
set_option maxRecDepth 100000 in
theorem mf_X12_longest : mV yX12_longest cX12_longest 3 (some .int) 0 12 := ⟨⟨gin 2096 (by decide +kernel) rfl, ⟨by decide +kernel, by decide +kernel, by decide +kernel⟩, by decide, gin 104 (by decide +kernel) rfl⟩, gin 2095 (by decide +kernel) rfl, gin 89 (by decide +kernel) rfl, ⟨TX12, 51, rfl⟩⟩
set_option maxRecDepth 100000 in
theorem mf_X12_look : mV yX12_look cX12_look 1 (some .int) 0 12 := ⟨⟨gin 1686 (by decide +kernel) rfl, ⟨by decide +kernel, by decide +kernel, by decide +kernel⟩, by decide, gin 104 (by decide +kernel) rfl⟩, gin 1685 (by decide +kernel) rfl, gin 41 (by decide +kernel) rfl, ⟨TX12, 51, rfl⟩⟩
set_option maxRecDepth 100000 in
theorem mf_X12_mayRead : mV yX12_mayRead cX12_mayRead 5 (some .boolean) 4 12 := ⟨⟨gin 1868 (by decide +kernel) rfl, ⟨by decide +kernel, by decide +kernel, by decide +kernel⟩, by decide, gin 104 (by decide +kernel) rfl⟩, gin 1867 (by decide +kernel) rfl, gin 64 (by decide +kernel) rfl, ⟨TX12, 51, rfl⟩⟩
set_option maxRecDepth 100000 in
theorem mf_X12_mostOf : mS yX12_mostOf cX12_mostOf 2 (some .int) 2 := ⟨⟨gin 1728 (by decide +kernel) rfl, ⟨by decide +kernel, by decide +kernel, by decide +kernel⟩, by decide, gin 104 (by decide +kernel) rfl⟩, gin 1727 (by decide +kernel) rfl⟩
set_option maxRecDepth 100000 in
theorem mf_X12_number : mV yX12_number cX12_number 5 (some .int) 2 12 := ⟨⟨gin 1732 (by decide +kernel) rfl, ⟨by decide +kernel, by decide +kernel, by decide +kernel⟩, by decide, gin 104 (by decide +kernel) rfl⟩, gin 1731 (by decide +kernel) rfl, gin 44 (by decide +kernel) rfl, ⟨TX12, 51, rfl⟩⟩
set_option maxRecDepth 100000 in
theorem mf_X12_page : mV yX12_page cX12_page 7 (some .int) 6 12 := ⟨⟨gin 1892 (by decide +kernel) rfl, ⟨by decide +kernel, by decide +kernel, by decide +kernel⟩, by decide, gin 104 (by decide +kernel) rfl⟩, gin 1891 (by decide +kernel) rfl, gin 70 (by decide +kernel) rfl, ⟨TX12, 51, rfl⟩⟩
set_option maxRecDepth 100000 in
theorem mf_X12_pageWorth : mV yX12_pageWorth cX12_pageWorth 10 (some .int) 6 12 := ⟨⟨gin 1896 (by decide +kernel) rfl, ⟨by decide +kernel, by decide +kernel, by decide +kernel⟩, by decide, gin 104 (by decide +kernel) rfl⟩, gin 1895 (by decide +kernel) rfl, gin 71 (by decide +kernel) rfl, ⟨TX12, 51, rfl⟩⟩
set_option maxRecDepth 100000 in
theorem mf_X12_pagesOf : mV yX12_pagesOf cX12_pagesOf 2 (some .int) 1 12 := ⟨⟨gin 1876 (by decide +kernel) rfl, ⟨by decide +kernel, by decide +kernel, by decide +kernel⟩, by decide, gin 104 (by decide +kernel) rfl⟩, gin 1875 (by decide +kernel) rfl, gin 66 (by decide +kernel) rfl, ⟨TX12, 51, rfl⟩⟩
set_option maxRecDepth 100000 in
theorem mf_X12_part : mV yX12_part cX12_part 5 (some .boolean) 2 12 := ⟨⟨gin 1765 (by decide +kernel) rfl, ⟨by decide +kernel, by decide +kernel, by decide +kernel⟩, by decide, gin 104 (by decide +kernel) rfl⟩, gin 1764 (by decide +kernel) rfl, gin 51 (by decide +kernel) rfl, ⟨TX12, 51, rfl⟩⟩
set_option maxRecDepth 100000 in
theorem mf_X12_put : mV yX12_put cX12_put 3 (none) 1 12 := ⟨⟨gin 1655 (by decide +kernel) rfl, ⟨by decide +kernel, by decide +kernel, by decide +kernel⟩, by decide, gin 104 (by decide +kernel) rfl⟩, gin 1654 (by decide +kernel) rfl, gin 37 (by decide +kernel) rfl, ⟨TX12, 51, rfl⟩⟩
set_option maxRecDepth 100000 in
theorem mf_X12_readClause : mV yX12_readClause cX12_readClause 3 (none) 0 12 := ⟨⟨gin 1682 (by decide +kernel) rfl, ⟨by decide +kernel, by decide +kernel, by decide +kernel⟩, by decide, gin 104 (by decide +kernel) rfl⟩, gin 1681 (by decide +kernel) rfl, gin 40 (by decide +kernel) rfl, ⟨TX12, 51, rfl⟩⟩
set_option maxRecDepth 100000 in
theorem mf_X12_readItems : mV yX12_readItems cX12_readItems 7 (none) 4 12 := ⟨⟨gin 1695 (by decide +kernel) rfl, ⟨by decide +kernel, by decide +kernel, by decide +kernel⟩, by decide, gin 104 (by decide +kernel) rfl⟩, gin 1694 (by decide +kernel) rfl, gin 43 (by decide +kernel) rfl, ⟨TX12, 51, rfl⟩⟩
set_option maxRecDepth 100000 in
theorem mf_X12_readLanding : mV yX12_readLanding cX12_readLanding 2 (none) 0 12 := ⟨⟨gin 1671 (by decide +kernel) rfl, ⟨by decide +kernel, by decide +kernel, by decide +kernel⟩, by decide, gin 104 (by decide +kernel) rfl⟩, gin 1670 (by decide +kernel) rfl, gin 38 (by decide +kernel) rfl, ⟨TX12, 51, rfl⟩⟩
set_option maxRecDepth 100000 in
theorem mf_X12_readStep : mV yX12_readStep cX12_readStep 3 (none) 1 12 := ⟨⟨gin 1811 (by decide +kernel) rfl, ⟨by decide +kernel, by decide +kernel, by decide +kernel⟩, by decide, gin 104 (by decide +kernel) rfl⟩, gin 1810 (by decide +kernel) rfl, gin 59 (by decide +kernel) rfl, ⟨TX12, 51, rfl⟩⟩
set_option maxRecDepth 100000 in
theorem mf_X12_readWeek : mV yX12_readWeek cX12_readWeek 3 (none) 0 12 := ⟨⟨gin 1807 (by decide +kernel) rfl, ⟨by decide +kernel, by decide +kernel, by decide +kernel⟩, by decide, gin 104 (by decide +kernel) rfl⟩, gin 1806 (by decide +kernel) rfl, gin 58 (by decide +kernel) rfl, ⟨TX12, 51, rfl⟩⟩
set_option maxRecDepth 100000 in
theorem mf_X12_reads : mV yX12_reads cX12_reads 8 (none) 4 12 := ⟨⟨gin 1884 (by decide +kernel) rfl, ⟨by decide +kernel, by decide +kernel, by decide +kernel⟩, by decide, gin 104 (by decide +kernel) rfl⟩, gin 1883 (by decide +kernel) rfl, gin 68 (by decide +kernel) rfl, ⟨TX12, 51, rfl⟩⟩
set_option maxRecDepth 100000 in
theorem mf_X12_remember : mV yX12_remember cX12_remember 2 (none) 0 12 := ⟨⟨gin 1880 (by decide +kernel) rfl, ⟨by decide +kernel, by decide +kernel, by decide +kernel⟩, by decide, gin 104 (by decide +kernel) rfl⟩, gin 1879 (by decide +kernel) rfl, gin 67 (by decide +kernel) rfl, ⟨TX12, 51, rfl⟩⟩
set_option maxRecDepth 100000 in
theorem mf_X12_spotOf : mS yX12_spotOf cX12_spotOf 3 (some .int) 2 := ⟨⟨gin 1699 (by decide +kernel) rfl, ⟨by decide +kernel, by decide +kernel, by decide +kernel⟩, by decide, gin 104 (by decide +kernel) rfl⟩, gin 1698 (by decide +kernel) rfl⟩
set_option maxRecDepth 100000 in
theorem mf_X12_starts : mV yX12_starts cX12_starts 4 (none) 3 12 := ⟨⟨gin 1675 (by decide +kernel) rfl, ⟨by decide +kernel, by decide +kernel, by decide +kernel⟩, by decide, gin 104 (by decide +kernel) rfl⟩, gin 1674 (by decide +kernel) rfl, gin 39 (by decide +kernel) rfl, ⟨TX12, 51, rfl⟩⟩
set_option maxRecDepth 100000 in
theorem mf_X12_steps : mV yX12_steps cX12_steps 3 (some .int) 2 12 := ⟨⟨gin 1987 (by decide +kernel) rfl, ⟨by decide +kernel, by decide +kernel, by decide +kernel⟩, by decide, gin 104 (by decide +kernel) rfl⟩, gin 1986 (by decide +kernel) rfl, gin 80 (by decide +kernel) rfl, ⟨TX12, 51, rfl⟩⟩
set_option maxRecDepth 100000 in
theorem mf_X12_strength : mV yX12_strength cX12_strength 2 (some .int) 1 12 := ⟨⟨gin 1847 (by decide +kernel) rfl, ⟨by decide +kernel, by decide +kernel, by decide +kernel⟩, by decide, gin 104 (by decide +kernel) rfl⟩, gin 1846 (by decide +kernel) rfl, gin 63 (by decide +kernel) rfl, ⟨TX12, 51, rfl⟩⟩
set_option maxRecDepth 100000 in
theorem mf_X12_sum : mV yX12_sum cX12_sum 5 (some .int) 0 12 := ⟨⟨gin 1773 (by decide +kernel) rfl, ⟨by decide +kernel, by decide +kernel, by decide +kernel⟩, by decide, gin 104 (by decide +kernel) rfl⟩, gin 1772 (by decide +kernel) rfl, gin 53 (by decide +kernel) rfl, ⟨TX12, 51, rfl⟩⟩
set_option maxRecDepth 100000 in
theorem mf_X12_takes : mV yX12_takes cX12_takes 2 (some .boolean) 1 12 := ⟨⟨gin 1757 (by decide +kernel) rfl, ⟨by decide +kernel, by decide +kernel, by decide +kernel⟩, by decide, gin 104 (by decide +kernel) rfl⟩, gin 1756 (by decide +kernel) rfl, gin 49 (by decide +kernel) rfl, ⟨TX12, 51, rfl⟩⟩
set_option maxRecDepth 100000 in
theorem mf_X12_term : mV yX12_term cX12_term 5 (some .int) 0 12 := ⟨⟨gin 1777 (by decide +kernel) rfl, ⟨by decide +kernel, by decide +kernel, by decide +kernel⟩, by decide, gin 104 (by decide +kernel) rfl⟩, gin 1776 (by decide +kernel) rfl, gin 54 (by decide +kernel) rfl, ⟨TX12, 51, rfl⟩⟩
set_option maxRecDepth 100000 in
theorem mf_X12_unit : mV yX12_unit cX12_unit 3 (some .boolean) 0 12 := ⟨⟨gin 1803 (by decide +kernel) rfl, ⟨by decide +kernel, by decide +kernel, by decide +kernel⟩, by decide, gin 104 (by decide +kernel) rfl⟩, gin 1802 (by decide +kernel) rfl, gin 57 (by decide +kernel) rfl, ⟨TX12, 51, rfl⟩⟩
set_option maxRecDepth 100000 in
theorem mf_X12_usual : mS yX12_usual cX12_usual 2 (some .int) 2 := ⟨⟨gin 1678 (by decide +kernel) rfl, ⟨by decide +kernel, by decide +kernel, by decide +kernel⟩, by decide, gin 104 (by decide +kernel) rfl⟩, gin 1677 (by decide +kernel) rfl⟩
set_option maxRecDepth 100000 in
theorem mf_X12_valueOf : mV yX12_valueOf cX12_valueOf 3 (some .int) 2 12 := ⟨⟨gin 2100 (by decide +kernel) rfl, ⟨by decide +kernel, by decide +kernel, by decide +kernel⟩, by decide, gin 104 (by decide +kernel) rfl⟩, gin 2099 (by decide +kernel) rfl, gin 90 (by decide +kernel) rfl, ⟨TX12, 51, rfl⟩⟩
set_option maxRecDepth 100000 in
theorem mf_X12_within : mS yX12_within cX12_within 2 (some .int) 1 := ⟨⟨gin 1788 (by decide +kernel) rfl, ⟨by decide +kernel, by decide +kernel, by decide +kernel⟩, by decide, gin 104 (by decide +kernel) rfl⟩, gin 1787 (by decide +kernel) rfl⟩
set_option maxRecDepth 100000 in
theorem mf_X1_books : mV yX1_books cX1_books 1 (some .int) 0 1 := ⟨⟨gin 680 (by decide +kernel) rfl, ⟨by decide +kernel, by decide +kernel, by decide +kernel⟩, by decide, gin 95 (by decide +kernel) rfl⟩, gin 678 (by decide +kernel) rfl, gin 679 (by decide +kernel) rfl, ⟨TX1, 2, rfl⟩⟩
set_option maxRecDepth 100000 in
theorem mf_X1_calmAtFirst : mV yX1_calmAtFirst cX1_calmAtFirst 1 (some .int) 0 1 := ⟨⟨gin 802 (by decide +kernel) rfl, ⟨by decide +kernel, by decide +kernel, by decide +kernel⟩, by decide, gin 95 (by decide +kernel) rfl⟩, gin 800 (by decide +kernel) rfl, gin 801 (by decide +kernel) rfl, ⟨TX1, 2, rfl⟩⟩
set_option maxRecDepth 100000 in
theorem mf_X1_calmingOf : mV yX1_calmingOf cX1_calmingOf 2 (some .int) 1 1 := ⟨⟨gin 855 (by decide +kernel) rfl, ⟨by decide +kernel, by decide +kernel, by decide +kernel⟩, by decide, gin 95 (by decide +kernel) rfl⟩, gin 853 (by decide +kernel) rfl, gin 854 (by decide +kernel) rfl, ⟨TX1, 2, rfl⟩⟩
set_option maxRecDepth 100000 in
theorem mf_X1_childrenOf : mV yX1_childrenOf cX1_childrenOf 2 (some .int) 1 1 := ⟨⟨gin 1034 (by decide +kernel) rfl, ⟨by decide +kernel, by decide +kernel, by decide +kernel⟩, by decide, gin 95 (by decide +kernel) rfl⟩, gin 1032 (by decide +kernel) rfl, gin 1033 (by decide +kernel) rfl, ⟨TX1, 2, rfl⟩⟩
set_option maxRecDepth 100000 in
theorem mf_X1_clear : mV yX1_clear cX1_clear 1 (none) 0 1 := ⟨⟨gin 525 (by decide +kernel) rfl, ⟨by decide +kernel, by decide +kernel, by decide +kernel⟩, by decide, gin 95 (by decide +kernel) rfl⟩, gin 523 (by decide +kernel) rfl, gin 524 (by decide +kernel) rfl, ⟨TX1, 2, rfl⟩⟩
set_option maxRecDepth 100000 in
theorem mf_X1_copyFrom : mV yX1_copyFrom cX1_copyFrom 2 (none) 1 1 := ⟨⟨gin 777 (by decide +kernel) rfl, ⟨by decide +kernel, by decide +kernel, by decide +kernel⟩, by decide, gin 95 (by decide +kernel) rfl⟩, gin 775 (by decide +kernel) rfl, gin 776 (by decide +kernel) rfl, ⟨TX1, 2, rfl⟩⟩
set_option maxRecDepth 100000 in
theorem mf_X1_enough : mV yX1_enough cX1_enough 1 (some .int) 0 1 := ⟨⟨gin 834 (by decide +kernel) rfl, ⟨by decide +kernel, by decide +kernel, by decide +kernel⟩, by decide, gin 95 (by decide +kernel) rfl⟩, gin 832 (by decide +kernel) rfl, gin 833 (by decide +kernel) rfl, ⟨TX1, 2, rfl⟩⟩
set_option maxRecDepth 100000 in
theorem mf_X1_fillUsual : mV yX1_fillUsual cX1_fillUsual 4 (none) 2 1 := ⟨⟨gin 532 (by decide +kernel) rfl, ⟨by decide +kernel, by decide +kernel, by decide +kernel⟩, by decide, gin 95 (by decide +kernel) rfl⟩, gin 531 (by decide +kernel) rfl, gin 2 (by decide +kernel) rfl, ⟨TX1, 2, rfl⟩⟩
set_option maxRecDepth 100000 in
theorem mf_X1_firstVoiceOf : mV yX1_firstVoiceOf cX1_firstVoiceOf 2 (some .int) 1 1 := ⟨⟨gin 792 (by decide +kernel) rfl, ⟨by decide +kernel, by decide +kernel, by decide +kernel⟩, by decide, gin 95 (by decide +kernel) rfl⟩, gin 790 (by decide +kernel) rfl, gin 791 (by decide +kernel) rfl, ⟨TX1, 2, rfl⟩⟩
set_option maxRecDepth 100000 in
theorem mf_X1_hasBook : mV yX1_hasBook cX1_hasBook 2 (some .boolean) 1 1 := ⟨⟨gin 846 (by decide +kernel) rfl, ⟨by decide +kernel, by decide +kernel, by decide +kernel⟩, by decide, gin 95 (by decide +kernel) rfl⟩, gin 844 (by decide +kernel) rfl, gin 845 (by decide +kernel) rfl, ⟨TX1, 2, rfl⟩⟩
set_option maxRecDepth 100000 in
theorem mf_X1_hasHouse : mV yX1_hasHouse cX1_hasHouse 2 (some .boolean) 1 1 := ⟨⟨gin 1004 (by decide +kernel) rfl, ⟨by decide +kernel, by decide +kernel, by decide +kernel⟩, by decide, gin 95 (by decide +kernel) rfl⟩, gin 1002 (by decide +kernel) rfl, gin 1003 (by decide +kernel) rfl, ⟨TX1, 2, rfl⟩⟩
set_option maxRecDepth 100000 in
theorem mf_X1_houses : mV yX1_houses cX1_houses 1 (some .int) 0 1 := ⟨⟨gin 684 (by decide +kernel) rfl, ⟨by decide +kernel, by decide +kernel, by decide +kernel⟩, by decide, gin 95 (by decide +kernel) rfl⟩, gin 682 (by decide +kernel) rfl, gin 683 (by decide +kernel) rfl, ⟨TX1, 2, rfl⟩⟩
set_option maxRecDepth 100000 in
theorem mf_X1_kindOf : mV yX1_kindOf cX1_kindOf 2 (some .int) 1 1 := ⟨⟨gin 859 (by decide +kernel) rfl, ⟨by decide +kernel, by decide +kernel, by decide +kernel⟩, by decide, gin 95 (by decide +kernel) rfl⟩, gin 857 (by decide +kernel) rfl, gin 858 (by decide +kernel) rfl, ⟨TX1, 2, rfl⟩⟩
set_option maxRecDepth 100000 in
theorem mf_X1_loses : mV yX1_loses cX1_loses 1 (some .int) 0 1 := ⟨⟨gin 838 (by decide +kernel) rfl, ⟨by decide +kernel, by decide +kernel, by decide +kernel⟩, by decide, gin 95 (by decide +kernel) rfl⟩, gin 836 (by decide +kernel) rfl, gin 837 (by decide +kernel) rfl, ⟨TX1, 2, rfl⟩⟩
set_option maxRecDepth 100000 in
theorem mf_X1_open : mV yX1_open cX1_open 3 (some .int) 1 1 := ⟨⟨gin 645 (by decide +kernel) rfl, ⟨by decide +kernel, by decide +kernel, by decide +kernel⟩, by decide, gin 95 (by decide +kernel) rfl⟩, gin 643 (by decide +kernel) rfl, gin 644 (by decide +kernel) rfl, ⟨TX1, 2, rfl⟩⟩
set_option maxRecDepth 100000 in
theorem mf_X1_pagesOf : mV yX1_pagesOf cX1_pagesOf 2 (some .int) 1 1 := ⟨⟨gin 851 (by decide +kernel) rfl, ⟨by decide +kernel, by decide +kernel, by decide +kernel⟩, by decide, gin 95 (by decide +kernel) rfl⟩, gin 849 (by decide +kernel) rfl, gin 850 (by decide +kernel) rfl, ⟨TX1, 2, rfl⟩⟩
set_option maxRecDepth 100000 in
theorem mf_X1_stands : mV yX1_stands cX1_stands 1 (some .boolean) 0 1 := ⟨⟨gin 829 (by decide +kernel) rfl, ⟨by decide +kernel, by decide +kernel, by decide +kernel⟩, by decide, gin 95 (by decide +kernel) rfl⟩, gin 827 (by decide +kernel) rfl, gin 828 (by decide +kernel) rfl, ⟨TX1, 2, rfl⟩⟩
set_option maxRecDepth 100000 in
theorem mf_X1_strengthOf : mV yX1_strengthOf cX1_strengthOf 2 (some .int) 1 1 := ⟨⟨gin 906 (by decide +kernel) rfl, ⟨by decide +kernel, by decide +kernel, by decide +kernel⟩, by decide, gin 95 (by decide +kernel) rfl⟩, gin 904 (by decide +kernel) rfl, gin 905 (by decide +kernel) rfl, ⟨TX1, 2, rfl⟩⟩
set_option maxRecDepth 100000 in
theorem mf_X1_tell : mV yX1_tell cX1_tell 5 (none) 4 1 := ⟨⟨gin 541 (by decide +kernel) rfl, ⟨by decide +kernel, by decide +kernel, by decide +kernel⟩, by decide, gin 95 (by decide +kernel) rfl⟩, gin 539 (by decide +kernel) rfl, gin 540 (by decide +kernel) rfl, ⟨TX1, 2, rfl⟩⟩
set_option maxRecDepth 100000 in
theorem mf_X1_told : mV yX1_told cX1_told 4 (some .int) 3 1 := ⟨⟨gin 796 (by decide +kernel) rfl, ⟨by decide +kernel, by decide +kernel, by decide +kernel⟩, by decide, gin 95 (by decide +kernel) rfl⟩, gin 795 (by decide +kernel) rfl, gin 17 (by decide +kernel) rfl, ⟨TX1, 2, rfl⟩⟩
set_option maxRecDepth 100000 in
theorem mf_X2_isRight : mV yX2_isRight cX2_isRight 2 (some .boolean) 0 2 := ⟨⟨gin 521 (by decide +kernel) rfl, ⟨by decide +kernel, by decide +kernel, by decide +kernel⟩, by decide, gin 94 (by decide +kernel) rfl⟩, gin 519 (by decide +kernel) rfl, gin 520 (by decide +kernel) rfl, ⟨TX2, 2, rfl⟩⟩
set_option maxRecDepth 100000 in
theorem mf_X2_takeClause : mV yX2_takeClause cX2_takeClause 7 (some .boolean) 0 2 := ⟨⟨gin 550 (by decide +kernel) rfl, ⟨by decide +kernel, by decide +kernel, by decide +kernel⟩, by decide, gin 94 (by decide +kernel) rfl⟩, gin 549 (by decide +kernel) rfl, gin 3 (by decide +kernel) rfl, ⟨TX2, 2, rfl⟩⟩
set_option maxRecDepth 100000 in
theorem mf_X2_takeItem : mV yX2_takeItem cX2_takeItem 6 (some .boolean) 3 2 := ⟨⟨gin 654 (by decide +kernel) rfl, ⟨by decide +kernel, by decide +kernel, by decide +kernel⟩, by decide, gin 94 (by decide +kernel) rfl⟩, gin 653 (by decide +kernel) rfl, gin 4 (by decide +kernel) rfl, ⟨TX2, 2, rfl⟩⟩
set_option maxRecDepth 100000 in
theorem mf_X3_isRight : mV yX3_isRight cX3_isRight 2 (some .boolean) 0 3 := ⟨⟨gin 692 (by decide +kernel) rfl, ⟨by decide +kernel, by decide +kernel, by decide +kernel⟩, by decide, gin 96 (by decide +kernel) rfl⟩, gin 690 (by decide +kernel) rfl, gin 691 (by decide +kernel) rfl, ⟨TX3, 3, rfl⟩⟩
set_option maxRecDepth 100000 in
theorem mf_X3_order : mV yX3_order cX3_order 2 (none) 1 3 := ⟨⟨gin 722 (by decide +kernel) rfl, ⟨by decide +kernel, by decide +kernel, by decide +kernel⟩, by decide, gin 96 (by decide +kernel) rfl⟩, gin 721 (by decide +kernel) rfl, gin 10 (by decide +kernel) rfl, ⟨TX3, 3, rfl⟩⟩
set_option maxRecDepth 100000 in
theorem mf_X3_takeAtom : mV yX3_takeAtom cX3_takeAtom 4 (some .boolean) 1 3 := ⟨⟨gin 712 (by decide +kernel) rfl, ⟨by decide +kernel, by decide +kernel, by decide +kernel⟩, by decide, gin 96 (by decide +kernel) rfl⟩, gin 711 (by decide +kernel) rfl, gin 9 (by decide +kernel) rfl, ⟨TX3, 3, rfl⟩⟩
set_option maxRecDepth 100000 in
theorem mf_X3_takeClause : mV yX3_takeClause cX3_takeClause 3 (some .boolean) 0 3 := ⟨⟨gin 696 (by decide +kernel) rfl, ⟨by decide +kernel, by decide +kernel, by decide +kernel⟩, by decide, gin 96 (by decide +kernel) rfl⟩, gin 695 (by decide +kernel) rfl, gin 6 (by decide +kernel) rfl, ⟨TX3, 3, rfl⟩⟩
set_option maxRecDepth 100000 in
theorem mf_X3_takeCondition : mV yX3_takeCondition cX3_takeCondition 4 (some .boolean) 2 3 := ⟨⟨gin 731 (by decide +kernel) rfl, ⟨by decide +kernel, by decide +kernel, by decide +kernel⟩, by decide, gin 96 (by decide +kernel) rfl⟩, gin 730 (by decide +kernel) rfl, gin 11 (by decide +kernel) rfl, ⟨TX3, 3, rfl⟩⟩
set_option maxRecDepth 100000 in
theorem mf_X3_takeInnerUnit : mV yX3_takeInnerUnit cX3_takeInnerUnit 3 (some .boolean) 2 3 := ⟨⟨gin 743 (by decide +kernel) rfl, ⟨by decide +kernel, by decide +kernel, by decide +kernel⟩, by decide, gin 96 (by decide +kernel) rfl⟩, gin 742 (by decide +kernel) rfl, gin 14 (by decide +kernel) rfl, ⟨TX3, 3, rfl⟩⟩
set_option maxRecDepth 100000 in
theorem mf_X3_takeSum : mV yX3_takeSum cX3_takeSum 4 (some .boolean) 1 3 := ⟨⟨gin 704 (by decide +kernel) rfl, ⟨by decide +kernel, by decide +kernel, by decide +kernel⟩, by decide, gin 96 (by decide +kernel) rfl⟩, gin 703 (by decide +kernel) rfl, gin 7 (by decide +kernel) rfl, ⟨TX3, 3, rfl⟩⟩
set_option maxRecDepth 100000 in
theorem mf_X3_takeTerm : mV yX3_takeTerm cX3_takeTerm 4 (some .boolean) 1 3 := ⟨⟨gin 708 (by decide +kernel) rfl, ⟨by decide +kernel, by decide +kernel, by decide +kernel⟩, by decide, gin 96 (by decide +kernel) rfl⟩, gin 707 (by decide +kernel) rfl, gin 8 (by decide +kernel) rfl, ⟨TX3, 3, rfl⟩⟩
set_option maxRecDepth 100000 in
theorem mf_X3_takeTruth : mV yX3_takeTruth cX3_takeTruth 4 (some .boolean) 2 3 := ⟨⟨gin 735 (by decide +kernel) rfl, ⟨by decide +kernel, by decide +kernel, by decide +kernel⟩, by decide, gin 96 (by decide +kernel) rfl⟩, gin 734 (by decide +kernel) rfl, gin 12 (by decide +kernel) rfl, ⟨TX3, 3, rfl⟩⟩
set_option maxRecDepth 100000 in
theorem mf_X3_takeUnit : mV yX3_takeUnit cX3_takeUnit 5 (some .boolean) 2 3 := ⟨⟨gin 739 (by decide +kernel) rfl, ⟨by decide +kernel, by decide +kernel, by decide +kernel⟩, by decide, gin 96 (by decide +kernel) rfl⟩, gin 738 (by decide +kernel) rfl, gin 13 (by decide +kernel) rfl, ⟨TX3, 3, rfl⟩⟩
set_option maxRecDepth 100000 in
theorem mf_X4_compare : mS yX4_compare cX4_compare 3 (some .boolean) 3 := ⟨⟨gin 967 (by decide +kernel) rfl, ⟨by decide +kernel, by decide +kernel, by decide +kernel⟩, by decide, gin 98 (by decide +kernel) rfl⟩, gin 966 (by decide +kernel) rfl⟩
set_option maxRecDepth 100000 in
theorem mf_X4_hold : mV yX4_hold cX4_hold 2 (some .boolean) 1 4 := ⟨⟨gin 879 (by decide +kernel) rfl, ⟨by decide +kernel, by decide +kernel, by decide +kernel⟩, by decide, gin 98 (by decide +kernel) rfl⟩, gin 877 (by decide +kernel) rfl, gin 878 (by decide +kernel) rfl, ⟨TX4, 8, rfl⟩⟩
set_option maxRecDepth 100000 in
theorem mf_X4_keep : mV yX4_keep cX4_keep 2 (some .int) 1 4 := ⟨⟨gin 815 (by decide +kernel) rfl, ⟨by decide +kernel, by decide +kernel, by decide +kernel⟩, by decide, gin 98 (by decide +kernel) rfl⟩, gin 813 (by decide +kernel) rfl, gin 814 (by decide +kernel) rfl, ⟨TX4, 8, rfl⟩⟩
set_option maxRecDepth 100000 in
theorem mf_X4_pop : mV yX4_pop cX4_pop 1 (some .int) 0 4 := ⟨⟨gin 952 (by decide +kernel) rfl, ⟨by decide +kernel, by decide +kernel, by decide +kernel⟩, by decide, gin 98 (by decide +kernel) rfl⟩, gin 951 (by decide +kernel) rfl, gin 19 (by decide +kernel) rfl, ⟨TX4, 8, rfl⟩⟩
set_option maxRecDepth 100000 in
theorem mf_X4_push : mV yX4_push cX4_push 2 (none) 1 4 := ⟨⟨gin 957 (by decide +kernel) rfl, ⟨by decide +kernel, by decide +kernel, by decide +kernel⟩, by decide, gin 98 (by decide +kernel) rfl⟩, gin 956 (by decide +kernel) rfl, gin 20 (by decide +kernel) rfl, ⟨TX4, 8, rfl⟩⟩
set_option maxRecDepth 100000 in
theorem mf_X4_reckon : mS yX4_reckon cX4_reckon 5 (some .int) 3 := ⟨⟨gin 960 (by decide +kernel) rfl, ⟨by decide +kernel, by decide +kernel, by decide +kernel⟩, by decide, gin 98 (by decide +kernel) rfl⟩, gin 959 (by decide +kernel) rfl⟩
set_option maxRecDepth 100000 in
theorem mf_X4_worthByLaw : mV yX4_worthByLaw cX4_worthByLaw 7 (some .int) 0 4 := ⟨⟨gin 946 (by decide +kernel) rfl, ⟨by decide +kernel, by decide +kernel, by decide +kernel⟩, by decide, gin 98 (by decide +kernel) rfl⟩, gin 945 (by decide +kernel) rfl, gin 18 (by decide +kernel) rfl, ⟨TX4, 8, rfl⟩⟩
set_option maxRecDepth 100000 in
theorem mf_X4_worthOf : mV yX4_worthOf cX4_worthOf 12 (some .int) 6 4 := ⟨⟨gin 935 (by decide +kernel) rfl, ⟨by decide +kernel, by decide +kernel, by decide +kernel⟩, by decide, gin 98 (by decide +kernel) rfl⟩, gin 933 (by decide +kernel) rfl, gin 934 (by decide +kernel) rfl, ⟨TX4, 8, rfl⟩⟩
set_option maxRecDepth 100000 in
theorem mf_X5_bringBack : mV yX5_bringBack cX5_bringBack 2 (some .boolean) 1 5 := ⟨⟨gin 1395 (by decide +kernel) rfl, ⟨by decide +kernel, by decide +kernel, by decide +kernel⟩, by decide, gin 101 (by decide +kernel) rfl⟩, gin 1393 (by decide +kernel) rfl, gin 1394 (by decide +kernel) rfl, ⟨TX5, 7, rfl⟩⟩
set_option maxRecDepth 100000 in
theorem mf_X5_forget : mV yX5_forget cX5_forget 1 (none) 0 5 := ⟨⟨gin 810 (by decide +kernel) rfl, ⟨by decide +kernel, by decide +kernel, by decide +kernel⟩, by decide, gin 101 (by decide +kernel) rfl⟩, gin 808 (by decide +kernel) rfl, gin 809 (by decide +kernel) rfl, ⟨TX5, 7, rfl⟩⟩
set_option maxRecDepth 100000 in
theorem mf_X5_keep : mV yX5_keep cX5_keep 2 (none) 1 5 := ⟨⟨gin 911 (by decide +kernel) rfl, ⟨by decide +kernel, by decide +kernel, by decide +kernel⟩, by decide, gin 101 (by decide +kernel) rfl⟩, gin 909 (by decide +kernel) rfl, gin 910 (by decide +kernel) rfl, ⟨TX5, 7, rfl⟩⟩
set_option maxRecDepth 100000 in
theorem mf_X5_keepImage : mV yX5_keepImage cX5_keepImage 2 (none) 1 5 := ⟨⟨gin 1386 (by decide +kernel) rfl, ⟨by decide +kernel, by decide +kernel, by decide +kernel⟩, by decide, gin 101 (by decide +kernel) rfl⟩, gin 1384 (by decide +kernel) rfl, gin 1385 (by decide +kernel) rfl, ⟨TX5, 7, rfl⟩⟩
set_option maxRecDepth 100000 in
theorem mf_X5_lengthOf : mS yX5_lengthOf cX5_lengthOf 1 (some .int) 1 := ⟨⟨gin 1088 (by decide +kernel) rfl, ⟨by decide +kernel, by decide +kernel, by decide +kernel⟩, by decide, gin 101 (by decide +kernel) rfl⟩, gin 1087 (by decide +kernel) rfl⟩
set_option maxRecDepth 100000 in
theorem mf_X5_logged : mV yX5_logged cX5_logged 4 (some .int) 3 5 := ⟨⟨gin 1085 (by decide +kernel) rfl, ⟨by decide +kernel, by decide +kernel, by decide +kernel⟩, by decide, gin 101 (by decide +kernel) rfl⟩, gin 1083 (by decide +kernel) rfl, gin 1084 (by decide +kernel) rfl, ⟨TX5, 7, rfl⟩⟩
set_option maxRecDepth 100000 in
theorem mf_X5_note : mV yX5_note cX5_note 6 (none) 4 5 := ⟨⟨gin 1050 (by decide +kernel) rfl, ⟨by decide +kernel, by decide +kernel, by decide +kernel⟩, by decide, gin 101 (by decide +kernel) rfl⟩, gin 1048 (by decide +kernel) rfl, gin 1049 (by decide +kernel) rfl, ⟨TX5, 7, rfl⟩⟩
set_option maxRecDepth 100000 in
theorem mf_X5_takeBack : mV yX5_takeBack cX5_takeBack 3 (some .boolean) 1 5 := ⟨⟨gin 1077 (by decide +kernel) rfl, ⟨by decide +kernel, by decide +kernel, by decide +kernel⟩, by decide, gin 101 (by decide +kernel) rfl⟩, gin 1075 (by decide +kernel) rfl, gin 1076 (by decide +kernel) rfl, ⟨TX5, 7, rfl⟩⟩
set_option maxRecDepth 100000 in
theorem mf_X6_calmBehindSet : mV yX6_calmBehindSet cX6_calmBehindSet 8 (some .int) 1 6 := ⟨⟨gin 1280 (by decide +kernel) rfl, ⟨by decide +kernel, by decide +kernel, by decide +kernel⟩, by decide, gin 102 (by decide +kernel) rfl⟩, gin 1279 (by decide +kernel) rfl, gin 31 (by decide +kernel) rfl, ⟨TX6, 9, rfl⟩⟩
set_option maxRecDepth 100000 in
theorem mf_X6_enoughBehind : mV yX6_enoughBehind cX6_enoughBehind 9 (some .boolean) 5 6 := ⟨⟨gin 1292 (by decide +kernel) rfl, ⟨by decide +kernel, by decide +kernel, by decide +kernel⟩, by decide, gin 102 (by decide +kernel) rfl⟩, gin 1290 (by decide +kernel) rfl, gin 1291 (by decide +kernel) rfl, ⟨TX6, 9, rfl⟩⟩
set_option maxRecDepth 100000 in
theorem mf_X6_fairest : mV yX6_fairest cX6_fairest 3 (some .int) 0 6 := ⟨⟨gin 1344 (by decide +kernel) rfl, ⟨by decide +kernel, by decide +kernel, by decide +kernel⟩, by decide, gin 102 (by decide +kernel) rfl⟩, gin 1342 (by decide +kernel) rfl, gin 1343 (by decide +kernel) rfl, ⟨TX6, 9, rfl⟩⟩
set_option maxRecDepth 100000 in
theorem mf_X6_findLeast : mV yX6_findLeast cX6_findLeast 1 (some .boolean) 0 6 := ⟨⟨gin 1165 (by decide +kernel) rfl, ⟨by decide +kernel, by decide +kernel, by decide +kernel⟩, by decide, gin 102 (by decide +kernel) rfl⟩, gin 1163 (by decide +kernel) rfl, gin 1164 (by decide +kernel) rfl, ⟨TX6, 9, rfl⟩⟩
set_option maxRecDepth 100000 in
theorem mf_X6_findRoster : mV yX6_findRoster cX6_findRoster 2 (none) 1 6 := ⟨⟨gin 1202 (by decide +kernel) rfl, ⟨by decide +kernel, by decide +kernel, by decide +kernel⟩, by decide, gin 102 (by decide +kernel) rfl⟩, gin 1200 (by decide +kernel) rfl, gin 1201 (by decide +kernel) rfl, ⟨TX6, 9, rfl⟩⟩
set_option maxRecDepth 100000 in
theorem mf_X6_freshKinds : mV yX6_freshKinds cX6_freshKinds 3 (some .int) 0 6 := ⟨⟨gin 1365 (by decide +kernel) rfl, ⟨by decide +kernel, by decide +kernel, by decide +kernel⟩, by decide, gin 102 (by decide +kernel) rfl⟩, gin 1363 (by decide +kernel) rfl, gin 1364 (by decide +kernel) rfl, ⟨TX6, 9, rfl⟩⟩
set_option maxRecDepth 100000 in
theorem mf_X6_fullest : mV yX6_fullest cX6_fullest 3 (some .int) 0 6 := ⟨⟨gin 1357 (by decide +kernel) rfl, ⟨by decide +kernel, by decide +kernel, by decide +kernel⟩, by decide, gin 102 (by decide +kernel) rfl⟩, gin 1355 (by decide +kernel) rfl, gin 1356 (by decide +kernel) rfl, ⟨TX6, 9, rfl⟩⟩
set_option maxRecDepth 100000 in
theorem mf_X6_gain : mS yX6_gain cX6_gain 3 (some .int) 3 := ⟨⟨gin 1295 (by decide +kernel) rfl, ⟨by decide +kernel, by decide +kernel, by decide +kernel⟩, by decide, gin 102 (by decide +kernel) rfl⟩, gin 1294 (by decide +kernel) rfl⟩
set_option maxRecDepth 100000 in
theorem mf_X6_growRoster : mV yX6_growRoster cX6_growRoster 15 (none) 6 6 := ⟨⟨gin 1206 (by decide +kernel) rfl, ⟨by decide +kernel, by decide +kernel, by decide +kernel⟩, by decide, gin 102 (by decide +kernel) rfl⟩, gin 1205 (by decide +kernel) rfl, gin 27 (by decide +kernel) rfl, ⟨TX6, 9, rfl⟩⟩
set_option maxRecDepth 100000 in
theorem mf_X6_growRow : mV yX6_growRow cX6_growRow 7 (none) 5 6 := ⟨⟨gin 1170 (by decide +kernel) rfl, ⟨by decide +kernel, by decide +kernel, by decide +kernel⟩, by decide, gin 102 (by decide +kernel) rfl⟩, gin 1169 (by decide +kernel) rfl, gin 24 (by decide +kernel) rfl, ⟨TX6, 9, rfl⟩⟩
set_option maxRecDepth 100000 in
theorem mf_X6_growRowBy : mV yX6_growRowBy cX6_growRowBy 17 (none) 6 6 := ⟨⟨gin 1175 (by decide +kernel) rfl, ⟨by decide +kernel, by decide +kernel, by decide +kernel⟩, by decide, gin 102 (by decide +kernel) rfl⟩, gin 1174 (by decide +kernel) rfl, gin 25 (by decide +kernel) rfl, ⟨TX6, 9, rfl⟩⟩
set_option maxRecDepth 100000 in
theorem mf_X6_isEnough : mV yX6_isEnough cX6_isEnough 3 (some .boolean) 2 6 := ⟨⟨gin 1312 (by decide +kernel) rfl, ⟨by decide +kernel, by decide +kernel, by decide +kernel⟩, by decide, gin 102 (by decide +kernel) rfl⟩, gin 1311 (by decide +kernel) rfl, gin 34 (by decide +kernel) rfl, ⟨TX6, 9, rfl⟩⟩
set_option maxRecDepth 100000 in
theorem mf_X6_isRest : mV yX6_isRest cX6_isRest 9 (some .boolean) 3 6 := ⟨⟨gin 1308 (by decide +kernel) rfl, ⟨by decide +kernel, by decide +kernel, by decide +kernel⟩, by decide, gin 102 (by decide +kernel) rfl⟩, gin 1307 (by decide +kernel) rfl, gin 33 (by decide +kernel) rfl, ⟨TX6, 9, rfl⟩⟩
set_option maxRecDepth 100000 in
theorem mf_X6_longest : mV yX6_longest cX6_longest 3 (some .int) 0 6 := ⟨⟨gin 1361 (by decide +kernel) rfl, ⟨by decide +kernel, by decide +kernel, by decide +kernel⟩, by decide, gin 102 (by decide +kernel) rfl⟩, gin 1359 (by decide +kernel) rfl, gin 1360 (by decide +kernel) rfl, ⟨TX6, 9, rfl⟩⟩
set_option maxRecDepth 100000 in
theorem mf_X6_loudest : mV yX6_loudest cX6_loudest 3 (some .int) 0 6 := ⟨⟨gin 1353 (by decide +kernel) rfl, ⟨by decide +kernel, by decide +kernel, by decide +kernel⟩, by decide, gin 102 (by decide +kernel) rfl⟩, gin 1351 (by decide +kernel) rfl, gin 1352 (by decide +kernel) rfl, ⟨TX6, 9, rfl⟩⟩
set_option maxRecDepth 100000 in
theorem mf_X6_nightsToQuiet : mV yX6_nightsToQuiet cX6_nightsToQuiet 3 (some .int) 0 6 := ⟨⟨gin 1336 (by decide +kernel) rfl, ⟨by decide +kernel, by decide +kernel, by decide +kernel⟩, by decide, gin 102 (by decide +kernel) rfl⟩, gin 1334 (by decide +kernel) rfl, gin 1335 (by decide +kernel) rfl, ⟨TX6, 9, rfl⟩⟩
set_option maxRecDepth 100000 in
theorem mf_X6_offerRow : mV yX6_offerRow cX6_offerRow 3 (none) 2 6 := ⟨⟨gin 1188 (by decide +kernel) rfl, ⟨by decide +kernel, by decide +kernel, by decide +kernel⟩, by decide, gin 102 (by decide +kernel) rfl⟩, gin 1187 (by decide +kernel) rfl, gin 26 (by decide +kernel) rfl, ⟨TX6, 9, rfl⟩⟩
set_option maxRecDepth 100000 in
theorem mf_X6_openBooks : mV yX6_openBooks cX6_openBooks 3 (some .int) 0 6 := ⟨⟨gin 1369 (by decide +kernel) rfl, ⟨by decide +kernel, by decide +kernel, by decide +kernel⟩, by decide, gin 102 (by decide +kernel) rfl⟩, gin 1367 (by decide +kernel) rfl, gin 1368 (by decide +kernel) rfl, ⟨TX6, 9, rfl⟩⟩
set_option maxRecDepth 100000 in
theorem mf_X6_readingsOf : mV yX6_readingsOf cX6_readingsOf 8 (some .int) 1 6 := ⟨⟨gin 1327 (by decide +kernel) rfl, ⟨by decide +kernel, by decide +kernel, by decide +kernel⟩, by decide, gin 102 (by decide +kernel) rfl⟩, gin 1325 (by decide +kernel) rfl, gin 1326 (by decide +kernel) rfl, ⟨TX6, 9, rfl⟩⟩
set_option maxRecDepth 100000 in
theorem mf_X6_restsOf : mV yX6_restsOf cX6_restsOf 9 (some .int) 4 6 := ⟨⟨gin 1303 (by decide +kernel) rfl, ⟨by decide +kernel, by decide +kernel, by decide +kernel⟩, by decide, gin 102 (by decide +kernel) rfl⟩, gin 1301 (by decide +kernel) rfl, gin 1302 (by decide +kernel) rfl, ⟨TX6, 9, rfl⟩⟩
set_option maxRecDepth 100000 in
theorem mf_X6_setsFor : mV yX6_setsFor cX6_setsFor 5 (some .int) 2 6 := ⟨⟨gin 1276 (by decide +kernel) rfl, ⟨by decide +kernel, by decide +kernel, by decide +kernel⟩, by decide, gin 102 (by decide +kernel) rfl⟩, gin 1274 (by decide +kernel) rfl, gin 1275 (by decide +kernel) rfl, ⟨TX6, 9, rfl⟩⟩
set_option maxRecDepth 100000 in
theorem mf_X6_strongest : mV yX6_strongest cX6_strongest 3 (some .int) 0 6 := ⟨⟨gin 1348 (by decide +kernel) rfl, ⟨by decide +kernel, by decide +kernel, by decide +kernel⟩, by decide, gin 102 (by decide +kernel) rfl⟩, gin 1346 (by decide +kernel) rfl, gin 1347 (by decide +kernel) rfl, ⟨TX6, 9, rfl⟩⟩
set_option maxRecDepth 100000 in
theorem mf_X7_add : mV yX7_add cX7_add 4 (none) 1 7 := ⟨⟨gin 501 (by decide +kernel) rfl, ⟨by decide +kernel, by decide +kernel, by decide +kernel⟩, by decide, gin 93 (by decide +kernel) rfl⟩, gin 500 (by decide +kernel) rfl, gin 0 (by decide +kernel) rfl, ⟨TX7, 3, rfl⟩⟩
set_option maxRecDepth 100000 in
theorem mf_X7_bytesOf : mS yX7_bytesOf cX7_bytesOf 3 (some .int) 1 := ⟨⟨gin 497 (by decide +kernel) rfl, ⟨by decide +kernel, by decide +kernel, by decide +kernel⟩, by decide, gin 93 (by decide +kernel) rfl⟩, gin 496 (by decide +kernel) rfl⟩
set_option maxRecDepth 100000 in
theorem mf_X7_cutTo : mV yX7_cutTo cX7_cutTo 2 (some .boolean) 1 7 := ⟨⟨gin 509 (by decide +kernel) rfl, ⟨by decide +kernel, by decide +kernel, by decide +kernel⟩, by decide, gin 93 (by decide +kernel) rfl⟩, gin 507 (by decide +kernel) rfl, gin 508 (by decide +kernel) rfl, ⟨TX7, 3, rfl⟩⟩
set_option maxRecDepth 100000 in
theorem mf_X7_isAtEnd : mV yX7_isAtEnd cX7_isAtEnd 1 (some .boolean) 0 7 := ⟨⟨gin 676 (by decide +kernel) rfl, ⟨by decide +kernel, by decide +kernel, by decide +kernel⟩, by decide, gin 93 (by decide +kernel) rfl⟩, gin 674 (by decide +kernel) rfl, gin 675 (by decide +kernel) rfl, ⟨TX7, 3, rfl⟩⟩
set_option maxRecDepth 100000 in
theorem mf_X7_isDigit : mS yX7_isDigit cX7_isDigit 1 (some .boolean) 1 := ⟨⟨gin 662 (by decide +kernel) rfl, ⟨by decide +kernel, by decide +kernel, by decide +kernel⟩, by decide, gin 93 (by decide +kernel) rfl⟩, gin 661 (by decide +kernel) rfl⟩
set_option maxRecDepth 100000 in
theorem mf_X7_sign : mV yX7_sign cX7_sign 2 (some .char) 0 7 := ⟨⟨gin 555 (by decide +kernel) rfl, ⟨by decide +kernel, by decide +kernel, by decide +kernel⟩, by decide, gin 93 (by decide +kernel) rfl⟩, gin 553 (by decide +kernel) rfl, gin 554 (by decide +kernel) rfl, ⟨TX7, 3, rfl⟩⟩
set_option maxRecDepth 100000 in
theorem mf_X7_take : mV yX7_take cX7_take 2 (some .boolean) 1 7 := ⟨⟨gin 688 (by decide +kernel) rfl, ⟨by decide +kernel, by decide +kernel, by decide +kernel⟩, by decide, gin 93 (by decide +kernel) rfl⟩, gin 686 (by decide +kernel) rfl, gin 687 (by decide +kernel) rfl, ⟨TX7, 3, rfl⟩⟩
set_option maxRecDepth 100000 in
theorem mf_X7_takeDigit : mV yX7_takeDigit cX7_takeDigit 2 (some .int) 0 7 := ⟨⟨gin 761 (by decide +kernel) rfl, ⟨by decide +kernel, by decide +kernel, by decide +kernel⟩, by decide, gin 93 (by decide +kernel) rfl⟩, gin 759 (by decide +kernel) rfl, gin 760 (by decide +kernel) rfl, ⟨TX7, 3, rfl⟩⟩
set_option maxRecDepth 100000 in
theorem mf_X7_takeNumber : mV yX7_takeNumber cX7_takeNumber 4 (some .int) 1 7 := ⟨⟨gin 658 (by decide +kernel) rfl, ⟨by decide +kernel, by decide +kernel, by decide +kernel⟩, by decide, gin 93 (by decide +kernel) rfl⟩, gin 656 (by decide +kernel) rfl, gin 657 (by decide +kernel) rfl, ⟨TX7, 3, rfl⟩⟩
set_option maxRecDepth 100000 in
theorem mf_X7_takeOneOf : mV yX7_takeOneOf cX7_takeOneOf 3 (some .int) 1 7 := ⟨⟨gin 717 (by decide +kernel) rfl, ⟨by decide +kernel, by decide +kernel, by decide +kernel⟩, by decide, gin 93 (by decide +kernel) rfl⟩, gin 715 (by decide +kernel) rfl, gin 716 (by decide +kernel) rfl, ⟨TX7, 3, rfl⟩⟩
set_option maxRecDepth 100000 in
theorem mf_X7_takesIn : mV yX7_takesIn cX7_takesIn 6 (some .boolean) 5 7 := ⟨⟨gin 494 (by decide +kernel) rfl, ⟨by decide +kernel, by decide +kernel, by decide +kernel⟩, by decide, gin 93 (by decide +kernel) rfl⟩, gin 492 (by decide +kernel) rfl, gin 493 (by decide +kernel) rfl, ⟨TX7, 3, rfl⟩⟩
set_option maxRecDepth 100000 in
theorem mf_X7_touching : mV yX7_touching cX7_touching 1 (some .char) 0 7 := ⟨⟨gin 666 (by decide +kernel) rfl, ⟨by decide +kernel, by decide +kernel, by decide +kernel⟩, by decide, gin 93 (by decide +kernel) rfl⟩, gin 665 (by decide +kernel) rfl, gin 5 (by decide +kernel) rfl, ⟨TX7, 3, rfl⟩⟩
set_option maxRecDepth 100000 in
theorem mf_X8_apartBy : mV yX8_apartBy cX8_apartBy 10 (some .int) 4 8 := ⟨⟨gin 1264 (by decide +kernel) rfl, ⟨by decide +kernel, by decide +kernel, by decide +kernel⟩, by decide, gin 103 (by decide +kernel) rfl⟩, gin 1263 (by decide +kernel) rfl, gin 30 (by decide +kernel) rfl, ⟨TX8, 5, rfl⟩⟩
set_option maxRecDepth 100000 in
theorem mf_X8_bookToTry : mV yX8_bookToTry cX8_bookToTry 8 (some .int) 2 8 := ⟨⟨gin 1259 (by decide +kernel) rfl, ⟨by decide +kernel, by decide +kernel, by decide +kernel⟩, by decide, gin 103 (by decide +kernel) rfl⟩, gin 1257 (by decide +kernel) rfl, gin 1258 (by decide +kernel) rfl, ⟨TX8, 5, rfl⟩⟩
set_option maxRecDepth 100000 in
theorem mf_X8_calmBy : mV yX8_calmBy cX8_calmBy 10 (some .int) 4 8 := ⟨⟨gin 1244 (by decide +kernel) rfl, ⟨by decide +kernel, by decide +kernel, by decide +kernel⟩, by decide, gin 103 (by decide +kernel) rfl⟩, gin 1243 (by decide +kernel) rfl, gin 29 (by decide +kernel) rfl, ⟨TX8, 5, rfl⟩⟩
set_option maxRecDepth 100000 in
theorem mf_X8_fits : mV yX8_fits cX8_fits 5 (some .boolean) 1 8 := ⟨⟨gin 1239 (by decide +kernel) rfl, ⟨by decide +kernel, by decide +kernel, by decide +kernel⟩, by decide, gin 103 (by decide +kernel) rfl⟩, gin 1238 (by decide +kernel) rfl, gin 28 (by decide +kernel) rfl, ⟨TX8, 5, rfl⟩⟩
set_option maxRecDepth 100000 in
theorem mf_X8_liked : mV yX8_liked cX8_liked 7 (some .int) 1 8 := ⟨⟨gin 1233 (by decide +kernel) rfl, ⟨by decide +kernel, by decide +kernel, by decide +kernel⟩, by decide, gin 103 (by decide +kernel) rfl⟩, gin 1231 (by decide +kernel) rfl, gin 1232 (by decide +kernel) rfl, ⟨TX8, 5, rfl⟩⟩
set_option maxRecDepth 100000 in
theorem mf_X8_note : mV yX8_note cX8_note 7 (some .boolean) 5 8 := ⟨⟨gin 1224 (by decide +kernel) rfl, ⟨by decide +kernel, by decide +kernel, by decide +kernel⟩, by decide, gin 103 (by decide +kernel) rfl⟩, gin 1222 (by decide +kernel) rfl, gin 1223 (by decide +kernel) rfl, ⟨TX8, 5, rfl⟩⟩
set_option maxRecDepth 100000 in
theorem mf_X9_bore : mS yX9_bore cX9_bore 2 (none) 2 := ⟨⟨gin 975 (by decide +kernel) rfl, ⟨by decide +kernel, by decide +kernel, by decide +kernel⟩, by decide, gin 99 (by decide +kernel) rfl⟩, gin 974 (by decide +kernel) rfl⟩
set_option maxRecDepth 100000 in
theorem mf_X9_calmBehind : mV yX9_calmBehind cX9_calmBehind 11 (some .int) 7 9 := ⟨⟨gin 930 (by decide +kernel) rfl, ⟨by decide +kernel, by decide +kernel, by decide +kernel⟩, by decide, gin 99 (by decide +kernel) rfl⟩, gin 928 (by decide +kernel) rfl, gin 929 (by decide +kernel) rfl, ⟨TX9, 2, rfl⟩⟩
set_option maxRecDepth 100000 in
theorem mf_X9_calmBehindNight : mV yX9_calmBehindNight cX9_calmBehindNight 3 (some .int) 1 9 := ⟨⟨gin 1039 (by decide +kernel) rfl, ⟨by decide +kernel, by decide +kernel, by decide +kernel⟩, by decide, gin 99 (by decide +kernel) rfl⟩, gin 1037 (by decide +kernel) rfl, gin 1038 (by decide +kernel) rfl, ⟨TX9, 2, rfl⟩⟩
set_option maxRecDepth 100000 in
theorem mf_X9_calmNow : mV yX9_calmNow cX9_calmNow 6 (some .int) 3 9 := ⟨⟨gin 925 (by decide +kernel) rfl, ⟨by decide +kernel, by decide +kernel, by decide +kernel⟩, by decide, gin 99 (by decide +kernel) rfl⟩, gin 923 (by decide +kernel) rfl, gin 924 (by decide +kernel) rfl, ⟨TX9, 2, rfl⟩⟩
set_option maxRecDepth 100000 in
theorem mf_X9_canDrink : mV yX9_canDrink cX9_canDrink 2 (some .boolean) 1 9 := ⟨⟨gin 987 (by decide +kernel) rfl, ⟨by decide +kernel, by decide +kernel, by decide +kernel⟩, by decide, gin 99 (by decide +kernel) rfl⟩, gin 985 (by decide +kernel) rfl, gin 986 (by decide +kernel) rfl, ⟨TX9, 2, rfl⟩⟩
set_option maxRecDepth 100000 in
theorem mf_X9_canGo : mV yX9_canGo cX9_canGo 3 (some .boolean) 2 9 := ⟨⟨gin 1000 (by decide +kernel) rfl, ⟨by decide +kernel, by decide +kernel, by decide +kernel⟩, by decide, gin 99 (by decide +kernel) rfl⟩, gin 998 (by decide +kernel) rfl, gin 999 (by decide +kernel) rfl, ⟨TX9, 2, rfl⟩⟩
set_option maxRecDepth 100000 in
theorem mf_X9_canPass : mV yX9_canPass cX9_canPass 2 (some .boolean) 1 9 := ⟨⟨gin 1022 (by decide +kernel) rfl, ⟨by decide +kernel, by decide +kernel, by decide +kernel⟩, by decide, gin 99 (by decide +kernel) rfl⟩, gin 1020 (by decide +kernel) rfl, gin 1021 (by decide +kernel) rfl, ⟨TX9, 2, rfl⟩⟩
set_option maxRecDepth 100000 in
theorem mf_X9_canRead : mV yX9_canRead cX9_canRead 5 (some .boolean) 4 9 := ⟨⟨gin 891 (by decide +kernel) rfl, ⟨by decide +kernel, by decide +kernel, by decide +kernel⟩, by decide, gin 99 (by decide +kernel) rfl⟩, gin 889 (by decide +kernel) rfl, gin 890 (by decide +kernel) rfl, ⟨TX9, 2, rfl⟩⟩
set_option maxRecDepth 100000 in
theorem mf_X9_canStep : mV yX9_canStep cX9_canStep 5 (some .boolean) 2 9 := ⟨⟨gin 1132 (by decide +kernel) rfl, ⟨by decide +kernel, by decide +kernel, by decide +kernel⟩, by decide, gin 99 (by decide +kernel) rfl⟩, gin 1130 (by decide +kernel) rfl, gin 1131 (by decide +kernel) rfl, ⟨TX9, 2, rfl⟩⟩
set_option maxRecDepth 100000 in
theorem mf_X9_doRead : mV yX9_doRead cX9_doRead 7 (none) 4 9 := ⟨⟨gin 921 (by decide +kernel) rfl, ⟨by decide +kernel, by decide +kernel, by decide +kernel⟩, by decide, gin 99 (by decide +kernel) rfl⟩, gin 919 (by decide +kernel) rfl, gin 920 (by decide +kernel) rfl, ⟨TX9, 2, rfl⟩⟩
set_option maxRecDepth 100000 in
theorem mf_X9_doStep : mV yX9_doStep cX9_doStep 5 (some .int) 2 9 := ⟨⟨gin 1142 (by decide +kernel) rfl, ⟨by decide +kernel, by decide +kernel, by decide +kernel⟩, by decide, gin 99 (by decide +kernel) rfl⟩, gin 1140 (by decide +kernel) rfl, gin 1141 (by decide +kernel) rfl, ⟨TX9, 2, rfl⟩⟩
set_option maxRecDepth 100000 in
theorem mf_X9_drink : mV yX9_drink cX9_drink 2 (none) 1 9 := ⟨⟨gin 992 (by decide +kernel) rfl, ⟨by decide +kernel, by decide +kernel, by decide +kernel⟩, by decide, gin 99 (by decide +kernel) rfl⟩, gin 990 (by decide +kernel) rfl, gin 991 (by decide +kernel) rfl, ⟨TX9, 2, rfl⟩⟩
set_option maxRecDepth 100000 in
theorem mf_X9_go : mV yX9_go cX9_go 3 (none) 2 9 := ⟨⟨gin 1008 (by decide +kernel) rfl, ⟨by decide +kernel, by decide +kernel, by decide +kernel⟩, by decide, gin 99 (by decide +kernel) rfl⟩, gin 1006 (by decide +kernel) rfl, gin 1007 (by decide +kernel) rfl, ⟨TX9, 2, rfl⟩⟩
set_option maxRecDepth 100000 in
theorem mf_X9_hasPages : mV yX9_hasPages cX9_hasPages 3 (some .boolean) 2 9 := ⟨⟨gin 895 (by decide +kernel) rfl, ⟨by decide +kernel, by decide +kernel, by decide +kernel⟩, by decide, gin 99 (by decide +kernel) rfl⟩, gin 893 (by decide +kernel) rfl, gin 894 (by decide +kernel) rfl, ⟨TX9, 2, rfl⟩⟩
set_option maxRecDepth 100000 in
theorem mf_X9_leftOf : mV yX9_leftOf cX9_leftOf 3 (some .int) 2 9 := ⟨⟨gin 902 (by decide +kernel) rfl, ⟨by decide +kernel, by decide +kernel, by decide +kernel⟩, by decide, gin 99 (by decide +kernel) rfl⟩, gin 900 (by decide +kernel) rfl, gin 901 (by decide +kernel) rfl, ⟨TX9, 2, rfl⟩⟩
set_option maxRecDepth 100000 in
theorem mf_X9_moreBored : mS yX9_moreBored cX9_moreBored 1 (some .int) 1 := ⟨⟨gin 978 (by decide +kernel) rfl, ⟨by decide +kernel, by decide +kernel, by decide +kernel⟩, by decide, gin 99 (by decide +kernel) rfl⟩, gin 977 (by decide +kernel) rfl⟩
set_option maxRecDepth 100000 in
theorem mf_X9_pass : mV yX9_pass cX9_pass 4 (some .int) 1 9 := ⟨⟨gin 1030 (by decide +kernel) rfl, ⟨by decide +kernel, by decide +kernel, by decide +kernel⟩, by decide, gin 99 (by decide +kernel) rfl⟩, gin 1028 (by decide +kernel) rfl, gin 1029 (by decide +kernel) rfl, ⟨TX9, 2, rfl⟩⟩
set_option maxRecDepth 100000 in
theorem mf_X9_restedFrom : mS yX9_restedFrom cX9_restedFrom 2 (some .int) 2 := ⟨⟨gin 1210 (by decide +kernel) rfl, ⟨by decide +kernel, by decide +kernel, by decide +kernel⟩, by decide, gin 99 (by decide +kernel) rfl⟩, gin 1209 (by decide +kernel) rfl⟩
set_option maxRecDepth 100000 in
theorem mf_X9_worthOf : mV yX9_worthOf cX9_worthOf 7 (some .int) 6 9 := ⟨⟨gin 1249 (by decide +kernel) rfl, ⟨by decide +kernel, by decide +kernel, by decide +kernel⟩, by decide, gin 99 (by decide +kernel) rfl⟩, gin 1247 (by decide +kernel) rfl, gin 1248 (by decide +kernel) rfl, ⟨TX9, 2, rfl⟩⟩
set_option maxRecDepth 100000 in
theorem kc_J6_265 : Cond.constant RJ6 265 (1431655765) ∈ gtbl := gin 2019 (by decide +kernel) rfl
set_option maxRecDepth 100000 in
theorem kc_J6_266 : Cond.constant RJ6 266 (858993459) ∈ gtbl := gin 2020 (by decide +kernel) rfl
set_option maxRecDepth 100000 in
theorem kc_J6_267 : Cond.constant RJ6 267 (252645135) ∈ gtbl := gin 2021 (by decide +kernel) rfl
set_option maxRecDepth 100000 in
theorem kc_X11_261 : Cond.constant RX11 261 (-1000000) ∈ gtbl := gin 1106 (by decide +kernel) rfl
set_option maxRecDepth 100000 in
theorem kc_X11_345 : Cond.constant RX11 345 (1000000) ∈ gtbl := gin 1318 (by decide +kernel) rfl
set_option maxRecDepth 100000 in
theorem kc_X11_434 : Cond.constantLong RX11 434 (6364136223846793005) ∈ gtbl := gin 1068 (by decide +kernel) rfl
set_option maxRecDepth 100000 in
theorem kc_X11_436 : Cond.constantLong RX11 436 (1442695040888963407) ∈ gtbl := gin 1069 (by decide +kernel) rfl
set_option maxRecDepth 100000 in
theorem kc_X12_138 : Cond.constantLong RX12 138 (-1000000) ∈ gtbl := gin 1789 (by decide +kernel) rfl
set_option maxRecDepth 100000 in
theorem kc_X12_140 : Cond.constantLong RX12 140 (1000000) ∈ gtbl := gin 1790 (by decide +kernel) rfl
set_option maxRecDepth 100000 in
theorem kc_X12_269 : Cond.constantLong RX12 269 (2) ∈ gtbl := gin 1664 (by decide +kernel) rfl
set_option maxRecDepth 100000 in
theorem kc_X12_303 : Cond.constantLong RX12 303 (10) ∈ gtbl := gin 1897 (by decide +kernel) rfl
set_option maxRecDepth 100000 in
theorem kc_X12_305 : Cond.constantLong RX12 305 (100) ∈ gtbl := gin 1898 (by decide +kernel) rfl
set_option maxRecDepth 100000 in
theorem kc_X12_307 : Cond.constantLong RX12 307 (100000) ∈ gtbl := gin 1899 (by decide +kernel) rfl
set_option maxRecDepth 100000 in
theorem kc_X12_309 : Cond.constantLong RX12 309 (8191) ∈ gtbl := gin 1900 (by decide +kernel) rfl
set_option maxRecDepth 100000 in
theorem kc_X12_346 : Cond.constantLong RX12 346 (3) ∈ gtbl := gin 1834 (by decide +kernel) rfl
set_option maxRecDepth 100000 in
theorem kc_X12_348 : Cond.constantLong RX12 348 (4) ∈ gtbl := gin 1843 (by decide +kernel) rfl
set_option maxRecDepth 100000 in
theorem kc_X12_350 : Cond.constantLong RX12 350 (9) ∈ gtbl := gin 1860 (by decide +kernel) rfl
set_option maxRecDepth 100000 in
theorem kc_X12_385 : Cond.constantLong RX12 385 (6364136223846793005) ∈ gtbl := gin 1954 (by decide +kernel) rfl
set_option maxRecDepth 100000 in
theorem kc_X12_387 : Cond.constantLong RX12 387 (1442695040888963407) ∈ gtbl := gin 1955 (by decide +kernel) rfl
set_option maxRecDepth 100000 in
theorem kc_X12_392 : Cond.constantLong RX12 392 (30) ∈ gtbl := gin 1945 (by decide +kernel) rfl
set_option maxRecDepth 100000 in
theorem kc_X12_400 : Cond.constant RX12 400 (-1000000) ∈ gtbl := gin 1972 (by decide +kernel) rfl
set_option maxRecDepth 100000 in
theorem kc_X12_437 : Cond.constantLong RX12 437 (99) ∈ gtbl := gin 2026 (by decide +kernel) rfl
set_option maxRecDepth 100000 in
theorem kc_X12_466 : Cond.constant RX12 466 (1000000) ∈ gtbl := gin 2079 (by decide +kernel) rfl
set_option maxRecDepth 100000 in
theorem kc_X12_467 : Cond.constantLong RX12 467 (7) ∈ gtbl := gin 2092 (by decide +kernel) rfl
set_option maxRecDepth 100000 in
theorem kc_X4_100 : Cond.constant RX4 100 (1000000) ∈ gtbl := gin 962 (by decide +kernel) rfl
set_option maxRecDepth 100000 in
theorem kc_X4_101 : Cond.constantLong RX4 101 (-1000000) ∈ gtbl := gin 963 (by decide +kernel) rfl
set_option maxRecDepth 100000 in
theorem kc_X4_103 : Cond.constant RX4 103 (-1000000) ∈ gtbl := gin 964 (by decide +kernel) rfl
set_option maxRecDepth 100000 in
theorem kc_X4_54 : Cond.constantLong RX4 54 (10) ∈ gtbl := gin 939 (by decide +kernel) rfl
set_option maxRecDepth 100000 in
theorem kc_X4_56 : Cond.constantLong RX4 56 (64) ∈ gtbl := gin 940 (by decide +kernel) rfl
set_option maxRecDepth 100000 in
theorem kc_X4_58 : Cond.constantLong RX4 58 (16384) ∈ gtbl := gin 941 (by decide +kernel) rfl
set_option maxRecDepth 100000 in
theorem kc_X4_60 : Cond.constantLong RX4 60 (-7046029254386353131) ∈ gtbl := gin 942 (by decide +kernel) rfl
set_option maxRecDepth 100000 in
theorem kc_X4_66 : Cond.constantLong RX4 66 (31) ∈ gtbl := gin 968 (by decide +kernel) rfl
set_option maxRecDepth 100000 in
theorem kc_X4_98 : Cond.constantLong RX4 98 (1000000) ∈ gtbl := gin 961 (by decide +kernel) rfl
set_option maxRecDepth 100000 in
theorem ml_X0_24 : Cond.methodLink RX0 24 yX1_firstVoiceOf ∈ gtbl := gin 789 (by decide +kernel) rfl
set_option maxRecDepth 100000 in
theorem ml_X0_30 : (RX0, 30, yX11_put, "MonsterCot") ∈ nsT := List.mem_of_getElem? (i := 13) (by decide +kernel)
set_option maxRecDepth 100000 in
theorem ml_X0_34 : Cond.methodLink RX0 34 yJ7_fill_53178 ∈ gtbl := gin 798 (by decide +kernel) rfl
set_option maxRecDepth 100000 in
theorem ml_X0_40 : Cond.methodLink RX0 40 yX1_calmAtFirst ∈ gtbl := gin 799 (by decide +kernel) rfl
set_option maxRecDepth 100000 in
theorem ml_X0_63 : Cond.methodLink RX0 63 yX0_forgetEvening ∈ gtbl := gin 803 (by decide +kernel) rfl
set_option maxRecDepth 100000 in
theorem ml_X0_76 : (RX0, 76, yX11_copy, "MonsterCot") ∈ nsT := List.mem_of_getElem? (i := 17) (by decide +kernel)
set_option maxRecDepth 100000 in
theorem ml_X10_31 : Cond.methodLink RX10 31 yX10_takeStep ∈ gtbl := gin 749 (by decide +kernel) rfl
set_option maxRecDepth 100000 in
theorem ml_X10_35 : Cond.methodLink RX10 35 yX7_isAtEnd ∈ gtbl := gin 763 (by decide +kernel) rfl
set_option maxRecDepth 100000 in
theorem ml_X10_42 : Cond.methodLink RX10 42 yX7_take ∈ gtbl := gin 764 (by decide +kernel) rfl
set_option maxRecDepth 100000 in
theorem ml_X10_48 : Cond.methodLink RX10 48 yX7_takeOneOf ∈ gtbl := gin 754 (by decide +kernel) rfl
set_option maxRecDepth 100000 in
theorem ml_X10_55 : (RX10, 55, yX11_at, "MonsterCot") ∈ nsT := List.mem_of_getElem? (i := 10) (by decide +kernel)
set_option maxRecDepth 100000 in
theorem ml_X10_59 : Cond.methodLink RX10 59 yX7_takeDigit ∈ gtbl := gin 758 (by decide +kernel) rfl
set_option maxRecDepth 100000 in
theorem ml_X10_63 : (RX10, 63, yX11_put, "MonsterCot") ∈ nsT := List.mem_of_getElem? (i := 11) (by decide +kernel)
set_option maxRecDepth 100000 in
theorem ml_X10_70 : Cond.methodLink RX10 70 yX10_has ∈ gtbl := gin 1098 (by decide +kernel) rfl
set_option maxRecDepth 100000 in
theorem ml_X10_73 : Cond.methodLink RX10 73 yX10_sizeOf ∈ gtbl := gin 1102 (by decide +kernel) rfl
set_option maxRecDepth 100000 in
theorem ml_X10_77 : Cond.methodLink RX10 77 yX10_hasStep ∈ gtbl := gin 1111 (by decide +kernel) rfl
set_option maxRecDepth 100000 in
theorem ml_X10_81 : Cond.methodLink RX10 81 yX10_sortOf ∈ gtbl := gin 1118 (by decide +kernel) rfl
set_option maxRecDepth 100000 in
theorem ml_X11_103 : Cond.methodLink RX11 103 yX7_cutTo ∈ gtbl := gin 506 (by decide +kernel) rfl
set_option maxRecDepth 100000 in
theorem ml_X11_107 : Cond.methodLink RX11 107 yX11_isRight ∈ gtbl := gin 514 (by decide +kernel) rfl
set_option maxRecDepth 100000 in
theorem ml_X11_113 : Cond.methodLink RX11 113 yX11_moveIn ∈ gtbl := gin 770 (by decide +kernel) rfl
set_option maxRecDepth 100000 in
theorem ml_X11_117 : Cond.methodLink RX11 117 yX4_keep ∈ gtbl := gin 812 (by decide +kernel) rfl
set_option maxRecDepth 100000 in
theorem ml_X11_121 : Cond.methodLink RX11 121 yX10_keepDraft ∈ gtbl := gin 818 (by decide +kernel) rfl
set_option maxRecDepth 100000 in
theorem ml_X11_124 : Cond.methodLink RX11 124 yX1_stands ∈ gtbl := gin 826 (by decide +kernel) rfl
set_option maxRecDepth 100000 in
theorem ml_X11_131 : Cond.methodLink RX11 131 yX1_enough ∈ gtbl := gin 831 (by decide +kernel) rfl
set_option maxRecDepth 100000 in
theorem ml_X11_134 : Cond.methodLink RX11 134 yX1_loses ∈ gtbl := gin 835 (by decide +kernel) rfl
set_option maxRecDepth 100000 in
theorem ml_X11_137 : Cond.methodLink RX11 137 yX1_hasBook ∈ gtbl := gin 843 (by decide +kernel) rfl
set_option maxRecDepth 100000 in
theorem ml_X11_140 : Cond.methodLink RX11 140 yX1_pagesOf ∈ gtbl := gin 848 (by decide +kernel) rfl
set_option maxRecDepth 100000 in
theorem ml_X11_144 : Cond.methodLink RX11 144 yX1_calmingOf ∈ gtbl := gin 852 (by decide +kernel) rfl
set_option maxRecDepth 100000 in
theorem ml_X11_147 : Cond.methodLink RX11 147 yX1_kindOf ∈ gtbl := gin 856 (by decide +kernel) rfl
set_option maxRecDepth 100000 in
theorem ml_X11_150 : Cond.methodLink RX11 150 yX0_wasRead ∈ gtbl := gin 860 (by decide +kernel) rfl
set_option maxRecDepth 100000 in
theorem ml_X11_153 : Cond.methodLink RX11 153 yX1_hasHouse ∈ gtbl := gin 1013 (by decide +kernel) rfl
set_option maxRecDepth 100000 in
theorem ml_X11_163 : Cond.methodLink RX11 163 yX1_childrenOf ∈ gtbl := gin 1319 (by decide +kernel) rfl
set_option maxRecDepth 100000 in
theorem ml_X11_173 : Cond.methodLink RX11 173 yX11_at ∈ gtbl := gin 871 (by decide +kernel) rfl
set_option maxRecDepth 100000 in
theorem ml_X11_183 : Cond.methodLink RX11 183 yX11_isKind ∈ gtbl := gin 868 (by decide +kernel) rfl
set_option maxRecDepth 100000 in
theorem ml_X11_189 : Cond.methodLink RX11 189 yX4_hold ∈ gtbl := gin 876 (by decide +kernel) rfl
set_option maxRecDepth 100000 in
theorem ml_X11_195 : Cond.methodLink RX11 195 yX9_canRead ∈ gtbl := gin 888 (by decide +kernel) rfl
set_option maxRecDepth 100000 in
theorem ml_X11_199 : Cond.methodLink RX11 199 yX5_keep ∈ gtbl := gin 908 (by decide +kernel) rfl
set_option maxRecDepth 100000 in
theorem ml_X11_202 : Cond.methodLink RX11 202 yX9_doRead ∈ gtbl := gin 918 (by decide +kernel) rfl
set_option maxRecDepth 100000 in
theorem ml_X11_206 : Cond.methodLink RX11 206 yX9_canDrink ∈ gtbl := gin 984 (by decide +kernel) rfl
set_option maxRecDepth 100000 in
theorem ml_X11_210 : Cond.methodLink RX11 210 yX9_drink ∈ gtbl := gin 989 (by decide +kernel) rfl
set_option maxRecDepth 100000 in
theorem ml_X11_213 : Cond.methodLink RX11 213 yX9_canGo ∈ gtbl := gin 997 (by decide +kernel) rfl
set_option maxRecDepth 100000 in
theorem ml_X11_217 : Cond.methodLink RX11 217 yX9_go ∈ gtbl := gin 1005 (by decide +kernel) rfl
set_option maxRecDepth 100000 in
theorem ml_X11_224 : Cond.methodLink RX11 224 yX11_put ∈ gtbl := gin 1014 (by decide +kernel) rfl
set_option maxRecDepth 100000 in
theorem ml_X11_228 : Cond.methodLink RX11 228 yX9_canPass ∈ gtbl := gin 1019 (by decide +kernel) rfl
set_option maxRecDepth 100000 in
theorem ml_X11_231 : Cond.methodLink RX11 231 yX11_passLoggedNight ∈ gtbl := gin 1023 (by decide +kernel) rfl
set_option maxRecDepth 100000 in
theorem ml_X11_241 : Cond.methodLink RX11 241 yX11_readByDraw ∈ gtbl := gin 1059 (by decide +kernel) rfl
set_option maxRecDepth 100000 in
theorem ml_X11_244 : Cond.methodLink RX11 244 yX11_draw ∈ gtbl := gin 1064 (by decide +kernel) rfl
set_option maxRecDepth 100000 in
theorem ml_X11_247 : Cond.methodLink RX11 247 yX5_takeBack ∈ gtbl := gin 1074 (by decide +kernel) rfl
set_option maxRecDepth 100000 in
theorem ml_X11_253 : Cond.methodLink RX11 253 yX5_logged ∈ gtbl := gin 1082 (by decide +kernel) rfl
set_option maxRecDepth 100000 in
theorem ml_X11_257 : Cond.methodLink RX11 257 yX10_hasStep ∈ gtbl := gin 1094 (by decide +kernel) rfl
set_option maxRecDepth 100000 in
theorem ml_X11_262 : Cond.methodLink RX11 262 yX10_stepOf ∈ gtbl := gin 1107 (by decide +kernel) rfl
set_option maxRecDepth 100000 in
theorem ml_X11_266 : Cond.methodLink RX11 266 yX10_sortOf ∈ gtbl := gin 1112 (by decide +kernel) rfl
set_option maxRecDepth 100000 in
theorem ml_X11_269 : Cond.methodLink RX11 269 yX10_hasDigit ∈ gtbl := gin 1115 (by decide +kernel) rfl
set_option maxRecDepth 100000 in
theorem ml_X11_272 : Cond.methodLink RX11 272 yX10_digitOf ∈ gtbl := gin 1119 (by decide +kernel) rfl
set_option maxRecDepth 100000 in
theorem ml_X11_275 : Cond.methodLink RX11 275 yX10_has ∈ gtbl := gin 1126 (by decide +kernel) rfl
set_option maxRecDepth 100000 in
theorem ml_X11_278 : Cond.methodLink RX11 278 yX0_copyFrom ∈ gtbl := gin 1127 (by decide +kernel) rfl
set_option maxRecDepth 100000 in
theorem ml_X11_281 : Cond.methodLink RX11 281 yX10_sizeOf ∈ gtbl := gin 1128 (by decide +kernel) rfl
set_option maxRecDepth 100000 in
theorem ml_X11_284 : Cond.methodLink RX11 284 yX9_canStep ∈ gtbl := gin 1129 (by decide +kernel) rfl
set_option maxRecDepth 100000 in
theorem ml_X11_287 : Cond.methodLink RX11 287 yX9_doStep ∈ gtbl := gin 1139 (by decide +kernel) rfl
set_option maxRecDepth 100000 in
theorem ml_X11_291 : Cond.methodLink RX11 291 yX9_hasPages ∈ gtbl := gin 1155 (by decide +kernel) rfl
set_option maxRecDepth 100000 in
theorem ml_X11_294 : Cond.methodLink RX11 294 yX9_leftOf ∈ gtbl := gin 1156 (by decide +kernel) rfl
set_option maxRecDepth 100000 in
theorem ml_X11_297 : Cond.methodLink RX11 297 yX9_calmNow ∈ gtbl := gin 1157 (by decide +kernel) rfl
set_option maxRecDepth 100000 in
theorem ml_X11_300 : Cond.methodLink RX11 300 yX6_findLeast ∈ gtbl := gin 1162 (by decide +kernel) rfl
set_option maxRecDepth 100000 in
theorem ml_X11_309 : Cond.methodLink RX11 309 yX1_books ∈ gtbl := gin 1063 (by decide +kernel) rfl
set_option maxRecDepth 100000 in
theorem ml_X11_312 : Cond.methodLink RX11 312 yX6_findRoster ∈ gtbl := gin 1199 (by decide +kernel) rfl
set_option maxRecDepth 100000 in
theorem ml_X11_316 : Cond.methodLink RX11 316 yX8_note ∈ gtbl := gin 1221 (by decide +kernel) rfl
set_option maxRecDepth 100000 in
theorem ml_X11_321 : Cond.methodLink RX11 321 yX8_liked ∈ gtbl := gin 1230 (by decide +kernel) rfl
set_option maxRecDepth 100000 in
theorem ml_X11_324 : Cond.methodLink RX11 324 yX8_bookToTry ∈ gtbl := gin 1256 (by decide +kernel) rfl
set_option maxRecDepth 100000 in
theorem ml_X11_327 : Cond.methodLink RX11 327 yX6_setsFor ∈ gtbl := gin 1273 (by decide +kernel) rfl
set_option maxRecDepth 100000 in
theorem ml_X11_330 : Cond.methodLink RX11 330 yX11_canPlay ∈ gtbl := gin 1285 (by decide +kernel) rfl
set_option maxRecDepth 100000 in
theorem ml_X11_334 : Cond.methodLink RX11 334 yX6_enoughBehind ∈ gtbl := gin 1289 (by decide +kernel) rfl
set_option maxRecDepth 100000 in
theorem ml_X11_337 : Cond.methodLink RX11 337 yX6_gain ∈ gtbl := gin 1293 (by decide +kernel) rfl
set_option maxRecDepth 100000 in
theorem ml_X11_341 : Cond.methodLink RX11 341 yX6_restsOf ∈ gtbl := gin 1300 (by decide +kernel) rfl
set_option maxRecDepth 100000 in
theorem ml_X11_346 : Cond.methodLink RX11 346 yX6_readingsOf ∈ gtbl := gin 1324 (by decide +kernel) rfl
set_option maxRecDepth 100000 in
theorem ml_X11_349 : Cond.methodLink RX11 349 yX6_nightsToQuiet ∈ gtbl := gin 1333 (by decide +kernel) rfl
set_option maxRecDepth 100000 in
theorem ml_X11_352 : Cond.methodLink RX11 352 yX6_fairest ∈ gtbl := gin 1341 (by decide +kernel) rfl
set_option maxRecDepth 100000 in
theorem ml_X11_355 : Cond.methodLink RX11 355 yX6_strongest ∈ gtbl := gin 1345 (by decide +kernel) rfl
set_option maxRecDepth 100000 in
theorem ml_X11_358 : Cond.methodLink RX11 358 yX6_loudest ∈ gtbl := gin 1350 (by decide +kernel) rfl
set_option maxRecDepth 100000 in
theorem ml_X11_361 : Cond.methodLink RX11 361 yX6_fullest ∈ gtbl := gin 1354 (by decide +kernel) rfl
set_option maxRecDepth 100000 in
theorem ml_X11_364 : Cond.methodLink RX11 364 yX6_longest ∈ gtbl := gin 1358 (by decide +kernel) rfl
set_option maxRecDepth 100000 in
theorem ml_X11_367 : Cond.methodLink RX11 367 yX6_freshKinds ∈ gtbl := gin 1362 (by decide +kernel) rfl
set_option maxRecDepth 100000 in
theorem ml_X11_370 : Cond.methodLink RX11 370 yX6_openBooks ∈ gtbl := gin 1366 (by decide +kernel) rfl
set_option maxRecDepth 100000 in
theorem ml_X11_373 : Cond.methodLink RX11 373 yX5_keepImage ∈ gtbl := gin 1383 (by decide +kernel) rfl
set_option maxRecDepth 100000 in
theorem ml_X11_376 : Cond.methodLink RX11 376 yX5_bringBack ∈ gtbl := gin 1392 (by decide +kernel) rfl
set_option maxRecDepth 100000 in
theorem ml_X11_379 : Cond.methodLink RX11 379 yX1_houses ∈ gtbl := gin 811 (by decide +kernel) rfl
set_option maxRecDepth 100000 in
theorem ml_X11_387 : Cond.methodLink RX11 387 yX11_countOfNow ∈ gtbl := gin 1400 (by decide +kernel) rfl
set_option maxRecDepth 100000 in
theorem ml_X11_403 : Cond.methodLink RX11 403 yX5_lengthOf ∈ gtbl := gin 1404 (by decide +kernel) rfl
set_option maxRecDepth 100000 in
theorem ml_X11_407 : Cond.methodLink RX11 407 yX2_isRight ∈ gtbl := gin 518 (by decide +kernel) rfl
set_option maxRecDepth 100000 in
theorem ml_X11_409 : Cond.methodLink RX11 409 yX3_isRight ∈ gtbl := gin 689 (by decide +kernel) rfl
set_option maxRecDepth 100000 in
theorem ml_X11_410 : Cond.methodLink RX11 410 yX10_isRight ∈ gtbl := gin 745 (by decide +kernel) rfl
set_option maxRecDepth 100000 in
theorem ml_X11_414 : Cond.methodLink RX11 414 yX1_copyFrom ∈ gtbl := gin 774 (by decide +kernel) rfl
set_option maxRecDepth 100000 in
theorem ml_X11_417 : Cond.methodLink RX11 417 yX0_begin ∈ gtbl := gin 785 (by decide +kernel) rfl
set_option maxRecDepth 100000 in
theorem ml_X11_420 : Cond.methodLink RX11 420 yX5_forget ∈ gtbl := gin 807 (by decide +kernel) rfl
set_option maxRecDepth 100000 in
theorem ml_X11_423 : Cond.methodLink RX11 423 yX9_pass ∈ gtbl := gin 1027 (by decide +kernel) rfl
set_option maxRecDepth 100000 in
theorem ml_X11_426 : Cond.methodLink RX11 426 yX5_note ∈ gtbl := gin 1047 (by decide +kernel) rfl
set_option maxRecDepth 100000 in
theorem ml_X11_429 : Cond.methodLink RX11 429 yJ9_min_7cf53 ∈ gtbl := gin 781 (by decide +kernel) rfl
set_option maxRecDepth 100000 in
theorem ml_X11_438 : Cond.methodLink RX11 438 yJ9_max_7cf53 ∈ gtbl := gin 1044 (by decide +kernel) rfl
set_option maxRecDepth 100000 in
theorem ml_X11_441 : Cond.methodLink RX11 441 arraycopyName ∈ gtbl := gin 782 (by decide +kernel) rfl
set_option maxRecDepth 100000 in
theorem ml_X11_95 : Cond.methodLink RX11 95 yX7_takesIn ∈ gtbl := gin 491 (by decide +kernel) rfl
set_option maxRecDepth 100000 in
theorem ml_X12_102 : Cond.methodLink RX12 102 yJ0_charAt_5068e ∈ gtbl := gin 1700 (by decide +kernel) rfl
set_option maxRecDepth 100000 in
theorem ml_X12_108 : Cond.methodLink RX12 108 yX12_bytesIn ∈ gtbl := gin 1649 (by decide +kernel) rfl
set_option maxRecDepth 100000 in
theorem ml_X12_112 : Cond.methodLink RX12 112 yX12_put ∈ gtbl := gin 1652 (by decide +kernel) rfl
set_option maxRecDepth 100000 in
theorem ml_X12_131 : Cond.methodLink RX12 131 yX12_fails ∈ gtbl := gin 1687 (by decide +kernel) rfl
set_option maxRecDepth 100000 in
theorem ml_X12_135 : Cond.methodLink RX12 135 yX12_look ∈ gtbl := gin 1683 (by decide +kernel) rfl
set_option maxRecDepth 100000 in
theorem ml_X12_142 : Cond.methodLink RX12 142 yJ9_min_f86c9 ∈ gtbl := gin 1791 (by decide +kernel) rfl
set_option maxRecDepth 100000 in
theorem ml_X12_148 : Cond.methodLink RX12 148 yJ9_max_f86c9 ∈ gtbl := gin 1794 (by decide +kernel) rfl
set_option maxRecDepth 100000 in
theorem ml_X12_151 : Cond.methodLink RX12 151 yX12_isAmong ∈ gtbl := gin 1751 (by decide +kernel) rfl
set_option maxRecDepth 100000 in
theorem ml_X12_155 : Cond.methodLink RX12 155 yX12_goesIn ∈ gtbl := gin 1782 (by decide +kernel) rfl
set_option maxRecDepth 100000 in
theorem ml_X12_158 : Cond.methodLink RX12 158 yX12_sum ∈ gtbl := gin 1770 (by decide +kernel) rfl
set_option maxRecDepth 100000 in
theorem ml_X12_161 : Cond.methodLink RX12 161 yX12_takes ∈ gtbl := gin 1754 (by decide +kernel) rfl
set_option maxRecDepth 100000 in
theorem ml_X12_165 : Cond.methodLink RX12 165 yX12_isDigit ∈ gtbl := gin 1733 (by decide +kernel) rfl
set_option maxRecDepth 100000 in
theorem ml_X12_168 : Cond.methodLink RX12 168 yX12_atom ∈ gtbl := gin 1778 (by decide +kernel) rfl
set_option maxRecDepth 100000 in
theorem ml_X12_171 : Cond.methodLink RX12 171 yX12_within ∈ gtbl := gin 1786 (by decide +kernel) rfl
set_option maxRecDepth 100000 in
theorem ml_X12_175 : Cond.methodLink RX12 175 yX12_term ∈ gtbl := gin 1774 (by decide +kernel) rfl
set_option maxRecDepth 100000 in
theorem ml_X12_178 : Cond.methodLink RX12 178 yX12_isSign ∈ gtbl := gin 1797 (by decide +kernel) rfl
set_option maxRecDepth 100000 in
theorem ml_X12_181 : Cond.methodLink RX12 181 yX12_unit ∈ gtbl := gin 1800 (by decide +kernel) rfl
set_option maxRecDepth 100000 in
theorem ml_X12_184 : Cond.methodLink RX12 184 yX12_condition ∈ gtbl := gin 1758 (by decide +kernel) rfl
set_option maxRecDepth 100000 in
theorem ml_X12_188 : Cond.methodLink RX12 188 yX12_compares ∈ gtbl := gin 1766 (by decide +kernel) rfl
set_option maxRecDepth 100000 in
theorem ml_X12_191 : Cond.methodLink RX12 191 yX12_part ∈ gtbl := gin 1762 (by decide +kernel) rfl
set_option maxRecDepth 100000 in
theorem ml_X12_204 : Cond.methodLink RX12 204 yX12_starts ∈ gtbl := gin 1672 (by decide +kernel) rfl
set_option maxRecDepth 100000 in
theorem ml_X12_208 : Cond.methodLink RX12 208 yX12_clause ∈ gtbl := gin 1747 (by decide +kernel) rfl
set_option maxRecDepth 100000 in
theorem ml_X12_211 : Cond.methodLink RX12 211 yX12_here ∈ gtbl := gin 1737 (by decide +kernel) rfl
set_option maxRecDepth 100000 in
theorem ml_X12_214 : Cond.methodLink RX12 214 yX12_isIn ∈ gtbl := gin 1665 (by decide +kernel) rfl
set_option maxRecDepth 100000 in
theorem ml_X12_218 : Cond.methodLink RX12 218 yX12_usual ∈ gtbl := gin 1676 (by decide +kernel) rfl
set_option maxRecDepth 100000 in
theorem ml_X12_222 : Cond.methodLink RX12 222 yX12_spotOf ∈ gtbl := gin 1697 (by decide +kernel) rfl
set_option maxRecDepth 100000 in
theorem ml_X12_226 : Cond.methodLink RX12 226 yX12_has ∈ gtbl := gin 1720 (by decide +kernel) rfl
set_option maxRecDepth 100000 in
theorem ml_X12_230 : Cond.methodLink RX12 230 yX12_leastOf ∈ gtbl := gin 1723 (by decide +kernel) rfl
set_option maxRecDepth 100000 in
theorem ml_X12_233 : Cond.methodLink RX12 233 yX12_mostOf ∈ gtbl := gin 1726 (by decide +kernel) rfl
set_option maxRecDepth 100000 in
theorem ml_X12_236 : Cond.methodLink RX12 236 yX12_number ∈ gtbl := gin 1729 (by decide +kernel) rfl
set_option maxRecDepth 100000 in
theorem ml_X12_250 : Cond.methodLink RX12 250 yX12_readItems ∈ gtbl := gin 1692 (by decide +kernel) rfl
set_option maxRecDepth 100000 in
theorem ml_X12_258 : Cond.methodLink RX12 258 yX12_readClause ∈ gtbl := gin 1679 (by decide +kernel) rfl
set_option maxRecDepth 100000 in
theorem ml_X12_263 : Cond.methodLink RX12 263 yX12_digit ∈ gtbl := gin 1813 (by decide +kernel) rfl
set_option maxRecDepth 100000 in
theorem ml_X12_266 : Cond.methodLink RX12 266 yX12_readStep ∈ gtbl := gin 1808 (by decide +kernel) rfl
set_option maxRecDepth 100000 in
theorem ml_X12_271 : Cond.methodLink RX12 271 yX12_readLanding ∈ gtbl := gin 1668 (by decide +kernel) rfl
set_option maxRecDepth 100000 in
theorem ml_X12_274 : Cond.methodLink RX12 274 yX12_goThrough ∈ gtbl := gin 1743 (by decide +kernel) rfl
set_option maxRecDepth 100000 in
theorem ml_X12_277 : Cond.methodLink RX12 277 yX12_readWeek ∈ gtbl := gin 1804 (by decide +kernel) rfl
set_option maxRecDepth 100000 in
theorem ml_X12_286 : Cond.methodLink RX12 286 yX12_fault ∈ gtbl := gin 1821 (by decide +kernel) rfl
set_option maxRecDepth 100000 in
theorem ml_X12_311 : Cond.methodLink RX12 311 yX12_pageWorth ∈ gtbl := gin 1893 (by decide +kernel) rfl
set_option maxRecDepth 100000 in
theorem ml_X12_315 : Cond.methodLink RX12 315 yJ9_min_7cf53 ∈ gtbl := gin 1901 (by decide +kernel) rfl
set_option maxRecDepth 100000 in
theorem ml_X12_317 : Cond.methodLink RX12 317 yJ9_max_7cf53 ∈ gtbl := gin 1902 (by decide +kernel) rfl
set_option maxRecDepth 100000 in
theorem ml_X12_319 : Cond.methodLink RX12 319 yX12_isBook ∈ gtbl := gin 1830 (by decide +kernel) rfl
set_option maxRecDepth 100000 in
theorem ml_X12_322 : Cond.methodLink RX12 322 yX12_pagesOf ∈ gtbl := gin 1873 (by decide +kernel) rfl
set_option maxRecDepth 100000 in
theorem ml_X12_325 : Cond.methodLink RX12 325 yX12_strength ∈ gtbl := gin 1844 (by decide +kernel) rfl
set_option maxRecDepth 100000 in
theorem ml_X12_328 : Cond.methodLink RX12 328 yX12_kindOf ∈ gtbl := gin 1885 (by decide +kernel) rfl
set_option maxRecDepth 100000 in
theorem ml_X12_331 : Cond.methodLink RX12 331 yX12_page ∈ gtbl := gin 1889 (by decide +kernel) rfl
set_option maxRecDepth 100000 in
theorem ml_X12_334 : Cond.methodLink RX12 334 yX12_held ∈ gtbl := gin 1903 (by decide +kernel) rfl
set_option maxRecDepth 100000 in
theorem ml_X12_337 : Cond.methodLink RX12 337 yX12_isHouse ∈ gtbl := gin 1839 (by decide +kernel) rfl
set_option maxRecDepth 100000 in
theorem ml_X12_340 : Cond.methodLink RX12 340 yX12_isEnough ∈ gtbl := gin 1933 (by decide +kernel) rfl
set_option maxRecDepth 100000 in
theorem ml_X12_343 : Cond.methodLink RX12 343 yX12_behind ∈ gtbl := gin 1937 (by decide +kernel) rfl
set_option maxRecDepth 100000 in
theorem ml_X12_355 : Cond.methodLink RX12 355 yX12_canRead ∈ gtbl := gin 1869 (by decide +kernel) rfl
set_option maxRecDepth 100000 in
theorem ml_X12_359 : Cond.methodLink RX12 359 yX12_mayRead ∈ gtbl := gin 1865 (by decide +kernel) rfl
set_option maxRecDepth 100000 in
theorem ml_X12_362 : Cond.methodLink RX12 362 yX12_remember ∈ gtbl := gin 1877 (by decide +kernel) rfl
set_option maxRecDepth 100000 in
theorem ml_X12_365 : Cond.methodLink RX12 365 yX12_reads ∈ gtbl := gin 1881 (by decide +kernel) rfl
set_option maxRecDepth 100000 in
theorem ml_X12_369 : Cond.methodLink RX12 369 yX12_drinks ∈ gtbl := gin 1910 (by decide +kernel) rfl
set_option maxRecDepth 100000 in
theorem ml_X12_373 : Cond.methodLink RX12 373 yX12_canGo ∈ gtbl := gin 1917 (by decide +kernel) rfl
set_option maxRecDepth 100000 in
theorem ml_X12_377 : Cond.methodLink RX12 377 yX12_goNight ∈ gtbl := gin 1929 (by decide +kernel) rfl
set_option maxRecDepth 100000 in
theorem ml_X12_389 : Cond.methodLink RX12 389 yX12_draw ∈ gtbl := gin 1950 (by decide +kernel) rfl
set_option maxRecDepth 100000 in
theorem ml_X12_394 : Cond.methodLink RX12 394 yX12_drawsReading ∈ gtbl := gin 1946 (by decide +kernel) rfl
set_option maxRecDepth 100000 in
theorem ml_X12_397 : Cond.methodLink RX12 397 yX12_isWeek ∈ gtbl := gin 1968 (by decide +kernel) rfl
set_option maxRecDepth 100000 in
theorem ml_X12_401 : Cond.methodLink RX12 401 yX12_copy ∈ gtbl := gin 1977 (by decide +kernel) rfl
set_option maxRecDepth 100000 in
theorem ml_X12_405 : Cond.methodLink RX12 405 yX12_canStep ∈ gtbl := gin 1980 (by decide +kernel) rfl
set_option maxRecDepth 100000 in
theorem ml_X12_408 : Cond.methodLink RX12 408 yX12_steps ∈ gtbl := gin 1984 (by decide +kernel) rfl
set_option maxRecDepth 100000 in
theorem ml_X12_418 : Cond.methodLink RX12 418 yX12_goLeast ∈ gtbl := gin 2000 (by decide +kernel) rfl
set_option maxRecDepth 100000 in
theorem ml_X12_428 : Cond.methodLink RX12 428 yJ6_bitCount_0f7a4 ∈ gtbl := gin 2016 (by decide +kernel) rfl
set_option maxRecDepth 100000 in
theorem ml_X12_433 : Cond.methodLink RX12 433 yX12_goRoster ∈ gtbl := gin 2012 (by decide +kernel) rfl
set_option maxRecDepth 100000 in
theorem ml_X12_439 : Cond.methodLink RX12 439 yX12_calmIf ∈ gtbl := gin 2038 (by decide +kernel) rfl
set_option maxRecDepth 100000 in
theorem ml_X12_443 : Cond.methodLink RX12 443 yX12_isCode ∈ gtbl := gin 2031 (by decide +kernel) rfl
set_option maxRecDepth 100000 in
theorem ml_X12_446 : Cond.methodLink RX12 446 yX12_isLiked ∈ gtbl := gin 2034 (by decide +kernel) rfl
set_option maxRecDepth 100000 in
theorem ml_X12_449 : Cond.methodLink RX12 449 yJ9_abs_0f7a4 ∈ gtbl := gin 2046 (by decide +kernel) rfl
set_option maxRecDepth 100000 in
theorem ml_X12_452 : Cond.methodLink RX12 452 yX12_isReadTo ∈ gtbl := gin 2051 (by decide +kernel) rfl
set_option maxRecDepth 100000 in
theorem ml_X12_455 : Cond.methodLink RX12 455 yX12_calmBy ∈ gtbl := gin 2067 (by decide +kernel) rfl
set_option maxRecDepth 100000 in
theorem ml_X12_459 : Cond.methodLink RX12 459 yX12_isGame ∈ gtbl := gin 2059 (by decide +kernel) rfl
set_option maxRecDepth 100000 in
theorem ml_X12_463 : Cond.methodLink RX12 463 yX12_gameOf ∈ gtbl := gin 2063 (by decide +kernel) rfl
set_option maxRecDepth 100000 in
theorem ml_X12_469 : Cond.methodLink RX12 469 yX12_longest ∈ gtbl := gin 2093 (by decide +kernel) rfl
set_option maxRecDepth 100000 in
theorem ml_X12_472 : Cond.methodLink RX12 472 yX12_valueOf ∈ gtbl := gin 2097 (by decide +kernel) rfl
set_option maxRecDepth 100000 in
theorem ml_X12_96 : Cond.methodLink RX12 96 yJ0_length_8abf5 ∈ gtbl := gin 1696 (by decide +kernel) rfl
set_option maxRecDepth 100000 in
theorem ml_X1_18 : Cond.methodLink RX1 18 yJ7_fill_53178 ∈ gtbl := gin 526 (by decide +kernel) rfl
set_option maxRecDepth 100000 in
theorem ml_X1_24 : Cond.methodLink RX1 24 yX1_fillUsual ∈ gtbl := gin 529 (by decide +kernel) rfl
set_option maxRecDepth 100000 in
theorem ml_X1_31 : (RX1, 31, yX11_at, "MonsterCot") ∈ nsT := List.mem_of_getElem? (i := 6) (by decide +kernel)
set_option maxRecDepth 100000 in
theorem ml_X1_35 : Cond.methodLink RX1 35 yX1_tell ∈ gtbl := gin 538 (by decide +kernel) rfl
set_option maxRecDepth 100000 in
theorem ml_X1_42 : (RX1, 42, yX11_put, "MonsterCot") ∈ nsT := List.mem_of_getElem? (i := 7) (by decide +kernel)
set_option maxRecDepth 100000 in
theorem ml_X1_49 : (RX1, 49, yX11_copy, "MonsterCot") ∈ nsT := List.mem_of_getElem? (i := 12) (by decide +kernel)
set_option maxRecDepth 100000 in
theorem ml_X1_53 : Cond.methodLink RX1 53 yX1_houses ∈ gtbl := gin 830 (by decide +kernel) rfl
set_option maxRecDepth 100000 in
theorem ml_X1_57 : Cond.methodLink RX1 57 yX1_books ∈ gtbl := gin 847 (by decide +kernel) rfl
set_option maxRecDepth 100000 in
theorem ml_X1_60 : Cond.methodLink RX1 60 yX1_told ∈ gtbl := gin 793 (by decide +kernel) rfl
set_option maxRecDepth 100000 in
theorem ml_X2_28 : Cond.methodLink RX2 28 yX1_clear ∈ gtbl := gin 522 (by decide +kernel) rfl
set_option maxRecDepth 100000 in
theorem ml_X2_31 : Cond.methodLink RX2 31 yX2_takeClause ∈ gtbl := gin 547 (by decide +kernel) rfl
set_option maxRecDepth 100000 in
theorem ml_X2_35 : Cond.methodLink RX2 35 yX7_isAtEnd ∈ gtbl := gin 673 (by decide +kernel) rfl
set_option maxRecDepth 100000 in
theorem ml_X2_38 : Cond.methodLink RX2 38 yX1_books ∈ gtbl := gin 677 (by decide +kernel) rfl
set_option maxRecDepth 100000 in
theorem ml_X2_42 : Cond.methodLink RX2 42 yX1_houses ∈ gtbl := gin 681 (by decide +kernel) rfl
set_option maxRecDepth 100000 in
theorem ml_X2_45 : Cond.methodLink RX2 45 yX7_take ∈ gtbl := gin 685 (by decide +kernel) rfl
set_option maxRecDepth 100000 in
theorem ml_X2_51 : Cond.methodLink RX2 51 yX7_sign ∈ gtbl := gin 552 (by decide +kernel) rfl
set_option maxRecDepth 100000 in
theorem ml_X2_55 : Cond.methodLink RX2 55 yJ0_indexOf_0f7a4 ∈ gtbl := gin 556 (by decide +kernel) rfl
set_option maxRecDepth 100000 in
theorem ml_X2_61 : Cond.methodLink RX2 61 yX1_open ∈ gtbl := gin 642 (by decide +kernel) rfl
set_option maxRecDepth 100000 in
theorem ml_X2_70 : Cond.methodLink RX2 70 yX2_takeItem ∈ gtbl := gin 651 (by decide +kernel) rfl
set_option maxRecDepth 100000 in
theorem ml_X2_74 : Cond.methodLink RX2 74 yX7_takeNumber ∈ gtbl := gin 655 (by decide +kernel) rfl
set_option maxRecDepth 100000 in
theorem ml_X2_81 : (RX2, 81, yX11_at, "MonsterCot") ∈ nsT := List.mem_of_getElem? (i := 8) (by decide +kernel)
set_option maxRecDepth 100000 in
theorem ml_X2_88 : Cond.methodLink RX2 88 yX1_tell ∈ gtbl := gin 672 (by decide +kernel) rfl
set_option maxRecDepth 100000 in
theorem ml_X3_30 : Cond.methodLink RX3 30 yX3_takeClause ∈ gtbl := gin 693 (by decide +kernel) rfl
set_option maxRecDepth 100000 in
theorem ml_X3_34 : Cond.methodLink RX3 34 yX7_isAtEnd ∈ gtbl := gin 744 (by decide +kernel) rfl
set_option maxRecDepth 100000 in
theorem ml_X3_37 : Cond.methodLink RX3 37 yX7_take ∈ gtbl := gin 697 (by decide +kernel) rfl
set_option maxRecDepth 100000 in
theorem ml_X3_43 : Cond.methodLink RX3 43 yX7_sign ∈ gtbl := gin 699 (by decide +kernel) rfl
set_option maxRecDepth 100000 in
theorem ml_X3_47 : Cond.methodLink RX3 47 yJ0_indexOf_0f7a4 ∈ gtbl := gin 700 (by decide +kernel) rfl
set_option maxRecDepth 100000 in
theorem ml_X3_53 : Cond.methodLink RX3 53 yX3_takeSum ∈ gtbl := gin 701 (by decide +kernel) rfl
set_option maxRecDepth 100000 in
theorem ml_X3_59 : Cond.methodLink RX3 59 yX3_order ∈ gtbl := gin 719 (by decide +kernel) rfl
set_option maxRecDepth 100000 in
theorem ml_X3_63 : Cond.methodLink RX3 63 yX3_takeCondition ∈ gtbl := gin 728 (by decide +kernel) rfl
set_option maxRecDepth 100000 in
theorem ml_X3_67 : (RX3, 67, yX11_put, "MonsterCot") ∈ nsT := List.mem_of_getElem? (i := 9) (by decide +kernel)
set_option maxRecDepth 100000 in
theorem ml_X3_71 : Cond.methodLink RX3 71 yX3_takeTruth ∈ gtbl := gin 732 (by decide +kernel) rfl
set_option maxRecDepth 100000 in
theorem ml_X3_74 : Cond.methodLink RX3 74 yX3_takeUnit ∈ gtbl := gin 736 (by decide +kernel) rfl
set_option maxRecDepth 100000 in
theorem ml_X3_77 : Cond.methodLink RX3 77 yX3_takeInnerUnit ∈ gtbl := gin 740 (by decide +kernel) rfl
set_option maxRecDepth 100000 in
theorem ml_X3_81 : Cond.methodLink RX3 81 yX7_takeOneOf ∈ gtbl := gin 714 (by decide +kernel) rfl
set_option maxRecDepth 100000 in
theorem ml_X3_85 : Cond.methodLink RX3 85 yX3_takeTerm ∈ gtbl := gin 705 (by decide +kernel) rfl
set_option maxRecDepth 100000 in
theorem ml_X3_90 : Cond.methodLink RX3 90 yX3_takeAtom ∈ gtbl := gin 709 (by decide +kernel) rfl
set_option maxRecDepth 100000 in
theorem ml_X3_97 : Cond.methodLink RX3 97 yX7_takeNumber ∈ gtbl := gin 724 (by decide +kernel) rfl
set_option maxRecDepth 100000 in
theorem ml_X4_41 : (RX4, 41, yX11_copy, "MonsterCot") ∈ nsT := List.mem_of_getElem? (i := 14) (by decide +kernel)
set_option maxRecDepth 100000 in
theorem ml_X4_46 : (RX4, 46, yX11_put, "MonsterCot") ∈ nsT := List.mem_of_getElem? (i := 15) (by decide +kernel)
set_option maxRecDepth 100000 in
theorem ml_X4_50 : (RX4, 50, yX11_within, "MonsterCot") ∈ nsT := List.mem_of_getElem? (i := 18) (by decide +kernel)
set_option maxRecDepth 100000 in
theorem ml_X4_62 : Cond.methodLink RX4 62 yX4_worthByLaw ∈ gtbl := gin 943 (by decide +kernel) rfl
set_option maxRecDepth 100000 in
theorem ml_X4_68 : (RX4, 68, yX11_at, "MonsterCot") ∈ nsT := List.mem_of_getElem? (i := 19) (by decide +kernel)
set_option maxRecDepth 100000 in
theorem ml_X4_72 : Cond.methodLink RX4 72 yJ9_min_7cf53 ∈ gtbl := gin 948 (by decide +kernel) rfl
set_option maxRecDepth 100000 in
theorem ml_X4_81 : Cond.methodLink RX4 81 yX4_pop ∈ gtbl := gin 949 (by decide +kernel) rfl
set_option maxRecDepth 100000 in
theorem ml_X4_84 : Cond.methodLink RX4 84 yJ9_max_7cf53 ∈ gtbl := gin 953 (by decide +kernel) rfl
set_option maxRecDepth 100000 in
theorem ml_X4_87 : Cond.methodLink RX4 87 yX4_push ∈ gtbl := gin 954 (by decide +kernel) rfl
set_option maxRecDepth 100000 in
theorem ml_X4_91 : Cond.methodLink RX4 91 yX4_reckon ∈ gtbl := gin 958 (by decide +kernel) rfl
set_option maxRecDepth 100000 in
theorem ml_X4_94 : Cond.methodLink RX4 94 yX4_compare ∈ gtbl := gin 965 (by decide +kernel) rfl
set_option maxRecDepth 100000 in
theorem ml_X5_40 : Cond.methodLink RX5 40 yX0_copyFrom ∈ gtbl := gin 912 (by decide +kernel) rfl
set_option maxRecDepth 100000 in
theorem ml_X5_44 : Cond.methodLink RX5 44 yJ9_min_7cf53 ∈ gtbl := gin 917 (by decide +kernel) rfl
set_option maxRecDepth 100000 in
theorem ml_X5_53 : Cond.methodLink RX5 53 yJ9_floorMod_7cf53 ∈ gtbl := gin 1051 (by decide +kernel) rfl
set_option maxRecDepth 100000 in
theorem ml_X5_56 : (RX5, 56, yX11_put, "MonsterCot") ∈ nsT := List.mem_of_getElem? (i := 23) (by decide +kernel)
set_option maxRecDepth 100000 in
theorem ml_X5_60 : Cond.methodLink RX5 60 yX5_lengthOf ∈ gtbl := gin 1086 (by decide +kernel) rfl
set_option maxRecDepth 100000 in
theorem ml_X5_64 : (RX5, 64, yX11_at, "MonsterCot") ∈ nsT := List.mem_of_getElem? (i := 24) (by decide +kernel)
set_option maxRecDepth 100000 in
theorem ml_X5_68 : (RX5, 68, yX11_copy, "MonsterCot") ∈ nsT := List.mem_of_getElem? (i := 32) (by decide +kernel)
set_option maxRecDepth 100000 in
theorem ml_X6_104 : Cond.methodLink RX6 104 yX1_enough ∈ gtbl := gin 1182 (by decide +kernel) rfl
set_option maxRecDepth 100000 in
theorem ml_X6_110 : Cond.methodLink RX6 110 yX4_worthOf ∈ gtbl := gin 1183 (by decide +kernel) rfl
set_option maxRecDepth 100000 in
theorem ml_X6_116 : (RX6, 116, yX11_heldCalm, "MonsterCot") ∈ nsT := List.mem_of_getElem? (i := 27) (by decide +kernel)
set_option maxRecDepth 100000 in
theorem ml_X6_119 : Cond.methodLink RX6 119 yX6_offerRow ∈ gtbl := gin 1185 (by decide +kernel) rfl
set_option maxRecDepth 100000 in
theorem ml_X6_123 : Cond.methodLink RX6 123 yX9_moreBored ∈ gtbl := gin 1189 (by decide +kernel) rfl
set_option maxRecDepth 100000 in
theorem ml_X6_126 : (RX6, 126, yX11_put, "MonsterCot") ∈ nsT := List.mem_of_getElem? (i := 28) (by decide +kernel)
set_option maxRecDepth 100000 in
theorem ml_X6_133 : Cond.methodLink RX6 133 yX6_growRoster ∈ gtbl := gin 1203 (by decide +kernel) rfl
set_option maxRecDepth 100000 in
theorem ml_X6_136 : Cond.methodLink RX6 136 yX1_houses ∈ gtbl := gin 1207 (by decide +kernel) rfl
set_option maxRecDepth 100000 in
theorem ml_X6_139 : Cond.methodLink RX6 139 yX9_restedFrom ∈ gtbl := gin 1208 (by decide +kernel) rfl
set_option maxRecDepth 100000 in
theorem ml_X6_142 : Cond.methodLink RX6 142 yX0_wasRead ∈ gtbl := gin 1212 (by decide +kernel) rfl
set_option maxRecDepth 100000 in
theorem ml_X6_146 : Cond.methodLink RX6 146 yX9_calmBehind ∈ gtbl := gin 1213 (by decide +kernel) rfl
set_option maxRecDepth 100000 in
theorem ml_X6_150 : Cond.methodLink RX6 150 yJ9_max_7cf53 ∈ gtbl := gin 1214 (by decide +kernel) rfl
set_option maxRecDepth 100000 in
theorem ml_X6_153 : Cond.methodLink RX6 153 yX1_childrenOf ∈ gtbl := gin 1215 (by decide +kernel) rfl
set_option maxRecDepth 100000 in
theorem ml_X6_156 : Cond.methodLink RX6 156 yX9_calmBehindNight ∈ gtbl := gin 1216 (by decide +kernel) rfl
set_option maxRecDepth 100000 in
theorem ml_X6_159 : Cond.methodLink RX6 159 yX6_calmBehindSet ∈ gtbl := gin 1277 (by decide +kernel) rfl
set_option maxRecDepth 100000 in
theorem ml_X6_162 : Cond.methodLink RX6 162 yX6_enoughBehind ∈ gtbl := gin 1304 (by decide +kernel) rfl
set_option maxRecDepth 100000 in
theorem ml_X6_166 : Cond.methodLink RX6 166 yX6_isRest ∈ gtbl := gin 1305 (by decide +kernel) rfl
set_option maxRecDepth 100000 in
theorem ml_X6_170 : Cond.methodLink RX6 170 yX6_isEnough ∈ gtbl := gin 1309 (by decide +kernel) rfl
set_option maxRecDepth 100000 in
theorem ml_X6_174 : Cond.methodLink RX6 174 yX6_gain ∈ gtbl := gin 1313 (by decide +kernel) rfl
set_option maxRecDepth 100000 in
theorem ml_X6_178 : Cond.methodLink RX6 178 yX9_worthOf ∈ gtbl := gin 1328 (by decide +kernel) rfl
set_option maxRecDepth 100000 in
theorem ml_X6_182 : Cond.methodLink RX6 182 yX9_leftOf ∈ gtbl := gin 1349 (by decide +kernel) rfl
set_option maxRecDepth 100000 in
theorem ml_X6_186 : Cond.methodLink RX6 186 yX9_canRead ∈ gtbl := gin 1370 (by decide +kernel) rfl
set_option maxRecDepth 100000 in
theorem ml_X6_48 : (RX6, 48, yX11_copy, "MonsterCot") ∈ nsT := List.mem_of_getElem? (i := 25) (by decide +kernel)
set_option maxRecDepth 100000 in
theorem ml_X6_55 : Cond.methodLink RX6 55 yX6_growRow ∈ gtbl := gin 1167 (by decide +kernel) rfl
set_option maxRecDepth 100000 in
theorem ml_X6_59 : Cond.methodLink RX6 59 yX1_books ∈ gtbl := gin 1171 (by decide +kernel) rfl
set_option maxRecDepth 100000 in
theorem ml_X6_68 : Cond.methodLink RX6 68 yX6_growRowBy ∈ gtbl := gin 1172 (by decide +kernel) rfl
set_option maxRecDepth 100000 in
theorem ml_X6_72 : Cond.methodLink RX6 72 yX1_calmingOf ∈ gtbl := gin 1176 (by decide +kernel) rfl
set_option maxRecDepth 100000 in
theorem ml_X6_76 : Cond.methodLink RX6 76 yX1_kindOf ∈ gtbl := gin 1177 (by decide +kernel) rfl
set_option maxRecDepth 100000 in
theorem ml_X6_79 : (RX6, 79, yX11_at, "MonsterCot") ∈ nsT := List.mem_of_getElem? (i := 26) (by decide +kernel)
set_option maxRecDepth 100000 in
theorem ml_X6_92 : Cond.methodLink RX6 92 yX1_strengthOf ∈ gtbl := gin 1179 (by decide +kernel) rfl
set_option maxRecDepth 100000 in
theorem ml_X6_95 : Cond.methodLink RX6 95 yX1_pagesOf ∈ gtbl := gin 1180 (by decide +kernel) rfl
set_option maxRecDepth 100000 in
theorem ml_X6_98 : Cond.methodLink RX6 98 yJ9_min_7cf53 ∈ gtbl := gin 1181 (by decide +kernel) rfl
set_option maxRecDepth 100000 in
theorem ml_X7_19 : Cond.methodLink RX7 19 yX7_bytesOf ∈ gtbl := gin 495 (by decide +kernel) rfl
set_option maxRecDepth 100000 in
theorem ml_X7_23 : Cond.methodLink RX7 23 yX7_add ∈ gtbl := gin 498 (by decide +kernel) rfl
set_option maxRecDepth 100000 in
theorem ml_X7_30 : Cond.methodLink RX7 30 yX7_sign ∈ gtbl := gin 659 (by decide +kernel) rfl
set_option maxRecDepth 100000 in
theorem ml_X7_34 : Cond.methodLink RX7 34 yJ0_indexOf_0f7a4 ∈ gtbl := gin 718 (by decide +kernel) rfl
set_option maxRecDepth 100000 in
theorem ml_X7_39 : Cond.methodLink RX7 39 yX7_isDigit ∈ gtbl := gin 660 (by decide +kernel) rfl
set_option maxRecDepth 100000 in
theorem ml_X7_43 : Cond.methodLink RX7 43 yX7_touching ∈ gtbl := gin 663 (by decide +kernel) rfl
set_option maxRecDepth 100000 in
theorem ml_X8_34 : (RX8, 34, yX11_put, "MonsterCot") ∈ nsT := List.mem_of_getElem? (i := 29) (by decide +kernel)
set_option maxRecDepth 100000 in
theorem ml_X8_38 : Cond.methodLink RX8 38 yX1_kindOf ∈ gtbl := gin 1245 (by decide +kernel) rfl
set_option maxRecDepth 100000 in
theorem ml_X8_49 : (RX8, 49, yX11_at, "MonsterCot") ∈ nsT := List.mem_of_getElem? (i := 30) (by decide +kernel)
set_option maxRecDepth 100000 in
theorem ml_X8_53 : Cond.methodLink RX8 53 yX9_worthOf ∈ gtbl := gin 1246 (by decide +kernel) rfl
set_option maxRecDepth 100000 in
theorem ml_X8_57 : Cond.methodLink RX8 57 yJ9_min_7cf53 ∈ gtbl := gin 1250 (by decide +kernel) rfl
set_option maxRecDepth 100000 in
theorem ml_X8_63 : (RX8, 63, yX11_heldCalm, "MonsterCot") ∈ nsT := List.mem_of_getElem? (i := 31) (by decide +kernel)
set_option maxRecDepth 100000 in
theorem ml_X8_66 : Cond.methodLink RX8 66 yX8_calmBy ∈ gtbl := gin 1241 (by decide +kernel) rfl
set_option maxRecDepth 100000 in
theorem ml_X8_73 : Cond.methodLink RX8 73 yX8_fits ∈ gtbl := gin 1236 (by decide +kernel) rfl
set_option maxRecDepth 100000 in
theorem ml_X8_77 : Cond.methodLink RX8 77 yX1_books ∈ gtbl := gin 1260 (by decide +kernel) rfl
set_option maxRecDepth 100000 in
theorem ml_X8_81 : Cond.methodLink RX8 81 yX8_apartBy ∈ gtbl := gin 1261 (by decide +kernel) rfl
set_option maxRecDepth 100000 in
theorem ml_X8_84 : Cond.methodLink RX8 84 yX1_pagesOf ∈ gtbl := gin 1265 (by decide +kernel) rfl
set_option maxRecDepth 100000 in
theorem ml_X8_87 : Cond.methodLink RX8 87 yJ9_abs_0f7a4 ∈ gtbl := gin 1266 (by decide +kernel) rfl
set_option maxRecDepth 100000 in
theorem ml_X9_103 : Cond.methodLink RX9 103 yX9_moreBored ∈ gtbl := gin 976 (by decide +kernel) rfl
set_option maxRecDepth 100000 in
theorem ml_X9_106 : Cond.methodLink RX9 106 yJ9_min_7cf53 ∈ gtbl := gin 979 (by decide +kernel) rfl
set_option maxRecDepth 100000 in
theorem ml_X9_112 : Cond.methodLink RX9 112 yX1_stands ∈ gtbl := gin 988 (by decide +kernel) rfl
set_option maxRecDepth 100000 in
theorem ml_X9_120 : Cond.methodLink RX9 120 yX1_hasHouse ∈ gtbl := gin 1001 (by decide +kernel) rfl
set_option maxRecDepth 100000 in
theorem ml_X9_126 : Cond.methodLink RX9 126 yX1_enough ∈ gtbl := gin 1035 (by decide +kernel) rfl
set_option maxRecDepth 100000 in
theorem ml_X9_130 : Cond.methodLink RX9 130 yX1_loses ∈ gtbl := gin 1040 (by decide +kernel) rfl
set_option maxRecDepth 100000 in
theorem ml_X9_133 : Cond.methodLink RX9 133 yJ9_max_7cf53 ∈ gtbl := gin 1211 (by decide +kernel) rfl
set_option maxRecDepth 100000 in
theorem ml_X9_136 : Cond.methodLink RX9 136 yX1_childrenOf ∈ gtbl := gin 1031 (by decide +kernel) rfl
set_option maxRecDepth 100000 in
theorem ml_X9_145 : Cond.methodLink RX9 145 yX9_calmBehindNight ∈ gtbl := gin 1036 (by decide +kernel) rfl
set_option maxRecDepth 100000 in
theorem ml_X9_148 : (RX9, 148, yX11_lessen, "MonsterCot") ∈ nsT := List.mem_of_getElem? (i := 22) (by decide +kernel)
set_option maxRecDepth 100000 in
theorem ml_X9_155 : Cond.methodLink RX9 155 yX1_houses ∈ gtbl := gin 1045 (by decide +kernel) rfl
set_option maxRecDepth 100000 in
theorem ml_X9_158 : Cond.methodLink RX9 158 yX0_forgetEvening ∈ gtbl := gin 1046 (by decide +kernel) rfl
set_option maxRecDepth 100000 in
theorem ml_X9_161 : Cond.methodLink RX9 161 yX10_digitOf ∈ gtbl := gin 1133 (by decide +kernel) rfl
set_option maxRecDepth 100000 in
theorem ml_X9_166 : Cond.methodLink RX9 166 yX10_sortOf ∈ gtbl := gin 1134 (by decide +kernel) rfl
set_option maxRecDepth 100000 in
theorem ml_X9_169 : Cond.methodLink RX9 169 yX9_canRead ∈ gtbl := gin 1135 (by decide +kernel) rfl
set_option maxRecDepth 100000 in
theorem ml_X9_173 : Cond.methodLink RX9 173 yX9_canDrink ∈ gtbl := gin 1136 (by decide +kernel) rfl
set_option maxRecDepth 100000 in
theorem ml_X9_177 : Cond.methodLink RX9 177 yX9_canPass ∈ gtbl := gin 1137 (by decide +kernel) rfl
set_option maxRecDepth 100000 in
theorem ml_X9_180 : Cond.methodLink RX9 180 yX9_canGo ∈ gtbl := gin 1138 (by decide +kernel) rfl
set_option maxRecDepth 100000 in
theorem ml_X9_184 : Cond.methodLink RX9 184 yX9_doRead ∈ gtbl := gin 1143 (by decide +kernel) rfl
set_option maxRecDepth 100000 in
theorem ml_X9_188 : Cond.methodLink RX9 188 yX9_drink ∈ gtbl := gin 1144 (by decide +kernel) rfl
set_option maxRecDepth 100000 in
theorem ml_X9_19 : Cond.methodLink RX9 19 yX1_hasBook ∈ gtbl := gin 896 (by decide +kernel) rfl
set_option maxRecDepth 100000 in
theorem ml_X9_192 : Cond.methodLink RX9 192 yX9_pass ∈ gtbl := gin 1145 (by decide +kernel) rfl
set_option maxRecDepth 100000 in
theorem ml_X9_196 : Cond.methodLink RX9 196 yX9_go ∈ gtbl := gin 1146 (by decide +kernel) rfl
set_option maxRecDepth 100000 in
theorem ml_X9_25 : Cond.methodLink RX9 25 yX1_pagesOf ∈ gtbl := gin 897 (by decide +kernel) rfl
set_option maxRecDepth 100000 in
theorem ml_X9_29 : Cond.methodLink RX9 29 yX1_strengthOf ∈ gtbl := gin 903 (by decide +kernel) rfl
set_option maxRecDepth 100000 in
theorem ml_X9_38 : (RX9, 38, yX11_at, "MonsterCot") ∈ nsT := List.mem_of_getElem? (i := 16) (by decide +kernel)
set_option maxRecDepth 100000 in
theorem ml_X9_42 : Cond.methodLink RX9 42 yX1_calmingOf ∈ gtbl := gin 931 (by decide +kernel) rfl
set_option maxRecDepth 100000 in
theorem ml_X9_45 : Cond.methodLink RX9 45 yX4_worthOf ∈ gtbl := gin 932 (by decide +kernel) rfl
set_option maxRecDepth 100000 in
theorem ml_X9_51 : (RX9, 51, yX11_heldCalm, "MonsterCot") ∈ nsT := List.mem_of_getElem? (i := 20) (by decide +kernel)
set_option maxRecDepth 100000 in
theorem ml_X9_57 : Cond.methodLink RX9 57 yX1_kindOf ∈ gtbl := gin 926 (by decide +kernel) rfl
set_option maxRecDepth 100000 in
theorem ml_X9_73 : Cond.methodLink RX9 73 yX9_calmBehind ∈ gtbl := gin 927 (by decide +kernel) rfl
set_option maxRecDepth 100000 in
theorem ml_X9_77 : Cond.methodLink RX9 77 yX9_hasPages ∈ gtbl := gin 892 (by decide +kernel) rfl
set_option maxRecDepth 100000 in
theorem ml_X9_81 : Cond.methodLink RX9 81 yX0_wasRead ∈ gtbl := gin 898 (by decide +kernel) rfl
set_option maxRecDepth 100000 in
theorem ml_X9_84 : Cond.methodLink RX9 84 yX9_leftOf ∈ gtbl := gin 899 (by decide +kernel) rfl
set_option maxRecDepth 100000 in
theorem ml_X9_88 : Cond.methodLink RX9 88 yX9_calmNow ∈ gtbl := gin 922 (by decide +kernel) rfl
set_option maxRecDepth 100000 in
theorem ml_X9_92 : (RX9, 92, yX11_put, "MonsterCot") ∈ nsT := List.mem_of_getElem? (i := 21) (by decide +kernel)
set_option maxRecDepth 100000 in
theorem ml_X9_96 : Cond.methodLink RX9 96 yX9_bore ∈ gtbl := gin 973 (by decide +kernel) rfl
set_option maxRecDepth 100000 in
theorem sc_1020 : ("MonsterCot$LandingText", 49, "sbh", 1020) ∈ sT := List.mem_of_getElem? (i := 0) (by decide +kernel)
set_option maxRecDepth 100000 in
theorem sc_1021 : ("MonsterCot$LandingText", 64, "cel", 1021) ∈ sT := List.mem_of_getElem? (i := 1) (by decide +kernel)
set_option maxRecDepth 100000 in
theorem sc_1022 : ("MonsterCot$LandingText", 66, "pck", 1022) ∈ sT := List.mem_of_getElem? (i := 2) (by decide +kernel)
set_option maxRecDepth 100000 in
theorem sc_1023 : ("MonsterCot$LandingText", 68, "nsv", 1023) ∈ sT := List.mem_of_getElem? (i := 3) (by decide +kernel)
set_option maxRecDepth 100000 in
theorem sc_1024 : ("MonsterCot$LawText", 41, "!(", 1024) ∈ sT := List.mem_of_getElem? (i := 4) (by decide +kernel)
set_option maxRecDepth 100000 in
theorem sc_1025 : ("MonsterCot$LawText", 95, "cvbpnt", 1025) ∈ sT := List.mem_of_getElem? (i := 5) (by decide +kernel)
set_option maxRecDepth 100000 in
theorem sc_1026 : ("MonsterCot$LawText", 93, "*/", 1026) ∈ sT := List.mem_of_getElem? (i := 6) (by decide +kernel)
set_option maxRecDepth 100000 in
theorem sc_1027 : ("MonsterCot$LawText", 88, "+-", 1027) ∈ sT := List.mem_of_getElem? (i := 7) (by decide +kernel)
set_option maxRecDepth 100000 in
theorem sc_1028 : ("MonsterCot$LawText", 57, "=<>", 1028) ∈ sT := List.mem_of_getElem? (i := 8) (by decide +kernel)
set_option maxRecDepth 100000 in
theorem sc_1029 : ("MonsterCot$Weeks", 46, "rkmng", 1029) ∈ sT := List.mem_of_getElem? (i := 9) (by decide +kernel)
set_option maxRecDepth 100000 in
theorem sc_1031 : ("MonsterCotModel", 26, "y", 1031) ∈ sT := List.mem_of_getElem? (i := 11) (by decide +kernel)
set_option maxRecDepth 100000 in
theorem sc_1032 : ("MonsterCotModel", 32, "cvbpnt", 1032) ∈ sT := List.mem_of_getElem? (i := 12) (by decide +kernel)
set_option maxRecDepth 100000 in
theorem sc_1033 : ("MonsterCotModel", 248, "cel", 1033) ∈ sT := List.mem_of_getElem? (i := 13) (by decide +kernel)
set_option maxRecDepth 100000 in
theorem sc_1034 : ("MonsterCotModel", 254, "pck", 1034) ∈ sT := List.mem_of_getElem? (i := 14) (by decide +kernel)
set_option maxRecDepth 100000 in
theorem sc_1035 : ("MonsterCotModel", 256, "nsv", 1035) ∈ sT := List.mem_of_getElem? (i := 15) (by decide +kernel)
set_option maxRecDepth 100000 in
theorem sc_1036 : ("MonsterCotModel", 261, "rkmng", 1036) ∈ sT := List.mem_of_getElem? (i := 16) (by decide +kernel)
set_option maxRecDepth 100000 in
theorem sl_X10_52 : Cond.fieldLink RX10 52 "MonsterCot$Weeks" "DIGITS" "[I" ∈ gtbl := gin 755 (by decide +kernel) rfl
set_option maxRecDepth 100000 in
theorem sl_X1_28 : Cond.fieldLink RX1 28 "MonsterCot$Land" "USUAL" "[I" ∈ gtbl := gin 533 (by decide +kernel) rfl
set_option maxRecDepth 100000 in
theorem sl_X1_39 : Cond.fieldLink RX1 39 "MonsterCot$Land" "MOST" "[I" ∈ gtbl := gin 646 (by decide +kernel) rfl
set_option maxRecDepth 100000 in
theorem sl_X1_46 : Cond.fieldLink RX1 46 "MonsterCot$Land" "FIRST" "[I" ∈ gtbl := gin 542 (by decide +kernel) rfl
set_option maxRecDepth 100000 in
theorem sl_X2_77 : Cond.fieldLink RX2 77 "MonsterCot$LandingText" "LOWEST" "[I" ∈ gtbl := gin 667 (by decide +kernel) rfl
set_option maxRecDepth 100000 in
theorem sl_X2_85 : Cond.fieldLink RX2 85 "MonsterCot$LandingText" "HIGHEST" "[I" ∈ gtbl := gin 670 (by decide +kernel) rfl
set_option maxRecDepth 100000 in
theorem sl_X8_70 : Cond.fieldLink RX8 70 "MonsterCot$Watch" "TASTES" "[I" ∈ gtbl := gin 1234 (by decide +kernel) rfl
set_option maxRecDepth 100000 in
theorem zm_1001 : ("MonsterCot$Land", "FIRST", 1001) ∈ zT := List.mem_of_getElem? (i := 0) (by decide +kernel)
set_option maxRecDepth 100000 in
theorem zm_1002 : ("MonsterCot$Land", "MOST", 1002) ∈ zT := List.mem_of_getElem? (i := 1) (by decide +kernel)
set_option maxRecDepth 100000 in
theorem zm_1003 : ("MonsterCot$Land", "USUAL", 1003) ∈ zT := List.mem_of_getElem? (i := 2) (by decide +kernel)
set_option maxRecDepth 100000 in
theorem zm_1004 : ("MonsterCot$LandingText", "LOWEST", 1004) ∈ zT := List.mem_of_getElem? (i := 3) (by decide +kernel)
set_option maxRecDepth 100000 in
theorem zm_1005 : ("MonsterCot$LandingText", "HIGHEST", 1005) ∈ zT := List.mem_of_getElem? (i := 4) (by decide +kernel)
set_option maxRecDepth 100000 in
theorem zm_1006 : ("MonsterCot$Weeks", "DIGITS", 1006) ∈ zT := List.mem_of_getElem? (i := 5) (by decide +kernel)
set_option maxRecDepth 100000 in
theorem zm_1007 : ("MonsterCot$Watch", "TASTES", 1007) ∈ zT := List.mem_of_getElem? (i := 6) (by decide +kernel)
