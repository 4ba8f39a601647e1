set_option maxRecDepth 100000 in
theorem mf_J0_charAt_5068e : mT yJ0_charAt_5068e cJ0_charAt_5068e 2 (some .char) 1 := ⟨⟨gin 1703 (by decide +kernel) rfl, ⟨by decide +kernel, by decide +kernel, by decide +kernel⟩, by decide, gin 106 (by decide +kernel) rfl⟩, gin 1701 (by decide +kernel) rfl, gin 1702 (by decide +kernel) rfl, by decide +kernel⟩
set_option maxRecDepth 100000 in
theorem mf_J0_checkIndex_df160 : mS yJ0_checkIndex_df160 cJ0_checkIndex_df160 2 (none) 2 := ⟨⟨gin 1709 (by decide +kernel) rfl, ⟨by decide +kernel, by decide +kernel, by decide +kernel⟩, by decide, gin 106 (by decide +kernel) rfl⟩, gin 1708 (by decide +kernel) rfl⟩
set_option maxRecDepth 100000 in
theorem mf_J0_coder_7d493 : mT yJ0_coder_7d493 cJ0_coder_7d493 1 (some .byte) 0 := ⟨⟨gin 577 (by decide +kernel) rfl, ⟨by decide +kernel, by decide +kernel, by decide +kernel⟩, by decide, gin 106 (by decide +kernel) rfl⟩, gin 575 (by decide +kernel) rfl, gin 576 (by decide +kernel) rfl, by decide +kernel⟩
set_option maxRecDepth 100000 in
theorem mf_J0_indexOf_0f7a4 : mT yJ0_indexOf_0f7a4 cJ0_indexOf_0f7a4 2 (some .int) 1 := ⟨⟨gin 559 (by decide +kernel) rfl, ⟨by decide +kernel, by decide +kernel, by decide +kernel⟩, by decide, gin 106 (by decide +kernel) rfl⟩, gin 557 (by decide +kernel) rfl, gin 558 (by decide +kernel) rfl, by decide +kernel⟩
set_option maxRecDepth 100000 in
theorem mf_J0_indexOf_7cf53 : mT yJ0_indexOf_7cf53 cJ0_indexOf_7cf53 3 (some .int) 2 := ⟨⟨gin 563 (by decide +kernel) rfl, ⟨by decide +kernel, by decide +kernel, by decide +kernel⟩, by decide, gin 106 (by decide +kernel) rfl⟩, gin 561 (by decide +kernel) rfl, gin 562 (by decide +kernel) rfl, by decide +kernel⟩
set_option maxRecDepth 100000 in
theorem mf_J0_isLatin1_aae02 : mT yJ0_isLatin1_aae02 cJ0_isLatin1_aae02 1 (some .boolean) 0 := ⟨⟨gin 567 (by decide +kernel) rfl, ⟨by decide +kernel, by decide +kernel, by decide +kernel⟩, by decide, gin 106 (by decide +kernel) rfl⟩, gin 565 (by decide +kernel) rfl, gin 566 (by decide +kernel) rfl, by decide +kernel⟩
set_option maxRecDepth 100000 in
theorem mf_J0_length_8abf5 : mT yJ0_length_8abf5 cJ0_length_8abf5 1 (some .int) 0 := ⟨⟨gin 573 (by decide +kernel) rfl, ⟨by decide +kernel, by decide +kernel, by decide +kernel⟩, by decide, gin 106 (by decide +kernel) rfl⟩, gin 571 (by decide +kernel) rfl, gin 572 (by decide +kernel) rfl, by decide +kernel⟩
set_option maxRecDepth 100000 in
theorem mf_J1_canEncode_9a6ad : mS yJ1_canEncode_9a6ad cJ1_canEncode_9a6ad 1 (some .boolean) 1 := ⟨⟨gin 583 (by decide +kernel) rfl, ⟨by decide +kernel, by decide +kernel, by decide +kernel⟩, by decide, gin 107 (by decide +kernel) rfl⟩, gin 582 (by decide +kernel) rfl⟩
set_option maxRecDepth 100000 in
theorem mf_J1_charAt_3b067 : mS yJ1_charAt_3b067 cJ1_charAt_3b067 2 (some .char) 2 := ⟨⟨gin 1706 (by decide +kernel) rfl, ⟨by decide +kernel, by decide +kernel, by decide +kernel⟩, by decide, gin 107 (by decide +kernel) rfl⟩, gin 1705 (by decide +kernel) rfl⟩
set_option maxRecDepth 100000 in
theorem mf_J1_indexOfChar_4cfef : mS yJ1_indexOfChar_4cfef cJ1_indexOfChar_4cfef 6 (some .int) 4 := ⟨⟨gin 592 (by decide +kernel) rfl, ⟨by decide +kernel, by decide +kernel, by decide +kernel⟩, by decide, gin 107 (by decide +kernel) rfl⟩, gin 591 (by decide +kernel) rfl⟩
set_option maxRecDepth 100000 in
theorem mf_J1_indexOf_4cfef : mS yJ1_indexOf_4cfef cJ1_indexOf_4cfef 4 (some .int) 4 := ⟨⟨gin 580 (by decide +kernel) rfl, ⟨by decide +kernel, by decide +kernel, by decide +kernel⟩, by decide, gin 107 (by decide +kernel) rfl⟩, gin 579 (by decide +kernel) rfl⟩
set_option maxRecDepth 100000 in
theorem mf_J3_checkIndex_8e157 : mS yJ3_checkIndex_8e157 cJ3_checkIndex_8e157 3 (some .int) 3 := ⟨⟨gin 1712 (by decide +kernel) rfl, ⟨by decide +kernel, by decide +kernel, by decide +kernel⟩, by decide, gin 110 (by decide +kernel) rfl⟩, gin 1711 (by decide +kernel) rfl⟩
set_option maxRecDepth 100000 in
theorem mf_J6_bitCount_0f7a4 : mS yJ6_bitCount_0f7a4 cJ6_bitCount_0f7a4 1 (some .int) 1 := ⟨⟨gin 2018 (by decide +kernel) rfl, ⟨by decide +kernel, by decide +kernel, by decide +kernel⟩, by decide, gin 117 (by decide +kernel) rfl⟩, gin 2017 (by decide +kernel) rfl⟩
set_option maxRecDepth 100000 in
theorem mf_J7_fill_53178 : mS yJ7_fill_53178 cJ7_fill_53178 4 (none) 2 := ⟨⟨gin 528 (by decide +kernel) rfl, ⟨by decide +kernel, by decide +kernel, by decide +kernel⟩, by decide, gin 105 (by decide +kernel) rfl⟩, gin 527 (by decide +kernel) rfl⟩
set_option maxRecDepth 100000 in
theorem mf_J9_abs_0f7a4 : mS yJ9_abs_0f7a4 cJ9_abs_0f7a4 1 (some .int) 1 := ⟨⟨gin 1268 (by decide +kernel) rfl, ⟨by decide +kernel, by decide +kernel, by decide +kernel⟩, by decide, gin 108 (by decide +kernel) rfl⟩, gin 1267 (by decide +kernel) rfl⟩
set_option maxRecDepth 100000 in
theorem mf_J9_floorMod_7cf53 : mS yJ9_floorMod_7cf53 cJ9_floorMod_7cf53 3 (some .int) 2 := ⟨⟨gin 1053 (by decide +kernel) rfl, ⟨by decide +kernel, by decide +kernel, by decide +kernel⟩, by decide, gin 108 (by decide +kernel) rfl⟩, gin 1052 (by decide +kernel) rfl⟩
set_option maxRecDepth 100000 in
theorem mf_J9_max_7cf53 : mS yJ9_max_7cf53 cJ9_max_7cf53 2 (some .int) 2 := ⟨⟨gin 586 (by decide +kernel) rfl, ⟨by decide +kernel, by decide +kernel, by decide +kernel⟩, by decide, gin 108 (by decide +kernel) rfl⟩, gin 585 (by decide +kernel) rfl⟩
set_option maxRecDepth 100000 in
theorem mf_J9_max_f86c9 : mS yJ9_max_f86c9 cJ9_max_f86c9 4 (some .long) 2 := ⟨⟨gin 1796 (by decide +kernel) rfl, ⟨by decide +kernel, by decide +kernel, by decide +kernel⟩, by decide, gin 108 (by decide +kernel) rfl⟩, gin 1795 (by decide +kernel) rfl⟩
set_option maxRecDepth 100000 in
theorem mf_J9_min_7cf53 : mS yJ9_min_7cf53 cJ9_min_7cf53 2 (some .int) 2 := ⟨⟨gin 589 (by decide +kernel) rfl, ⟨by decide +kernel, by decide +kernel, by decide +kernel⟩, by decide, gin 108 (by decide +kernel) rfl⟩, gin 588 (by decide +kernel) rfl⟩
set_option maxRecDepth 100000 in
theorem mf_J9_min_f86c9 : mS yJ9_min_f86c9 cJ9_min_f86c9 4 (some .long) 2 := ⟨⟨gin 1793 (by decide +kernel) rfl, ⟨by decide +kernel, by decide +kernel, by decide +kernel⟩, by decide, gin 108 (by decide +kernel) rfl⟩, gin 1792 (by decide +kernel) rfl⟩
set_option maxRecDepth 100000 in
theorem mf_X0_begin : mV yX0_begin cX0_begin 3 (none) 1 0 := ⟨⟨gin 788 (by decide +kernel) rfl, ⟨by decide +kernel, by decide +kernel, by decide +kernel⟩, by decide, gin 100 (by decide +kernel) rfl⟩, gin 786 (by decide +kernel) rfl, gin 787 (by decide +kernel) rfl, ⟨TX0, 13, rfl⟩⟩
set_option maxRecDepth 100000 in
theorem mf_X0_copyFrom : mV yX0_copyFrom cX0_copyFrom 2 (none) 1 0 := ⟨⟨gin 915 (by decide +kernel) rfl, ⟨by decide +kernel, by decide +kernel, by decide +kernel⟩, by decide, gin 100 (by decide +kernel) rfl⟩, gin 913 (by decide +kernel) rfl, gin 914 (by decide +kernel) rfl, ⟨TX0, 13, rfl⟩⟩
set_option maxRecDepth 100000 in
theorem mf_X0_forgetEvening : mV yX0_forgetEvening cX0_forgetEvening 1 (none) 0 0 := ⟨⟨gin 806 (by decide +kernel) rfl, ⟨by decide +kernel, by decide +kernel, by decide +kernel⟩, by decide, gin 100 (by decide +kernel) rfl⟩, gin 804 (by decide +kernel) rfl, gin 805 (by decide +kernel) rfl, ⟨TX0, 13, rfl⟩⟩
set_option maxRecDepth 100000 in
theorem mf_X0_wasRead : mV yX0_wasRead cX0_wasRead 2 (some .boolean) 1 0 := ⟨⟨gin 863 (by decide +kernel) rfl, ⟨by decide +kernel, by decide +kernel, by decide +kernel⟩, by decide, gin 100 (by decide +kernel) rfl⟩, gin 861 (by decide +kernel) rfl, gin 862 (by decide +kernel) rfl, ⟨TX0, 13, rfl⟩⟩
set_option maxRecDepth 100000 in
theorem mf_X10_digitOf : mS yX10_digitOf cX10_digitOf 2 (some .int) 2 := ⟨⟨gin 1121 (by decide +kernel) rfl, ⟨by decide +kernel, by decide +kernel, by decide +kernel⟩, by decide, gin 97 (by decide +kernel) rfl⟩, gin 1120 (by decide +kernel) rfl⟩
set_option maxRecDepth 100000 in
theorem mf_X10_has : mV yX10_has cX10_has 2 (some .boolean) 1 10 := ⟨⟨gin 1101 (by decide +kernel) rfl, ⟨by decide +kernel, by decide +kernel, by decide +kernel⟩, by decide, gin 97 (by decide +kernel) rfl⟩, gin 1099 (by decide +kernel) rfl, gin 1100 (by decide +kernel) rfl, ⟨TX10, 6, rfl⟩⟩
set_option maxRecDepth 100000 in
theorem mf_X10_hasDigit : mS yX10_hasDigit cX10_hasDigit 2 (some .boolean) 2 := ⟨⟨gin 1117 (by decide +kernel) rfl, ⟨by decide +kernel, by decide +kernel, by decide +kernel⟩, by decide, gin 97 (by decide +kernel) rfl⟩, gin 1116 (by decide +kernel) rfl⟩
set_option maxRecDepth 100000 in
theorem mf_X10_hasStep : mV yX10_hasStep cX10_hasStep 3 (some .boolean) 2 10 := ⟨⟨gin 1097 (by decide +kernel) rfl, ⟨by decide +kernel, by decide +kernel, by decide +kernel⟩, by decide, gin 97 (by decide +kernel) rfl⟩, gin 1095 (by decide +kernel) rfl, gin 1096 (by decide +kernel) rfl, ⟨TX10, 6, rfl⟩⟩
set_option maxRecDepth 100000 in
theorem mf_X10_isRight : mV yX10_isRight cX10_isRight 2 (some .boolean) 0 10 := ⟨⟨gin 748 (by decide +kernel) rfl, ⟨by decide +kernel, by decide +kernel, by decide +kernel⟩, by decide, gin 97 (by decide +kernel) rfl⟩, gin 746 (by decide +kernel) rfl, gin 747 (by decide +kernel) rfl, ⟨TX10, 6, rfl⟩⟩
set_option maxRecDepth 100000 in
theorem mf_X10_keepDraft : mV yX10_keepDraft cX10_keepDraft 2 (some .int) 0 10 := ⟨⟨gin 821 (by decide +kernel) rfl, ⟨by decide +kernel, by decide +kernel, by decide +kernel⟩, by decide, gin 97 (by decide +kernel) rfl⟩, gin 819 (by decide +kernel) rfl, gin 820 (by decide +kernel) rfl, ⟨TX10, 6, rfl⟩⟩
set_option maxRecDepth 100000 in
theorem mf_X10_sizeOf : mV yX10_sizeOf cX10_sizeOf 2 (some .int) 1 10 := ⟨⟨gin 1105 (by decide +kernel) rfl, ⟨by decide +kernel, by decide +kernel, by decide +kernel⟩, by decide, gin 97 (by decide +kernel) rfl⟩, gin 1103 (by decide +kernel) rfl, gin 1104 (by decide +kernel) rfl, ⟨TX10, 6, rfl⟩⟩
set_option maxRecDepth 100000 in
theorem mf_X10_sortOf : mS yX10_sortOf cX10_sortOf 1 (some .int) 1 := ⟨⟨gin 1114 (by decide +kernel) rfl, ⟨by decide +kernel, by decide +kernel, by decide +kernel⟩, by decide, gin 97 (by decide +kernel) rfl⟩, gin 1113 (by decide +kernel) rfl⟩
set_option maxRecDepth 100000 in
theorem mf_X10_stepOf : mV yX10_stepOf cX10_stepOf 3 (some .int) 2 10 := ⟨⟨gin 1110 (by decide +kernel) rfl, ⟨by decide +kernel, by decide +kernel, by decide +kernel⟩, by decide, gin 97 (by decide +kernel) rfl⟩, gin 1108 (by decide +kernel) rfl, gin 1109 (by decide +kernel) rfl, ⟨TX10, 6, rfl⟩⟩
set_option maxRecDepth 100000 in
theorem mf_X10_takeStep : mV yX10_takeStep cX10_takeStep 6 (some .boolean) 1 10 := ⟨⟨gin 752 (by decide +kernel) rfl, ⟨by decide +kernel, by decide +kernel, by decide +kernel⟩, by decide, gin 97 (by decide +kernel) rfl⟩, gin 751 (by decide +kernel) rfl, gin 15 (by decide +kernel) rfl, ⟨TX10, 6, rfl⟩⟩
set_option maxRecDepth 100000 in
theorem mf_X11_at : mS yX11_at cX11_at 2 (some .int) 2 := ⟨⟨gin 537 (by decide +kernel) rfl, ⟨by decide +kernel, by decide +kernel, by decide +kernel⟩, by decide, gin 92 (by decide +kernel) rfl⟩, gin 536 (by decide +kernel) rfl⟩
set_option maxRecDepth 100000 in
theorem mf_X11_canPlay : mV yX11_canPlay cX11_canPlay 4 (some .boolean) 3 11 := ⟨⟨gin 1288 (by decide +kernel) rfl, ⟨by decide +kernel, by decide +kernel, by decide +kernel⟩, by decide, gin 92 (by decide +kernel) rfl⟩, gin 1287 (by decide +kernel) rfl, gin 32 (by decide +kernel) rfl, ⟨TX11, 14, rfl⟩⟩
set_option maxRecDepth 100000 in
theorem mf_X11_copy : mS yX11_copy cX11_copy 2 (none) 2 := ⟨⟨gin 780 (by decide +kernel) rfl, ⟨by decide +kernel, by decide +kernel, by decide +kernel⟩, by decide, gin 92 (by decide +kernel) rfl⟩, gin 779 (by decide +kernel) rfl⟩
set_option maxRecDepth 100000 in
theorem mf_X11_countOfNow : mV yX11_countOfNow cX11_countOfNow 2 (some .int) 1 11 := ⟨⟨gin 1403 (by decide +kernel) rfl, ⟨by decide +kernel, by decide +kernel, by decide +kernel⟩, by decide, gin 92 (by decide +kernel) rfl⟩, gin 1402 (by decide +kernel) rfl, gin 35 (by decide +kernel) rfl, ⟨TX11, 14, rfl⟩⟩
set_option maxRecDepth 100000 in
theorem mf_X11_draw : mV yX11_draw cX11_draw 2 (some .int) 1 11 := ⟨⟨gin 1067 (by decide +kernel) rfl, ⟨by decide +kernel, by decide +kernel, by decide +kernel⟩, by decide, gin 92 (by decide +kernel) rfl⟩, gin 1066 (by decide +kernel) rfl, gin 23 (by decide +kernel) rfl, ⟨TX11, 14, rfl⟩⟩
set_option maxRecDepth 100000 in
theorem mf_X11_heldCalm : mS yX11_heldCalm cX11_heldCalm 1 (some .int) 1 := ⟨⟨gin 971 (by decide +kernel) rfl, ⟨by decide +kernel, by decide +kernel, by decide +kernel⟩, by decide, gin 92 (by decide +kernel) rfl⟩, gin 970 (by decide +kernel) rfl⟩
set_option maxRecDepth 100000 in
theorem mf_X11_isKind : mS yX11_isKind cX11_isKind 1 (some .boolean) 1 := ⟨⟨gin 870 (by decide +kernel) rfl, ⟨by decide +kernel, by decide +kernel, by decide +kernel⟩, by decide, gin 92 (by decide +kernel) rfl⟩, gin 869 (by decide +kernel) rfl⟩
set_option maxRecDepth 100000 in
theorem mf_X11_isRight : mV yX11_isRight cX11_isRight 2 (some .boolean) 1 11 := ⟨⟨gin 517 (by decide +kernel) rfl, ⟨by decide +kernel, by decide +kernel, by decide +kernel⟩, by decide, gin 92 (by decide +kernel) rfl⟩, gin 516 (by decide +kernel) rfl, gin 1 (by decide +kernel) rfl, ⟨TX11, 14, rfl⟩⟩
set_option maxRecDepth 100000 in
theorem mf_X11_lessen : mS yX11_lessen cX11_lessen 3 (none) 2 := ⟨⟨gin 1043 (by decide +kernel) rfl, ⟨by decide +kernel, by decide +kernel, by decide +kernel⟩, by decide, gin 92 (by decide +kernel) rfl⟩, gin 1042 (by decide +kernel) rfl⟩
set_option maxRecDepth 100000 in
theorem mf_X11_moveIn : mV yX11_moveIn cX11_moveIn 1 (some .int) 0 11 := ⟨⟨gin 773 (by decide +kernel) rfl, ⟨by decide +kernel, by decide +kernel, by decide +kernel⟩, by decide, gin 92 (by decide +kernel) rfl⟩, gin 772 (by decide +kernel) rfl, gin 16 (by decide +kernel) rfl, ⟨TX11, 14, rfl⟩⟩
set_option maxRecDepth 100000 in
theorem mf_X11_passLoggedNight : mV yX11_passLoggedNight cX11_passLoggedNight 4 (some .int) 0 11 := ⟨⟨gin 1026 (by decide +kernel) rfl, ⟨by decide +kernel, by decide +kernel, by decide +kernel⟩, by decide, gin 92 (by decide +kernel) rfl⟩, gin 1025 (by decide +kernel) rfl, gin 21 (by decide +kernel) rfl, ⟨TX11, 14, rfl⟩⟩
set_option maxRecDepth 100000 in
theorem mf_X11_put : mS yX11_put cX11_put 3 (none) 3 := ⟨⟨gin 546 (by decide +kernel) rfl, ⟨by decide +kernel, by decide +kernel, by decide +kernel⟩, by decide, gin 92 (by decide +kernel) rfl⟩, gin 545 (by decide +kernel) rfl⟩
set_option maxRecDepth 100000 in
theorem mf_X11_readByDraw : mV yX11_readByDraw cX11_readByDraw 4 (none) 0 11 := ⟨⟨gin 1062 (by decide +kernel) rfl, ⟨by decide +kernel, by decide +kernel, by decide +kernel⟩, by decide, gin 92 (by decide +kernel) rfl⟩, gin 1061 (by decide +kernel) rfl, gin 22 (by decide +kernel) rfl, ⟨TX11, 14, rfl⟩⟩
set_option maxRecDepth 100000 in
theorem mf_X11_within : mS yX11_within cX11_within 3 (some .int) 3 := ⟨⟨gin 938 (by decide +kernel) rfl, ⟨by decide +kernel, by decide +kernel, by decide +kernel⟩, by decide, gin 92 (by decide +kernel) rfl⟩, gin 937 (by decide +kernel) rfl⟩
set_option maxRecDepth 100000 in
theorem mf_X12_atom : mV yX12_atom cX12_atom 4 (some .int) 0 12 := ⟨⟨gin 1781 (by decide +kernel) rfl, ⟨by decide +kernel, by decide +kernel, by decide +kernel⟩, by decide, gin 104 (by decide +kernel) rfl⟩, gin 1780 (by decide +kernel) rfl, gin 55 (by decide +kernel) rfl, ⟨TX12, 51, rfl⟩⟩
set_option maxRecDepth 100000 in
theorem mf_X12_behind : mV yX12_behind cX12_behind 2 (some .int) 1 12 := ⟨⟨gin 1940 (by decide +kernel) rfl, ⟨by decide +kernel, by decide +kernel, by decide +kernel⟩, by decide, gin 104 (by decide +kernel) rfl⟩, gin 1939 (by decide +kernel) rfl, gin 75 (by decide +kernel) rfl, ⟨TX12, 51, rfl⟩⟩
set_option maxRecDepth 100000 in
theorem mf_X12_bytesIn : mS yX12_bytesIn cX12_bytesIn 3 (some .int) 1 := ⟨⟨gin 1651 (by decide +kernel) rfl, ⟨by decide +kernel, by decide +kernel, by decide +kernel⟩, by decide, gin 104 (by decide +kernel) rfl⟩, gin 1650 (by decide +kernel) rfl⟩
set_option maxRecDepth 100000 in
theorem mf_X12_calmBy : mV yX12_calmBy cX12_calmBy 8 (some .int) 5 12 := ⟨⟨gin 2070 (by decide +kernel) rfl, ⟨by decide +kernel, by decide +kernel, by decide +kernel⟩, by decide, gin 104 (by decide +kernel) rfl⟩, gin 2069 (by decide +kernel) rfl, gin 88 (by decide +kernel) rfl, ⟨TX12, 51, rfl⟩⟩
set_option maxRecDepth 100000 in
theorem mf_X12_calmIf : mV yX12_calmIf cX12_calmIf 8 (some .int) 4 12 := ⟨⟨gin 2041 (by decide +kernel) rfl, ⟨by decide +kernel, by decide +kernel, by decide +kernel⟩, by decide, gin 104 (by decide +kernel) rfl⟩, gin 2040 (by decide +kernel) rfl, gin 84 (by decide +kernel) rfl, ⟨TX12, 51, rfl⟩⟩
set_option maxRecDepth 100000 in
theorem mf_X12_canGo : mV yX12_canGo cX12_canGo 3 (some .boolean) 2 12 := ⟨⟨gin 1920 (by decide +kernel) rfl, ⟨by decide +kernel, by decide +kernel, by decide +kernel⟩, by decide, gin 104 (by decide +kernel) rfl⟩, gin 1919 (by decide +kernel) rfl, gin 72 (by decide +kernel) rfl, ⟨TX12, 51, rfl⟩⟩
set_option maxRecDepth 100000 in
theorem mf_X12_canRead : mV yX12_canRead cX12_canRead 5 (some .boolean) 4 12 := ⟨⟨gin 1872 (by decide +kernel) rfl, ⟨by decide +kernel, by decide +kernel, by decide +kernel⟩, by decide, gin 104 (by decide +kernel) rfl⟩, gin 1871 (by decide +kernel) rfl, gin 65 (by decide +kernel) rfl, ⟨TX12, 51, rfl⟩⟩
set_option maxRecDepth 100000 in
theorem mf_X12_canStep : mV yX12_canStep cX12_canStep 3 (some .boolean) 2 12 := ⟨⟨gin 1983 (by decide +kernel) rfl, ⟨by decide +kernel, by decide +kernel, by decide +kernel⟩, by decide, gin 104 (by decide +kernel) rfl⟩, gin 1982 (by decide +kernel) rfl, gin 79 (by decide +kernel) rfl, ⟨TX12, 51, rfl⟩⟩
set_option maxRecDepth 100000 in
theorem mf_X12_clause : mV yX12_clause cX12_clause 5 (none) 0 12 := ⟨⟨gin 1750 (by decide +kernel) rfl, ⟨by decide +kernel, by decide +kernel, by decide +kernel⟩, by decide, gin 104 (by decide +kernel) rfl⟩, gin 1749 (by decide +kernel) rfl, gin 48 (by decide +kernel) rfl, ⟨TX12, 51, rfl⟩⟩
set_option maxRecDepth 100000 in
theorem mf_X12_compares : mV yX12_compares cX12_compares 6 (some .boolean) 2 12 := ⟨⟨gin 1769 (by decide +kernel) rfl, ⟨by decide +kernel, by decide +kernel, by decide +kernel⟩, by decide, gin 104 (by decide +kernel) rfl⟩, gin 1768 (by decide +kernel) rfl, gin 52 (by decide +kernel) rfl, ⟨TX12, 51, rfl⟩⟩
set_option maxRecDepth 100000 in
theorem mf_X12_condition : mV yX12_condition cX12_condition 5 (some .boolean) 2 12 := ⟨⟨gin 1761 (by decide +kernel) rfl, ⟨by decide +kernel, by decide +kernel, by decide +kernel⟩, by decide, gin 104 (by decide +kernel) rfl⟩, gin 1760 (by decide +kernel) rfl, gin 50 (by decide +kernel) rfl, ⟨TX12, 51, rfl⟩⟩
set_option maxRecDepth 100000 in
theorem mf_X12_copy : mS yX12_copy cX12_copy 3 (none) 2 := ⟨⟨gin 1979 (by decide +kernel) rfl, ⟨by decide +kernel, by decide +kernel, by decide +kernel⟩, by decide, gin 104 (by decide +kernel) rfl⟩, gin 1978 (by decide +kernel) rfl⟩
set_option maxRecDepth 100000 in
theorem mf_X12_digit : mV yX12_digit cX12_digit 2 (some .int) 0 12 := ⟨⟨gin 1816 (by decide +kernel) rfl, ⟨by decide +kernel, by decide +kernel, by decide +kernel⟩, by decide, gin 104 (by decide +kernel) rfl⟩, gin 1815 (by decide +kernel) rfl, gin 60 (by decide +kernel) rfl, ⟨TX12, 51, rfl⟩⟩
set_option maxRecDepth 100000 in
theorem mf_X12_draw : mV yX12_draw cX12_draw 2 (some .int) 1 12 := ⟨⟨gin 1953 (by decide +kernel) rfl, ⟨by decide +kernel, by decide +kernel, by decide +kernel⟩, by decide, gin 104 (by decide +kernel) rfl⟩, gin 1952 (by decide +kernel) rfl, gin 77 (by decide +kernel) rfl, ⟨TX12, 51, rfl⟩⟩
set_option maxRecDepth 100000 in
theorem mf_X12_drawsReading : mV yX12_drawsReading cX12_drawsReading 3 (none) 0 12 := ⟨⟨gin 1949 (by decide +kernel) rfl, ⟨by decide +kernel, by decide +kernel, by decide +kernel⟩, by decide, gin 104 (by decide +kernel) rfl⟩, gin 1948 (by decide +kernel) rfl, gin 76 (by decide +kernel) rfl, ⟨TX12, 51, rfl⟩⟩
set_option maxRecDepth 100000 in
theorem mf_X12_drinks : mS yX12_drinks cX12_drinks 1 (none) 1 := ⟨⟨gin 1912 (by decide +kernel) rfl, ⟨by decide +kernel, by decide +kernel, by decide +kernel⟩, by decide, gin 104 (by decide +kernel) rfl⟩, gin 1911 (by decide +kernel) rfl⟩
set_option maxRecDepth 100000 in
theorem mf_X12_fails : mV yX12_fails cX12_fails 1 (some .boolean) 0 12 := ⟨⟨gin 1690 (by decide +kernel) rfl, ⟨by decide +kernel, by decide +kernel, by decide +kernel⟩, by decide, gin 104 (by decide +kernel) rfl⟩, gin 1689 (by decide +kernel) rfl, gin 42 (by decide +kernel) rfl, ⟨TX12, 51, rfl⟩⟩
set_option maxRecDepth 100000 in
theorem mf_X12_fault : mV yX12_fault cX12_fault 2 (some .int) 1 12 := ⟨⟨gin 1663 (by decide +kernel) rfl, ⟨by decide +kernel, by decide +kernel, by decide +kernel⟩, by decide, gin 104 (by decide +kernel) rfl⟩, gin 1661 (by decide +kernel) rfl, gin 1662 (by decide +kernel) rfl, ⟨TX12, 51, rfl⟩⟩
set_option maxRecDepth 100000 in
theorem mf_X12_gameOf : mV yX12_gameOf cX12_gameOf 11 (some .int) 6 12 := ⟨⟨gin 2066 (by decide +kernel) rfl, ⟨by decide +kernel, by decide +kernel, by decide +kernel⟩, by decide, gin 104 (by decide +kernel) rfl⟩, gin 2065 (by decide +kernel) rfl, gin 87 (by decide +kernel) rfl, ⟨TX12, 51, rfl⟩⟩
set_option maxRecDepth 100000 in
theorem mf_X12_goLeast : mV yX12_goLeast cX12_goLeast 11 (none) 3 12 := ⟨⟨gin 2003 (by decide +kernel) rfl, ⟨by decide +kernel, by decide +kernel, by decide +kernel⟩, by decide, gin 104 (by decide +kernel) rfl⟩, gin 2002 (by decide +kernel) rfl, gin 81 (by decide +kernel) rfl, ⟨TX12, 51, rfl⟩⟩
set_option maxRecDepth 100000 in
theorem mf_X12_goNight : mV yX12_goNight cX12_goNight 6 (some .int) 1 12 := ⟨⟨gin 1932 (by decide +kernel) rfl, ⟨by decide +kernel, by decide +kernel, by decide +kernel⟩, by decide, gin 104 (by decide +kernel) rfl⟩, gin 1931 (by decide +kernel) rfl, gin 73 (by decide +kernel) rfl, ⟨TX12, 51, rfl⟩⟩
set_option maxRecDepth 100000 in
theorem mf_X12_goRoster : mV yX12_goRoster cX12_goRoster 9 (none) 4 12 := ⟨⟨gin 2015 (by decide +kernel) rfl, ⟨by decide +kernel, by decide +kernel, by decide +kernel⟩, by decide, gin 104 (by decide +kernel) rfl⟩, gin 2014 (by decide +kernel) rfl, gin 82 (by decide +kernel) rfl, ⟨TX12, 51, rfl⟩⟩
set_option maxRecDepth 100000 in
theorem mf_X12_goThrough : mV yX12_goThrough cX12_goThrough 4 (none) 3 12 := ⟨⟨gin 1746 (by decide +kernel) rfl, ⟨by decide +kernel, by decide +kernel, by decide +kernel⟩, by decide, gin 104 (by decide +kernel) rfl⟩, gin 1745 (by decide +kernel) rfl, gin 47 (by decide +kernel) rfl, ⟨TX12, 51, rfl⟩⟩
set_option maxRecDepth 100000 in
theorem mf_X12_goesIn : mV yX12_goesIn cX12_goesIn 1 (some .boolean) 0 12 := ⟨⟨gin 1785 (by decide +kernel) rfl, ⟨by decide +kernel, by decide +kernel, by decide +kernel⟩, by decide, gin 104 (by decide +kernel) rfl⟩, gin 1784 (by decide +kernel) rfl, gin 56 (by decide +kernel) rfl, ⟨TX12, 51, rfl⟩⟩
set_option maxRecDepth 100000 in
theorem mf_X12_has : mS yX12_has cX12_has 2 (some .boolean) 2 := ⟨⟨gin 1722 (by decide +kernel) rfl, ⟨by decide +kernel, by decide +kernel, by decide +kernel⟩, by decide, gin 104 (by decide +kernel) rfl⟩, gin 1721 (by decide +kernel) rfl⟩
set_option maxRecDepth 100000 in
theorem mf_X12_held : mS yX12_held cX12_held 1 (some .int) 1 := ⟨⟨gin 1905 (by decide +kernel) rfl, ⟨by decide +kernel, by decide +kernel, by decide +kernel⟩, by decide, gin 104 (by decide +kernel) rfl⟩, gin 1904 (by decide +kernel) rfl⟩
set_option maxRecDepth 100000 in
theorem mf_X12_here : mV yX12_here cX12_here 1 (some .int) 0 12 := ⟨⟨gin 1740 (by decide +kernel) rfl, ⟨by decide +kernel, by decide +kernel, by decide +kernel⟩, by decide, gin 104 (by decide +kernel) rfl⟩, gin 1739 (by decide +kernel) rfl, gin 46 (by decide +kernel) rfl, ⟨TX12, 51, rfl⟩⟩
set_option maxRecDepth 100000 in
theorem mf_X12_isAmong : mS yX12_isAmong cX12_isAmong 3 (some .boolean) 2 := ⟨⟨gin 1753 (by decide +kernel) rfl, ⟨by decide +kernel, by decide +kernel, by decide +kernel⟩, by decide, gin 104 (by decide +kernel) rfl⟩, gin 1752 (by decide +kernel) rfl⟩
set_option maxRecDepth 100000 in
theorem mf_X12_isBook : mV yX12_isBook cX12_isBook 2 (some .boolean) 1 12 := ⟨⟨gin 1833 (by decide +kernel) rfl, ⟨by decide +kernel, by decide +kernel, by decide +kernel⟩, by decide, gin 104 (by decide +kernel) rfl⟩, gin 1832 (by decide +kernel) rfl, gin 61 (by decide +kernel) rfl, ⟨TX12, 51, rfl⟩⟩
set_option maxRecDepth 100000 in
theorem mf_X12_isCode : mS yX12_isCode cX12_isCode 1 (some .boolean) 1 := ⟨⟨gin 2033 (by decide +kernel) rfl, ⟨by decide +kernel, by decide +kernel, by decide +kernel⟩, by decide, gin 104 (by decide +kernel) rfl⟩, gin 2032 (by decide +kernel) rfl⟩
set_option maxRecDepth 100000 in
theorem mf_X12_isDigit : mV yX12_isDigit cX12_isDigit 1 (some .boolean) 0 12 := ⟨⟨gin 1736 (by decide +kernel) rfl, ⟨by decide +kernel, by decide +kernel, by decide +kernel⟩, by decide, gin 104 (by decide +kernel) rfl⟩, gin 1735 (by decide +kernel) rfl, gin 45 (by decide +kernel) rfl, ⟨TX12, 51, rfl⟩⟩
set_option maxRecDepth 100000 in
theorem mf_X12_isEnough : mV yX12_isEnough cX12_isEnough 2 (some .boolean) 1 12 := ⟨⟨gin 1936 (by decide +kernel) rfl, ⟨by decide +kernel, by decide +kernel, by decide +kernel⟩, by decide, gin 104 (by decide +kernel) rfl⟩, gin 1935 (by decide +kernel) rfl, gin 74 (by decide +kernel) rfl, ⟨TX12, 51, rfl⟩⟩
set_option maxRecDepth 100000 in
theorem mf_X12_isGame : mV yX12_isGame cX12_isGame 4 (some .boolean) 3 12 := ⟨⟨gin 2062 (by decide +kernel) rfl, ⟨by decide +kernel, by decide +kernel, by decide +kernel⟩, by decide, gin 104 (by decide +kernel) rfl⟩, gin 2061 (by decide +kernel) rfl, gin 86 (by decide +kernel) rfl, ⟨TX12, 51, rfl⟩⟩
set_option maxRecDepth 100000 in
theorem mf_X12_isHouse : mV yX12_isHouse cX12_isHouse 2 (some .boolean) 1 12 := ⟨⟨gin 1842 (by decide +kernel) rfl, ⟨by decide +kernel, by decide +kernel, by decide +kernel⟩, by decide, gin 104 (by decide +kernel) rfl⟩, gin 1841 (by decide +kernel) rfl, gin 62 (by decide +kernel) rfl, ⟨TX12, 51, rfl⟩⟩
set_option maxRecDepth 100000 in
theorem mf_X12_isIn : mS yX12_isIn cX12_isIn 6 (some .boolean) 3 := ⟨⟨gin 1667 (by decide +kernel) rfl, ⟨by decide +kernel, by decide +kernel, by decide +kernel⟩, by decide, gin 104 (by decide +kernel) rfl⟩, gin 1666 (by decide +kernel) rfl⟩
set_option maxRecDepth 100000 in
theorem mf_X12_isLiked : mV yX12_isLiked cX12_isLiked 3 (some .boolean) 1 12 := ⟨⟨gin 2037 (by decide +kernel) rfl, ⟨by decide +kernel, by decide +kernel, by decide +kernel⟩, by decide, gin 104 (by decide +kernel) rfl⟩, gin 2036 (by decide +kernel) rfl, gin 83 (by decide +kernel) rfl, ⟨TX12, 51, rfl⟩⟩
set_option maxRecDepth 100000 in
theorem mf_X12_isReadTo : mV yX12_isReadTo cX12_isReadTo 4 (some .boolean) 2 12 := ⟨⟨gin 2054 (by decide +kernel) rfl, ⟨by decide +kernel, by decide +kernel, by decide +kernel⟩, by decide, gin 104 (by decide +kernel) rfl⟩, gin 2053 (by decide +kernel) rfl, gin 85 (by decide +kernel) rfl, ⟨TX12, 51, rfl⟩⟩
set_option maxRecDepth 100000 in
theorem mf_X12_isSign : mS yX12_isSign cX12_isSign 1 (some .boolean) 1 := ⟨⟨gin 1799 (by decide +kernel) rfl, ⟨by decide +kernel, by decide +kernel, by decide +kernel⟩, by decide, gin 104 (by decide +kernel) rfl⟩, gin 1798 (by decide +kernel) rfl⟩
set_option maxRecDepth 100000 in
theorem mf_X12_isWeek : mV yX12_isWeek cX12_isWeek 2 (some .boolean) 1 12 := ⟨⟨gin 1971 (by decide +kernel) rfl, ⟨by decide +kernel, by decide +kernel, by decide +kernel⟩, by decide, gin 104 (by decide +kernel) rfl⟩, gin 1970 (by decide +kernel) rfl, gin 78 (by decide +kernel) rfl, ⟨TX12, 51, rfl⟩⟩
set_option maxRecDepth 100000 in
theorem mf_X12_kindOf : mV yX12_kindOf cX12_kindOf 2 (some .int) 1 12 := ⟨⟨gin 1888 (by decide +kernel) rfl, ⟨by decide +kernel, by decide +kernel, by decide +kernel⟩, by decide, gin 104 (by decide +kernel) rfl⟩, gin 1887 (by decide +kernel) rfl, gin 69 (by decide +kernel) rfl, ⟨TX12, 51, rfl⟩⟩
set_option maxRecDepth 100000 in
theorem mf_X12_leastOf : mS yX12_leastOf cX12_leastOf 2 (some .int) 2 := ⟨⟨gin 1725 (by decide +kernel) rfl, ⟨by decide +kernel, by decide +kernel, by decide +kernel⟩, by decide, gin 104 (by decide +kernel) rfl⟩, gin 1724 (by decide +kernel) rfl⟩
set_option maxRecDepth 100000 in
theorem mf_X12_longest : mV yX12_longest cX12_longest 3 (some .int) 0 12 := ⟨⟨gin 2096 (by decide +kernel) rfl, ⟨by decide +kernel, by decide +kernel, by decide +kernel⟩, by decide, gin 104 (by decide +kernel) rfl⟩, gin 2095 (by decide +kernel) rfl, gin 89 (by decide +kernel) rfl, ⟨TX12, 51, rfl⟩⟩
set_option maxRecDepth 100000 in
theorem mf_X12_look : mV yX12_look cX12_look 1 (some .int) 0 12 := ⟨⟨gin 1686 (by decide +kernel) rfl, ⟨by decide +kernel, by decide +kernel, by decide +kernel⟩, by decide, gin 104 (by decide +kernel) rfl⟩, gin 1685 (by decide +kernel) rfl, gin 41 (by decide +kernel) rfl, ⟨TX12, 51, rfl⟩⟩
set_option maxRecDepth 100000 in
theorem mf_X12_mayRead : mV yX12_mayRead cX12_mayRead 5 (some .boolean) 4 12 := ⟨⟨gin 1868 (by decide +kernel) rfl, ⟨by decide +kernel, by decide +kernel, by decide +kernel⟩, by decide, gin 104 (by decide +kernel) rfl⟩, gin 1867 (by decide +kernel) rfl, gin 64 (by decide +kernel) rfl, ⟨TX12, 51, rfl⟩⟩
set_option maxRecDepth 100000 in
theorem mf_X12_mostOf : mS yX12_mostOf cX12_mostOf 2 (some .int) 2 := ⟨⟨gin 1728 (by decide +kernel) rfl, ⟨by decide +kernel, by decide +kernel, by decide +kernel⟩, by decide, gin 104 (by decide +kernel) rfl⟩, gin 1727 (by decide +kernel) rfl⟩
set_option maxRecDepth 100000 in
theorem mf_X12_number : mV yX12_number cX12_number 5 (some .int) 2 12 := ⟨⟨gin 1732 (by decide +kernel) rfl, ⟨by decide +kernel, by decide +kernel, by decide +kernel⟩, by decide, gin 104 (by decide +kernel) rfl⟩, gin 1731 (by decide +kernel) rfl, gin 44 (by decide +kernel) rfl, ⟨TX12, 51, rfl⟩⟩
set_option maxRecDepth 100000 in
theorem mf_X12_page : mV yX12_page cX12_page 7 (some .int) 6 12 := ⟨⟨gin 1892 (by decide +kernel) rfl, ⟨by decide +kernel, by decide +kernel, by decide +kernel⟩, by decide, gin 104 (by decide +kernel) rfl⟩, gin 1891 (by decide +kernel) rfl, gin 70 (by decide +kernel) rfl, ⟨TX12, 51, rfl⟩⟩
set_option maxRecDepth 100000 in
theorem mf_X12_pageWorth : mV yX12_pageWorth cX12_pageWorth 10 (some .int) 6 12 := ⟨⟨gin 1896 (by decide +kernel) rfl, ⟨by decide +kernel, by decide +kernel, by decide +kernel⟩, by decide, gin 104 (by decide +kernel) rfl⟩, gin 1895 (by decide +kernel) rfl, gin 71 (by decide +kernel) rfl, ⟨TX12, 51, rfl⟩⟩
set_option maxRecDepth 100000 in
theorem mf_X12_pagesOf : mV yX12_pagesOf cX12_pagesOf 2 (some .int) 1 12 := ⟨⟨gin 1876 (by decide +kernel) rfl, ⟨by decide +kernel, by decide +kernel, by decide +kernel⟩, by decide, gin 104 (by decide +kernel) rfl⟩, gin 1875 (by decide +kernel) rfl, gin 66 (by decide +kernel) rfl, ⟨TX12, 51, rfl⟩⟩
set_option maxRecDepth 100000 in
theorem mf_X12_part : mV yX12_part cX12_part 5 (some .boolean) 2 12 := ⟨⟨gin 1765 (by decide +kernel) rfl, ⟨by decide +kernel, by decide +kernel, by decide +kernel⟩, by decide, gin 104 (by decide +kernel) rfl⟩, gin 1764 (by decide +kernel) rfl, gin 51 (by decide +kernel) rfl, ⟨TX12, 51, rfl⟩⟩
set_option maxRecDepth 100000 in
theorem mf_X12_put : mV yX12_put cX12_put 3 (none) 1 12 := ⟨⟨gin 1655 (by decide +kernel) rfl, ⟨by decide +kernel, by decide +kernel, by decide +kernel⟩, by decide, gin 104 (by decide +kernel) rfl⟩, gin 1654 (by decide +kernel) rfl, gin 37 (by decide +kernel) rfl, ⟨TX12, 51, rfl⟩⟩
set_option maxRecDepth 100000 in
theorem mf_X12_readClause : mV yX12_readClause cX12_readClause 3 (none) 0 12 := ⟨⟨gin 1682 (by decide +kernel) rfl, ⟨by decide +kernel, by decide +kernel, by decide +kernel⟩, by decide, gin 104 (by decide +kernel) rfl⟩, gin 1681 (by decide +kernel) rfl, gin 40 (by decide +kernel) rfl, ⟨TX12, 51, rfl⟩⟩
set_option maxRecDepth 100000 in
theorem mf_X12_readItems : mV yX12_readItems cX12_readItems 7 (none) 4 12 := ⟨⟨gin 1695 (by decide +kernel) rfl, ⟨by decide +kernel, by decide +kernel, by decide +kernel⟩, by decide, gin 104 (by decide +kernel) rfl⟩, gin 1694 (by decide +kernel) rfl, gin 43 (by decide +kernel) rfl, ⟨TX12, 51, rfl⟩⟩
set_option maxRecDepth 100000 in
theorem mf_X12_readLanding : mV yX12_readLanding cX12_readLanding 2 (none) 0 12 := ⟨⟨gin 1671 (by decide +kernel) rfl, ⟨by decide +kernel, by decide +kernel, by decide +kernel⟩, by decide, gin 104 (by decide +kernel) rfl⟩, gin 1670 (by decide +kernel) rfl, gin 38 (by decide +kernel) rfl, ⟨TX12, 51, rfl⟩⟩
set_option maxRecDepth 100000 in
theorem mf_X12_readStep : mV yX12_readStep cX12_readStep 3 (none) 1 12 := ⟨⟨gin 1811 (by decide +kernel) rfl, ⟨by decide +kernel, by decide +kernel, by decide +kernel⟩, by decide, gin 104 (by decide +kernel) rfl⟩, gin 1810 (by decide +kernel) rfl, gin 59 (by decide +kernel) rfl, ⟨TX12, 51, rfl⟩⟩
set_option maxRecDepth 100000 in
theorem mf_X12_readWeek : mV yX12_readWeek cX12_readWeek 3 (none) 0 12 := ⟨⟨gin 1807 (by decide +kernel) rfl, ⟨by decide +kernel, by decide +kernel, by decide +kernel⟩, by decide, gin 104 (by decide +kernel) rfl⟩, gin 1806 (by decide +kernel) rfl, gin 58 (by decide +kernel) rfl, ⟨TX12, 51, rfl⟩⟩
set_option maxRecDepth 100000 in
theorem mf_X12_reads : mV yX12_reads cX12_reads 8 (none) 4 12 := ⟨⟨gin 1884 (by decide +kernel) rfl, ⟨by decide +kernel, by decide +kernel, by decide +kernel⟩, by decide, gin 104 (by decide +kernel) rfl⟩, gin 1883 (by decide +kernel) rfl, gin 68 (by decide +kernel) rfl, ⟨TX12, 51, rfl⟩⟩
set_option maxRecDepth 100000 in
theorem mf_X12_remember : mV yX12_remember cX12_remember 2 (none) 0 12 := ⟨⟨gin 1880 (by decide +kernel) rfl, ⟨by decide +kernel, by decide +kernel, by decide +kernel⟩, by decide, gin 104 (by decide +kernel) rfl⟩, gin 1879 (by decide +kernel) rfl, gin 67 (by decide +kernel) rfl, ⟨TX12, 51, rfl⟩⟩
set_option maxRecDepth 100000 in
theorem mf_X12_spotOf : mS yX12_spotOf cX12_spotOf 3 (some .int) 2 := ⟨⟨gin 1699 (by decide +kernel) rfl, ⟨by decide +kernel, by decide +kernel, by decide +kernel⟩, by decide, gin 104 (by decide +kernel) rfl⟩, gin 1698 (by decide +kernel) rfl⟩
set_option maxRecDepth 100000 in
theorem mf_X12_starts : mV yX12_starts cX12_starts 4 (none) 3 12 := ⟨⟨gin 1675 (by decide +kernel) rfl, ⟨by decide +kernel, by decide +kernel, by decide +kernel⟩, by decide, gin 104 (by decide +kernel) rfl⟩, gin 1674 (by decide +kernel) rfl, gin 39 (by decide +kernel) rfl, ⟨TX12, 51, rfl⟩⟩
set_option maxRecDepth 100000 in
theorem mf_X12_steps : mV yX12_steps cX12_steps 3 (some .int) 2 12 := ⟨⟨gin 1987 (by decide +kernel) rfl, ⟨by decide +kernel, by decide +kernel, by decide +kernel⟩, by decide, gin 104 (by decide +kernel) rfl⟩, gin 1986 (by decide +kernel) rfl, gin 80 (by decide +kernel) rfl, ⟨TX12, 51, rfl⟩⟩
set_option maxRecDepth 100000 in
theorem mf_X12_strength : mV yX12_strength cX12_strength 2 (some .int) 1 12 := ⟨⟨gin 1847 (by decide +kernel) rfl, ⟨by decide +kernel, by decide +kernel, by decide +kernel⟩, by decide, gin 104 (by decide +kernel) rfl⟩, gin 1846 (by decide +kernel) rfl, gin 63 (by decide +kernel) rfl, ⟨TX12, 51, rfl⟩⟩
set_option maxRecDepth 100000 in
theorem mf_X12_sum : mV yX12_sum cX12_sum 5 (some .int) 0 12 := ⟨⟨gin 1773 (by decide +kernel) rfl, ⟨by decide +kernel, by decide +kernel, by decide +kernel⟩, by decide, gin 104 (by decide +kernel) rfl⟩, gin 1772 (by decide +kernel) rfl, gin 53 (by decide +kernel) rfl, ⟨TX12, 51, rfl⟩⟩
set_option maxRecDepth 100000 in
theorem mf_X12_takes : mV yX12_takes cX12_takes 2 (some .boolean) 1 12 := ⟨⟨gin 1757 (by decide +kernel) rfl, ⟨by decide +kernel, by decide +kernel, by decide +kernel⟩, by decide, gin 104 (by decide +kernel) rfl⟩, gin 1756 (by decide +kernel) rfl, gin 49 (by decide +kernel) rfl, ⟨TX12, 51, rfl⟩⟩
set_option maxRecDepth 100000 in
theorem mf_X12_term : mV yX12_term cX12_term 5 (some .int) 0 12 := ⟨⟨gin 1777 (by decide +kernel) rfl, ⟨by decide +kernel, by decide +kernel, by decide +kernel⟩, by decide, gin 104 (by decide +kernel) rfl⟩, gin 1776 (by decide +kernel) rfl, gin 54 (by decide +kernel) rfl, ⟨TX12, 51, rfl⟩⟩
set_option maxRecDepth 100000 in
theorem mf_X12_unit : mV yX12_unit cX12_unit 3 (some .boolean) 0 12 := ⟨⟨gin 1803 (by decide +kernel) rfl, ⟨by decide +kernel, by decide +kernel, by decide +kernel⟩, by decide, gin 104 (by decide +kernel) rfl⟩, gin 1802 (by decide +kernel) rfl, gin 57 (by decide +kernel) rfl, ⟨TX12, 51, rfl⟩⟩
set_option maxRecDepth 100000 in
theorem mf_X12_usual : mS yX12_usual cX12_usual 2 (some .int) 2 := ⟨⟨gin 1678 (by decide +kernel) rfl, ⟨by decide +kernel, by decide +kernel, by decide +kernel⟩, by decide, gin 104 (by decide +kernel) rfl⟩, gin 1677 (by decide +kernel) rfl⟩
set_option maxRecDepth 100000 in
theorem mf_X12_valueOf : mV yX12_valueOf cX12_valueOf 3 (some .int) 2 12 := ⟨⟨gin 2100 (by decide +kernel) rfl, ⟨by decide +kernel, by decide +kernel, by decide +kernel⟩, by decide, gin 104 (by decide +kernel) rfl⟩, gin 2099 (by decide +kernel) rfl, gin 90 (by decide +kernel) rfl, ⟨TX12, 51, rfl⟩⟩
set_option maxRecDepth 100000 in
theorem mf_X12_within : mS yX12_within cX12_within 2 (some .int) 1 := ⟨⟨gin 1788 (by decide +kernel) rfl, ⟨by decide +kernel, by decide +kernel, by decide +kernel⟩, by decide, gin 104 (by decide +kernel) rfl⟩, gin 1787 (by decide +kernel) rfl⟩
set_option maxRecDepth 100000 in
theorem mf_X1_books : mV yX1_books cX1_books 1 (some .int) 0 1 := ⟨⟨gin 680 (by decide +kernel) rfl, ⟨by decide +kernel, by decide +kernel, by decide +kernel⟩, by decide, gin 95 (by decide +kernel) rfl⟩, gin 678 (by decide +kernel) rfl, gin 679 (by decide +kernel) rfl, ⟨TX1, 2, rfl⟩⟩
set_option maxRecDepth 100000 in
theorem mf_X1_calmAtFirst : mV yX1_calmAtFirst cX1_calmAtFirst 1 (some .int) 0 1 := ⟨⟨gin 802 (by decide +kernel) rfl, ⟨by decide +kernel, by decide +kernel, by decide +kernel⟩, by decide, gin 95 (by decide +kernel) rfl⟩, gin 800 (by decide +kernel) rfl, gin 801 (by decide +kernel) rfl, ⟨TX1, 2, rfl⟩⟩
set_option maxRecDepth 100000 in
theorem mf_X1_calmingOf : mV yX1_calmingOf cX1_calmingOf 2 (some .int) 1 1 := ⟨⟨gin 855 (by decide +kernel) rfl, ⟨by decide +kernel, by decide +kernel, by decide +kernel⟩, by decide, gin 95 (by decide +kernel) rfl⟩, gin 853 (by decide +kernel) rfl, gin 854 (by decide +kernel) rfl, ⟨TX1, 2, rfl⟩⟩
set_option maxRecDepth 100000 in
theorem mf_X1_childrenOf : mV yX1_childrenOf cX1_childrenOf 2 (some .int) 1 1 := ⟨⟨gin 1034 (by decide +kernel) rfl, ⟨by decide +kernel, by decide +kernel, by decide +kernel⟩, by decide, gin 95 (by decide +kernel) rfl⟩, gin 1032 (by decide +kernel) rfl, gin 1033 (by decide +kernel) rfl, ⟨TX1, 2, rfl⟩⟩
set_option maxRecDepth 100000 in
theorem mf_X1_clear : mV yX1_clear cX1_clear 1 (none) 0 1 := ⟨⟨gin 525 (by decide +kernel) rfl, ⟨by decide +kernel, by decide +kernel, by decide +kernel⟩, by decide, gin 95 (by decide +kernel) rfl⟩, gin 523 (by decide +kernel) rfl, gin 524 (by decide +kernel) rfl, ⟨TX1, 2, rfl⟩⟩
set_option maxRecDepth 100000 in
theorem mf_X1_copyFrom : mV yX1_copyFrom cX1_copyFrom 2 (none) 1 1 := ⟨⟨gin 777 (by decide +kernel) rfl, ⟨by decide +kernel, by decide +kernel, by decide +kernel⟩, by decide, gin 95 (by decide +kernel) rfl⟩, gin 775 (by decide +kernel) rfl, gin 776 (by decide +kernel) rfl, ⟨TX1, 2, rfl⟩⟩
set_option maxRecDepth 100000 in
theorem mf_X1_enough : mV yX1_enough cX1_enough 1 (some .int) 0 1 := ⟨⟨gin 834 (by decide +kernel) rfl, ⟨by decide +kernel, by decide +kernel, by decide +kernel⟩, by decide, gin 95 (by decide +kernel) rfl⟩, gin 832 (by decide +kernel) rfl, gin 833 (by decide +kernel) rfl, ⟨TX1, 2, rfl⟩⟩
set_option maxRecDepth 100000 in
theorem mf_X1_fillUsual : mV yX1_fillUsual cX1_fillUsual 4 (none) 2 1 := ⟨⟨gin 532 (by decide +kernel) rfl, ⟨by decide +kernel, by decide +kernel, by decide +kernel⟩, by decide, gin 95 (by decide +kernel) rfl⟩, gin 531 (by decide +kernel) rfl, gin 2 (by decide +kernel) rfl, ⟨TX1, 2, rfl⟩⟩
set_option maxRecDepth 100000 in
theorem mf_X1_firstVoiceOf : mV yX1_firstVoiceOf cX1_firstVoiceOf 2 (some .int) 1 1 := ⟨⟨gin 792 (by decide +kernel) rfl, ⟨by decide +kernel, by decide +kernel, by decide +kernel⟩, by decide, gin 95 (by decide +kernel) rfl⟩, gin 790 (by decide +kernel) rfl, gin 791 (by decide +kernel) rfl, ⟨TX1, 2, rfl⟩⟩
set_option maxRecDepth 100000 in
theorem mf_X1_hasBook : mV yX1_hasBook cX1_hasBook 2 (some .boolean) 1 1 := ⟨⟨gin 846 (by decide +kernel) rfl, ⟨by decide +kernel, by decide +kernel, by decide +kernel⟩, by decide, gin 95 (by decide +kernel) rfl⟩, gin 844 (by decide +kernel) rfl, gin 845 (by decide +kernel) rfl, ⟨TX1, 2, rfl⟩⟩
set_option maxRecDepth 100000 in
theorem mf_X1_hasHouse : mV yX1_hasHouse cX1_hasHouse 2 (some .boolean) 1 1 := ⟨⟨gin 1004 (by decide +kernel) rfl, ⟨by decide +kernel, by decide +kernel, by decide +kernel⟩, by decide, gin 95 (by decide +kernel) rfl⟩, gin 1002 (by decide +kernel) rfl, gin 1003 (by decide +kernel) rfl, ⟨TX1, 2, rfl⟩⟩
set_option maxRecDepth 100000 in
theorem mf_X1_houses : mV yX1_houses cX1_houses 1 (some .int) 0 1 := ⟨⟨gin 684 (by decide +kernel) rfl, ⟨by decide +kernel, by decide +kernel, by decide +kernel⟩, by decide, gin 95 (by decide +kernel) rfl⟩, gin 682 (by decide +kernel) rfl, gin 683 (by decide +kernel) rfl, ⟨TX1, 2, rfl⟩⟩
set_option maxRecDepth 100000 in
theorem mf_X1_kindOf : mV yX1_kindOf cX1_kindOf 2 (some .int) 1 1 := ⟨⟨gin 859 (by decide +kernel) rfl, ⟨by decide +kernel, by decide +kernel, by decide +kernel⟩, by decide, gin 95 (by decide +kernel) rfl⟩, gin 857 (by decide +kernel) rfl, gin 858 (by decide +kernel) rfl, ⟨TX1, 2, rfl⟩⟩
set_option maxRecDepth 100000 in
theorem mf_X1_loses : mV yX1_loses cX1_loses 1 (some .int) 0 1 := ⟨⟨gin 838 (by decide +kernel) rfl, ⟨by decide +kernel, by decide +kernel, by decide +kernel⟩, by decide, gin 95 (by decide +kernel) rfl⟩, gin 836 (by decide +kernel) rfl, gin 837 (by decide +kernel) rfl, ⟨TX1, 2, rfl⟩⟩
set_option maxRecDepth 100000 in
theorem mf_X1_open : mV yX1_open cX1_open 3 (some .int) 1 1 := ⟨⟨gin 645 (by decide +kernel) rfl, ⟨by decide +kernel, by decide +kernel, by decide +kernel⟩, by decide, gin 95 (by decide +kernel) rfl⟩, gin 643 (by decide +kernel) rfl, gin 644 (by decide +kernel) rfl, ⟨TX1, 2, rfl⟩⟩
set_option maxRecDepth 100000 in
theorem mf_X1_pagesOf : mV yX1_pagesOf cX1_pagesOf 2 (some .int) 1 1 := ⟨⟨gin 851 (by decide +kernel) rfl, ⟨by decide +kernel, by decide +kernel, by decide +kernel⟩, by decide, gin 95 (by decide +kernel) rfl⟩, gin 849 (by decide +kernel) rfl, gin 850 (by decide +kernel) rfl, ⟨TX1, 2, rfl⟩⟩
set_option maxRecDepth 100000 in
theorem mf_X1_stands : mV yX1_stands cX1_stands 1 (some .boolean) 0 1 := ⟨⟨gin 829 (by decide +kernel) rfl, ⟨by decide +kernel, by decide +kernel, by decide +kernel⟩, by decide, gin 95 (by decide +kernel) rfl⟩, gin 827 (by decide +kernel) rfl, gin 828 (by decide +kernel) rfl, ⟨TX1, 2, rfl⟩⟩
set_option maxRecDepth 100000 in
theorem mf_X1_strengthOf : mV yX1_strengthOf cX1_strengthOf 2 (some .int) 1 1 := ⟨⟨gin 906 (by decide +kernel) rfl, ⟨by decide +kernel, by decide +kernel, by decide +kernel⟩, by decide, gin 95 (by decide +kernel) rfl⟩, gin 904 (by decide +kernel) rfl, gin 905 (by decide +kernel) rfl, ⟨TX1, 2, rfl⟩⟩
set_option maxRecDepth 100000 in
theorem mf_X1_tell : mV yX1_tell cX1_tell 5 (none) 4 1 := ⟨⟨gin 541 (by decide +kernel) rfl, ⟨by decide +kernel, by decide +kernel, by decide +kernel⟩, by decide, gin 95 (by decide +kernel) rfl⟩, gin 539 (by decide +kernel) rfl, gin 540 (by decide +kernel) rfl, ⟨TX1, 2, rfl⟩⟩
set_option maxRecDepth 100000 in
theorem mf_X1_told : mV yX1_told cX1_told 4 (some .int) 3 1 := ⟨⟨gin 796 (by decide +kernel) rfl, ⟨by decide +kernel, by decide +kernel, by decide +kernel⟩, by decide, gin 95 (by decide +kernel) rfl⟩, gin 795 (by decide +kernel) rfl, gin 17 (by decide +kernel) rfl, ⟨TX1, 2, rfl⟩⟩
set_option maxRecDepth 100000 in
theorem mf_X2_isRight : mV yX2_isRight cX2_isRight 2 (some .boolean) 0 2 := ⟨⟨gin 521 (by decide +kernel) rfl, ⟨by decide +kernel, by decide +kernel, by decide +kernel⟩, by decide, gin 94 (by decide +kernel) rfl⟩, gin 519 (by decide +kernel) rfl, gin 520 (by decide +kernel) rfl, ⟨TX2, 2, rfl⟩⟩
set_option maxRecDepth 100000 in
theorem mf_X2_takeClause : mV yX2_takeClause cX2_takeClause 7 (some .boolean) 0 2 := ⟨⟨gin 550 (by decide +kernel) rfl, ⟨by decide +kernel, by decide +kernel, by decide +kernel⟩, by decide, gin 94 (by decide +kernel) rfl⟩, gin 549 (by decide +kernel) rfl, gin 3 (by decide +kernel) rfl, ⟨TX2, 2, rfl⟩⟩
set_option maxRecDepth 100000 in
theorem mf_X2_takeItem : mV yX2_takeItem cX2_takeItem 6 (some .boolean) 3 2 := ⟨⟨gin 654 (by decide +kernel) rfl, ⟨by decide +kernel, by decide +kernel, by decide +kernel⟩, by decide, gin 94 (by decide +kernel) rfl⟩, gin 653 (by decide +kernel) rfl, gin 4 (by decide +kernel) rfl, ⟨TX2, 2, rfl⟩⟩
set_option maxRecDepth 100000 in
theorem mf_X3_isRight : mV yX3_isRight cX3_isRight 2 (some .boolean) 0 3 := ⟨⟨gin 692 (by decide +kernel) rfl, ⟨by decide +kernel, by decide +kernel, by decide +kernel⟩, by decide, gin 96 (by decide +kernel) rfl⟩, gin 690 (by decide +kernel) rfl, gin 691 (by decide +kernel) rfl, ⟨TX3, 3, rfl⟩⟩
set_option maxRecDepth 100000 in
theorem mf_X3_order : mV yX3_order cX3_order 2 (none) 1 3 := ⟨⟨gin 722 (by decide +kernel) rfl, ⟨by decide +kernel, by decide +kernel, by decide +kernel⟩, by decide, gin 96 (by decide +kernel) rfl⟩, gin 721 (by decide +kernel) rfl, gin 10 (by decide +kernel) rfl, ⟨TX3, 3, rfl⟩⟩
set_option maxRecDepth 100000 in
theorem mf_X3_takeAtom : mV yX3_takeAtom cX3_takeAtom 4 (some .boolean) 1 3 := ⟨⟨gin 712 (by decide +kernel) rfl, ⟨by decide +kernel, by decide +kernel, by decide +kernel⟩, by decide, gin 96 (by decide +kernel) rfl⟩, gin 711 (by decide +kernel) rfl, gin 9 (by decide +kernel) rfl, ⟨TX3, 3, rfl⟩⟩
set_option maxRecDepth 100000 in
theorem mf_X3_takeClause : mV yX3_takeClause cX3_takeClause 3 (some .boolean) 0 3 := ⟨⟨gin 696 (by decide +kernel) rfl, ⟨by decide +kernel, by decide +kernel, by decide +kernel⟩, by decide, gin 96 (by decide +kernel) rfl⟩, gin 695 (by decide +kernel) rfl, gin 6 (by decide +kernel) rfl, ⟨TX3, 3, rfl⟩⟩
set_option maxRecDepth 100000 in
theorem mf_X3_takeCondition : mV yX3_takeCondition cX3_takeCondition 4 (some .boolean) 2 3 := ⟨⟨gin 731 (by decide +kernel) rfl, ⟨by decide +kernel, by decide +kernel, by decide +kernel⟩, by decide, gin 96 (by decide +kernel) rfl⟩, gin 730 (by decide +kernel) rfl, gin 11 (by decide +kernel) rfl, ⟨TX3, 3, rfl⟩⟩
set_option maxRecDepth 100000 in
theorem mf_X3_takeInnerUnit : mV yX3_takeInnerUnit cX3_takeInnerUnit 3 (some .boolean) 2 3 := ⟨⟨gin 743 (by decide +kernel) rfl, ⟨by decide +kernel, by decide +kernel, by decide +kernel⟩, by decide, gin 96 (by decide +kernel) rfl⟩, gin 742 (by decide +kernel) rfl, gin 14 (by decide +kernel) rfl, ⟨TX3, 3, rfl⟩⟩
set_option maxRecDepth 100000 in
theorem mf_X3_takeSum : mV yX3_takeSum cX3_takeSum 4 (some .boolean) 1 3 := ⟨⟨gin 704 (by decide +kernel) rfl, ⟨by decide +kernel, by decide +kernel, by decide +kernel⟩, by decide, gin 96 (by decide +kernel) rfl⟩, gin 703 (by decide +kernel) rfl, gin 7 (by decide +kernel) rfl, ⟨TX3, 3, rfl⟩⟩
set_option maxRecDepth 100000 in
theorem mf_X3_takeTerm : mV yX3_takeTerm cX3_takeTerm 4 (some .boolean) 1 3 := ⟨⟨gin 708 (by decide +kernel) rfl, ⟨by decide +kernel, by decide +kernel, by decide +kernel⟩, by decide, gin 96 (by decide +kernel) rfl⟩, gin 707 (by decide +kernel) rfl, gin 8 (by decide +kernel) rfl, ⟨TX3, 3, rfl⟩⟩
set_option maxRecDepth 100000 in
theorem mf_X3_takeTruth : mV yX3_takeTruth cX3_takeTruth 4 (some .boolean) 2 3 := ⟨⟨gin 735 (by decide +kernel) rfl, ⟨by decide +kernel, by decide +kernel, by decide +kernel⟩, by decide, gin 96 (by decide +kernel) rfl⟩, gin 734 (by decide +kernel) rfl, gin 12 (by decide +kernel) rfl, ⟨TX3, 3, rfl⟩⟩
set_option maxRecDepth 100000 in
theorem mf_X3_takeUnit : mV yX3_takeUnit cX3_takeUnit 5 (some .boolean) 2 3 := ⟨⟨gin 739 (by decide +kernel) rfl, ⟨by decide +kernel, by decide +kernel, by decide +kernel⟩, by decide, gin 96 (by decide +kernel) rfl⟩, gin 738 (by decide +kernel) rfl, gin 13 (by decide +kernel) rfl, ⟨TX3, 3, rfl⟩⟩
set_option maxRecDepth 100000 in
theorem mf_X4_compare : mS yX4_compare cX4_compare 3 (some .boolean) 3 := ⟨⟨gin 967 (by decide +kernel) rfl, ⟨by decide +kernel, by decide +kernel, by decide +kernel⟩, by decide, gin 98 (by decide +kernel) rfl⟩, gin 966 (by decide +kernel) rfl⟩
set_option maxRecDepth 100000 in
theorem mf_X4_hold : mV yX4_hold cX4_hold 2 (some .boolean) 1 4 := ⟨⟨gin 879 (by decide +kernel) rfl, ⟨by decide +kernel, by decide +kernel, by decide +kernel⟩, by decide, gin 98 (by decide +kernel) rfl⟩, gin 877 (by decide +kernel) rfl, gin 878 (by decide +kernel) rfl, ⟨TX4, 8, rfl⟩⟩
set_option maxRecDepth 100000 in
theorem mf_X4_keep : mV yX4_keep cX4_keep 2 (some .int) 1 4 := ⟨⟨gin 815 (by decide +kernel) rfl, ⟨by decide +kernel, by decide +kernel, by decide +kernel⟩, by decide, gin 98 (by decide +kernel) rfl⟩, gin 813 (by decide +kernel) rfl, gin 814 (by decide +kernel) rfl, ⟨TX4, 8, rfl⟩⟩
set_option maxRecDepth 100000 in
theorem mf_X4_pop : mV yX4_pop cX4_pop 1 (some .int) 0 4 := ⟨⟨gin 952 (by decide +kernel) rfl, ⟨by decide +kernel, by decide +kernel, by decide +kernel⟩, by decide, gin 98 (by decide +kernel) rfl⟩, gin 951 (by decide +kernel) rfl, gin 19 (by decide +kernel) rfl, ⟨TX4, 8, rfl⟩⟩
set_option maxRecDepth 100000 in
theorem mf_X4_push : mV yX4_push cX4_push 2 (none) 1 4 := ⟨⟨gin 957 (by decide +kernel) rfl, ⟨by decide +kernel, by decide +kernel, by decide +kernel⟩, by decide, gin 98 (by decide +kernel) rfl⟩, gin 956 (by decide +kernel) rfl, gin 20 (by decide +kernel) rfl, ⟨TX4, 8, rfl⟩⟩
set_option maxRecDepth 100000 in
theorem mf_X4_reckon : mS yX4_reckon cX4_reckon 5 (some .int) 3 := ⟨⟨gin 960 (by decide +kernel) rfl, ⟨by decide +kernel, by decide +kernel, by decide +kernel⟩, by decide, gin 98 (by decide +kernel) rfl⟩, gin 959 (by decide +kernel) rfl⟩
set_option maxRecDepth 100000 in
theorem mf_X4_worthByLaw : mV yX4_worthByLaw cX4_worthByLaw 7 (some .int) 0 4 := ⟨⟨gin 946 (by decide +kernel) rfl, ⟨by decide +kernel, by decide +kernel, by decide +kernel⟩, by decide, gin 98 (by decide +kernel) rfl⟩, gin 945 (by decide +kernel) rfl, gin 18 (by decide +kernel) rfl, ⟨TX4, 8, rfl⟩⟩
set_option maxRecDepth 100000 in
theorem mf_X4_worthOf : mV yX4_worthOf cX4_worthOf 12 (some .int) 6 4 := ⟨⟨gin 935 (by decide +kernel) rfl, ⟨by decide +kernel, by decide +kernel, by decide +kernel⟩, by decide, gin 98 (by decide +kernel) rfl⟩, gin 933 (by decide +kernel) rfl, gin 934 (by decide +kernel) rfl, ⟨TX4, 8, rfl⟩⟩
set_option maxRecDepth 100000 in
theorem mf_X5_bringBack : mV yX5_bringBack cX5_bringBack 2 (some .boolean) 1 5 := ⟨⟨gin 1395 (by decide +kernel) rfl, ⟨by decide +kernel, by decide +kernel, by decide +kernel⟩, by decide, gin 101 (by decide +kernel) rfl⟩, gin 1393 (by decide +kernel) rfl, gin 1394 (by decide +kernel) rfl, ⟨TX5, 7, rfl⟩⟩
set_option maxRecDepth 100000 in
theorem mf_X5_forget : mV yX5_forget cX5_forget 1 (none) 0 5 := ⟨⟨gin 810 (by decide +kernel) rfl, ⟨by decide +kernel, by decide +kernel, by decide +kernel⟩, by decide, gin 101 (by decide +kernel) rfl⟩, gin 808 (by decide +kernel) rfl, gin 809 (by decide +kernel) rfl, ⟨TX5, 7, rfl⟩⟩
set_option maxRecDepth 100000 in
theorem mf_X5_keep : mV yX5_keep cX5_keep 2 (none) 1 5 := ⟨⟨gin 911 (by decide +kernel) rfl, ⟨by decide +kernel, by decide +kernel, by decide +kernel⟩, by decide, gin 101 (by decide +kernel) rfl⟩, gin 909 (by decide +kernel) rfl, gin 910 (by decide +kernel) rfl, ⟨TX5, 7, rfl⟩⟩
set_option maxRecDepth 100000 in
theorem mf_X5_keepImage : mV yX5_keepImage cX5_keepImage 2 (none) 1 5 := ⟨⟨gin 1386 (by decide +kernel) rfl, ⟨by decide +kernel, by decide +kernel, by decide +kernel⟩, by decide, gin 101 (by decide +kernel) rfl⟩, gin 1384 (by decide +kernel) rfl, gin 1385 (by decide +kernel) rfl, ⟨TX5, 7, rfl⟩⟩
set_option maxRecDepth 100000 in
theorem mf_X5_lengthOf : mS yX5_lengthOf cX5_lengthOf 1 (some .int) 1 := ⟨⟨gin 1088 (by decide +kernel) rfl, ⟨by decide +kernel, by decide +kernel, by decide +kernel⟩, by decide, gin 101 (by decide +kernel) rfl⟩, gin 1087 (by decide +kernel) rfl⟩
set_option maxRecDepth 100000 in
theorem mf_X5_logged : mV yX5_logged cX5_logged 4 (some .int) 3 5 := ⟨⟨gin 1085 (by decide +kernel) rfl, ⟨by decide +kernel, by decide +kernel, by decide +kernel⟩, by decide, gin 101 (by decide +kernel) rfl⟩, gin 1083 (by decide +kernel) rfl, gin 1084 (by decide +kernel) rfl, ⟨TX5, 7, rfl⟩⟩
set_option maxRecDepth 100000 in
theorem mf_X5_note : mV yX5_note cX5_note 6 (none) 4 5 := ⟨⟨gin 1050 (by decide +kernel) rfl, ⟨by decide +kernel, by decide +kernel, by decide +kernel⟩, by decide, gin 101 (by decide +kernel) rfl⟩, gin 1048 (by decide +kernel) rfl, gin 1049 (by decide +kernel) rfl, ⟨TX5, 7, rfl⟩⟩
set_option maxRecDepth 100000 in
theorem mf_X5_takeBack : mV yX5_takeBack cX5_takeBack 3 (some .boolean) 1 5 := ⟨⟨gin 1077 (by decide +kernel) rfl, ⟨by decide +kernel, by decide +kernel, by decide +kernel⟩, by decide, gin 101 (by decide +kernel) rfl⟩, gin 1075 (by decide +kernel) rfl, gin 1076 (by decide +kernel) rfl, ⟨TX5, 7, rfl⟩⟩
set_option maxRecDepth 100000 in
theorem mf_X6_calmBehindSet : mV yX6_calmBehindSet cX6_calmBehindSet 8 (some .int) 1 6 := ⟨⟨gin 1280 (by decide +kernel) rfl, ⟨by decide +kernel, by decide +kernel, by decide +kernel⟩, by decide, gin 102 (by decide +kernel) rfl⟩, gin 1279 (by decide +kernel) rfl, gin 31 (by decide +kernel) rfl, ⟨TX6, 9, rfl⟩⟩
set_option maxRecDepth 100000 in
theorem mf_X6_enoughBehind : mV yX6_enoughBehind cX6_enoughBehind 9 (some .boolean) 5 6 := ⟨⟨gin 1292 (by decide +kernel) rfl, ⟨by decide +kernel, by decide +kernel, by decide +kernel⟩, by decide, gin 102 (by decide +kernel) rfl⟩, gin 1290 (by decide +kernel) rfl, gin 1291 (by decide +kernel) rfl, ⟨TX6, 9, rfl⟩⟩
set_option maxRecDepth 100000 in
theorem mf_X6_fairest : mV yX6_fairest cX6_fairest 3 (some .int) 0 6 := ⟨⟨gin 1344 (by decide +kernel) rfl, ⟨by decide +kernel, by decide +kernel, by decide +kernel⟩, by decide, gin 102 (by decide +kernel) rfl⟩, gin 1342 (by decide +kernel) rfl, gin 1343 (by decide +kernel) rfl, ⟨TX6, 9, rfl⟩⟩
set_option maxRecDepth 100000 in
theorem mf_X6_findLeast : mV yX6_findLeast cX6_findLeast 1 (some .boolean) 0 6 := ⟨⟨gin 1165 (by decide +kernel) rfl, ⟨by decide +kernel, by decide +kernel, by decide +kernel⟩, by decide, gin 102 (by decide +kernel) rfl⟩, gin 1163 (by decide +kernel) rfl, gin 1164 (by decide +kernel) rfl, ⟨TX6, 9, rfl⟩⟩
set_option maxRecDepth 100000 in
theorem mf_X6_findRoster : mV yX6_findRoster cX6_findRoster 2 (none) 1 6 := ⟨⟨gin 1202 (by decide +kernel) rfl, ⟨by decide +kernel, by decide +kernel, by decide +kernel⟩, by decide, gin 102 (by decide +kernel) rfl⟩, gin 1200 (by decide +kernel) rfl, gin 1201 (by decide +kernel) rfl, ⟨TX6, 9, rfl⟩⟩
set_option maxRecDepth 100000 in
theorem mf_X6_freshKinds : mV yX6_freshKinds cX6_freshKinds 3 (some .int) 0 6 := ⟨⟨gin 1365 (by decide +kernel) rfl, ⟨by decide +kernel, by decide +kernel, by decide +kernel⟩, by decide, gin 102 (by decide +kernel) rfl⟩, gin 1363 (by decide +kernel) rfl, gin 1364 (by decide +kernel) rfl, ⟨TX6, 9, rfl⟩⟩
set_option maxRecDepth 100000 in
theorem mf_X6_fullest : mV yX6_fullest cX6_fullest 3 (some .int) 0 6 := ⟨⟨gin 1357 (by decide +kernel) rfl, ⟨by decide +kernel, by decide +kernel, by decide +kernel⟩, by decide, gin 102 (by decide +kernel) rfl⟩, gin 1355 (by decide +kernel) rfl, gin 1356 (by decide +kernel) rfl, ⟨TX6, 9, rfl⟩⟩
set_option maxRecDepth 100000 in
theorem mf_X6_gain : mS yX6_gain cX6_gain 3 (some .int) 3 := ⟨⟨gin 1295 (by decide +kernel) rfl, ⟨by decide +kernel, by decide +kernel, by decide +kernel⟩, by decide, gin 102 (by decide +kernel) rfl⟩, gin 1294 (by decide +kernel) rfl⟩
set_option maxRecDepth 100000 in
theorem mf_X6_growRoster : mV yX6_growRoster cX6_growRoster 15 (none) 6 6 := ⟨⟨gin 1206 (by decide +kernel) rfl, ⟨by decide +kernel, by decide +kernel, by decide +kernel⟩, by decide, gin 102 (by decide +kernel) rfl⟩, gin 1205 (by decide +kernel) rfl, gin 27 (by decide +kernel) rfl, ⟨TX6, 9, rfl⟩⟩
set_option maxRecDepth 100000 in
theorem mf_X6_growRow : mV yX6_growRow cX6_growRow 7 (none) 5 6 := ⟨⟨gin 1170 (by decide +kernel) rfl, ⟨by decide +kernel, by decide +kernel, by decide +kernel⟩, by decide, gin 102 (by decide +kernel) rfl⟩, gin 1169 (by decide +kernel) rfl, gin 24 (by decide +kernel) rfl, ⟨TX6, 9, rfl⟩⟩
set_option maxRecDepth 100000 in
theorem mf_X6_growRowBy : mV yX6_growRowBy cX6_growRowBy 17 (none) 6 6 := ⟨⟨gin 1175 (by decide +kernel) rfl, ⟨by decide +kernel, by decide +kernel, by decide +kernel⟩, by decide, gin 102 (by decide +kernel) rfl⟩, gin 1174 (by decide +kernel) rfl, gin 25 (by decide +kernel) rfl, ⟨TX6, 9, rfl⟩⟩
set_option maxRecDepth 100000 in
theorem mf_X6_isEnough : mV yX6_isEnough cX6_isEnough 3 (some .boolean) 2 6 := ⟨⟨gin 1312 (by decide +kernel) rfl, ⟨by decide +kernel, by decide +kernel, by decide +kernel⟩, by decide, gin 102 (by decide +kernel) rfl⟩, gin 1311 (by decide +kernel) rfl, gin 34 (by decide +kernel) rfl, ⟨TX6, 9, rfl⟩⟩
set_option maxRecDepth 100000 in
theorem mf_X6_isRest : mV yX6_isRest cX6_isRest 9 (some .boolean) 3 6 := ⟨⟨gin 1308 (by decide +kernel) rfl, ⟨by decide +kernel, by decide +kernel, by decide +kernel⟩, by decide, gin 102 (by decide +kernel) rfl⟩, gin 1307 (by decide +kernel) rfl, gin 33 (by decide +kernel) rfl, ⟨TX6, 9, rfl⟩⟩
set_option maxRecDepth 100000 in
theorem mf_X6_longest : mV yX6_longest cX6_longest 3 (some .int) 0 6 := ⟨⟨gin 1361 (by decide +kernel) rfl, ⟨by decide +kernel, by decide +kernel, by decide +kernel⟩, by decide, gin 102 (by decide +kernel) rfl⟩, gin 1359 (by decide +kernel) rfl, gin 1360 (by decide +kernel) rfl, ⟨TX6, 9, rfl⟩⟩
set_option maxRecDepth 100000 in
theorem mf_X6_loudest : mV yX6_loudest cX6_loudest 3 (some .int) 0 6 := ⟨⟨gin 1353 (by decide +kernel) rfl, ⟨by decide +kernel, by decide +kernel, by decide +kernel⟩, by decide, gin 102 (by decide +kernel) rfl⟩, gin 1351 (by decide +kernel) rfl, gin 1352 (by decide +kernel) rfl, ⟨TX6, 9, rfl⟩⟩
set_option maxRecDepth 100000 in
theorem mf_X6_nightsToQuiet : mV yX6_nightsToQuiet cX6_nightsToQuiet 3 (some .int) 0 6 := ⟨⟨gin 1336 (by decide +kernel) rfl, ⟨by decide +kernel, by decide +kernel, by decide +kernel⟩, by decide, gin 102 (by decide +kernel) rfl⟩, gin 1334 (by decide +kernel) rfl, gin 1335 (by decide +kernel) rfl, ⟨TX6, 9, rfl⟩⟩
set_option maxRecDepth 100000 in
theorem mf_X6_offerRow : mV yX6_offerRow cX6_offerRow 3 (none) 2 6 := ⟨⟨gin 1188 (by decide +kernel) rfl, ⟨by decide +kernel, by decide +kernel, by decide +kernel⟩, by decide, gin 102 (by decide +kernel) rfl⟩, gin 1187 (by decide +kernel) rfl, gin 26 (by decide +kernel) rfl, ⟨TX6, 9, rfl⟩⟩
set_option maxRecDepth 100000 in
theorem mf_X6_openBooks : mV yX6_openBooks cX6_openBooks 3 (some .int) 0 6 := ⟨⟨gin 1369 (by decide +kernel) rfl, ⟨by decide +kernel, by decide +kernel, by decide +kernel⟩, by decide, gin 102 (by decide +kernel) rfl⟩, gin 1367 (by decide +kernel) rfl, gin 1368 (by decide +kernel) rfl, ⟨TX6, 9, rfl⟩⟩
set_option maxRecDepth 100000 in
theorem mf_X6_readingsOf : mV yX6_readingsOf cX6_readingsOf 8 (some .int) 1 6 := ⟨⟨gin 1327 (by decide +kernel) rfl, ⟨by decide +kernel, by decide +kernel, by decide +kernel⟩, by decide, gin 102 (by decide +kernel) rfl⟩, gin 1325 (by decide +kernel) rfl, gin 1326 (by decide +kernel) rfl, ⟨TX6, 9, rfl⟩⟩
set_option maxRecDepth 100000 in
theorem mf_X6_restsOf : mV yX6_restsOf cX6_restsOf 9 (some .int) 4 6 := ⟨⟨gin 1303 (by decide +kernel) rfl, ⟨by decide +kernel, by decide +kernel, by decide +kernel⟩, by decide, gin 102 (by decide +kernel) rfl⟩, gin 1301 (by decide +kernel) rfl, gin 1302 (by decide +kernel) rfl, ⟨TX6, 9, rfl⟩⟩
set_option maxRecDepth 100000 in
theorem mf_X6_setsFor : mV yX6_setsFor cX6_setsFor 5 (some .int) 2 6 := ⟨⟨gin 1276 (by decide +kernel) rfl, ⟨by decide +kernel, by decide +kernel, by decide +kernel⟩, by decide, gin 102 (by decide +kernel) rfl⟩, gin 1274 (by decide +kernel) rfl, gin 1275 (by decide +kernel) rfl, ⟨TX6, 9, rfl⟩⟩
set_option maxRecDepth 100000 in
theorem mf_X6_strongest : mV yX6_strongest cX6_strongest 3 (some .int) 0 6 := ⟨⟨gin 1348 (by decide +kernel) rfl, ⟨by decide +kernel, by decide +kernel, by decide +kernel⟩, by decide, gin 102 (by decide +kernel) rfl⟩, gin 1346 (by decide +kernel) rfl, gin 1347 (by decide +kernel) rfl, ⟨TX6, 9, rfl⟩⟩
set_option maxRecDepth 100000 in
theorem mf_X7_add : mV yX7_add cX7_add 4 (none) 1 7 := ⟨⟨gin 501 (by decide +kernel) rfl, ⟨by decide +kernel, by decide +kernel, by decide +kernel⟩, by decide, gin 93 (by decide +kernel) rfl⟩, gin 500 (by decide +kernel) rfl, gin 0 (by decide +kernel) rfl, ⟨TX7, 3, rfl⟩⟩
set_option maxRecDepth 100000 in
theorem mf_X7_bytesOf : mS yX7_bytesOf cX7_bytesOf 3 (some .int) 1 := ⟨⟨gin 497 (by decide +kernel) rfl, ⟨by decide +kernel, by decide +kernel, by decide +kernel⟩, by decide, gin 93 (by decide +kernel) rfl⟩, gin 496 (by decide +kernel) rfl⟩
set_option maxRecDepth 100000 in
theorem mf_X7_cutTo : mV yX7_cutTo cX7_cutTo 2 (some .boolean) 1 7 := ⟨⟨gin 509 (by decide +kernel) rfl, ⟨by decide +kernel, by decide +kernel, by decide +kernel⟩, by decide, gin 93 (by decide +kernel) rfl⟩, gin 507 (by decide +kernel) rfl, gin 508 (by decide +kernel) rfl, ⟨TX7, 3, rfl⟩⟩
set_option maxRecDepth 100000 in
theorem mf_X7_isAtEnd : mV yX7_isAtEnd cX7_isAtEnd 1 (some .boolean) 0 7 := ⟨⟨gin 676 (by decide +kernel) rfl, ⟨by decide +kernel, by decide +kernel, by decide +kernel⟩, by decide, gin 93 (by decide +kernel) rfl⟩, gin 674 (by decide +kernel) rfl, gin 675 (by decide +kernel) rfl, ⟨TX7, 3, rfl⟩⟩
set_option maxRecDepth 100000 in
theorem mf_X7_isDigit : mS yX7_isDigit cX7_isDigit 1 (some .boolean) 1 := ⟨⟨gin 662 (by decide +kernel) rfl, ⟨by decide +kernel, by decide +kernel, by decide +kernel⟩, by decide, gin 93 (by decide +kernel) rfl⟩, gin 661 (by decide +kernel) rfl⟩
set_option maxRecDepth 100000 in
theorem mf_X7_sign : mV yX7_sign cX7_sign 2 (some .char) 0 7 := ⟨⟨gin 555 (by decide +kernel) rfl, ⟨by decide +kernel, by decide +kernel, by decide +kernel⟩, by decide, gin 93 (by decide +kernel) rfl⟩, gin 553 (by decide +kernel) rfl, gin 554 (by decide +kernel) rfl, ⟨TX7, 3, rfl⟩⟩
set_option maxRecDepth 100000 in
theorem mf_X7_take : mV yX7_take cX7_take 2 (some .boolean) 1 7 := ⟨⟨gin 688 (by decide +kernel) rfl, ⟨by decide +kernel, by decide +kernel, by decide +kernel⟩, by decide, gin 93 (by decide +kernel) rfl⟩, gin 686 (by decide +kernel) rfl, gin 687 (by decide +kernel) rfl, ⟨TX7, 3, rfl⟩⟩
set_option maxRecDepth 100000 in
theorem mf_X7_takeDigit : mV yX7_takeDigit cX7_takeDigit 2 (some .int) 0 7 := ⟨⟨gin 761 (by decide +kernel) rfl, ⟨by decide +kernel, by decide +kernel, by decide +kernel⟩, by decide, gin 93 (by decide +kernel) rfl⟩, gin 759 (by decide +kernel) rfl, gin 760 (by decide +kernel) rfl, ⟨TX7, 3, rfl⟩⟩
set_option maxRecDepth 100000 in
theorem mf_X7_takeNumber : mV yX7_takeNumber cX7_takeNumber 4 (some .int) 1 7 := ⟨⟨gin 658 (by decide +kernel) rfl, ⟨by decide +kernel, by decide +kernel, by decide +kernel⟩, by decide, gin 93 (by decide +kernel) rfl⟩, gin 656 (by decide +kernel) rfl, gin 657 (by decide +kernel) rfl, ⟨TX7, 3, rfl⟩⟩
set_option maxRecDepth 100000 in
theorem mf_X7_takeOneOf : mV yX7_takeOneOf cX7_takeOneOf 3 (some .int) 1 7 := ⟨⟨gin 717 (by decide +kernel) rfl, ⟨by decide +kernel, by decide +kernel, by decide +kernel⟩, by decide, gin 93 (by decide +kernel) rfl⟩, gin 715 (by decide +kernel) rfl, gin 716 (by decide +kernel) rfl, ⟨TX7, 3, rfl⟩⟩
set_option maxRecDepth 100000 in
theorem mf_X7_takesIn : mV yX7_takesIn cX7_takesIn 6 (some .boolean) 5 7 := ⟨⟨gin 494 (by decide +kernel) rfl, ⟨by decide +kernel, by decide +kernel, by decide +kernel⟩, by decide, gin 93 (by decide +kernel) rfl⟩, gin 492 (by decide +kernel) rfl, gin 493 (by decide +kernel) rfl, ⟨TX7, 3, rfl⟩⟩
set_option maxRecDepth 100000 in
theorem mf_X7_touching : mV yX7_touching cX7_touching 1 (some .char) 0 7 := ⟨⟨gin 666 (by decide +kernel) rfl, ⟨by decide +kernel, by decide +kernel, by decide +kernel⟩, by decide, gin 93 (by decide +kernel) rfl⟩, gin 665 (by decide +kernel) rfl, gin 5 (by decide +kernel) rfl, ⟨TX7, 3, rfl⟩⟩
set_option maxRecDepth 100000 in
theorem mf_X8_apartBy : mV yX8_apartBy cX8_apartBy 10 (some .int) 4 8 := ⟨⟨gin 1264 (by decide +kernel) rfl, ⟨by decide +kernel, by decide +kernel, by decide +kernel⟩, by decide, gin 103 (by decide +kernel) rfl⟩, gin 1263 (by decide +kernel) rfl, gin 30 (by decide +kernel) rfl, ⟨TX8, 5, rfl⟩⟩
set_option maxRecDepth 100000 in
theorem mf_X8_bookToTry : mV yX8_bookToTry cX8_bookToTry 8 (some .int) 2 8 := ⟨⟨gin 1259 (by decide +kernel) rfl, ⟨by decide +kernel, by decide +kernel, by decide +kernel⟩, by decide, gin 103 (by decide +kernel) rfl⟩, gin 1257 (by decide +kernel) rfl, gin 1258 (by decide +kernel) rfl, ⟨TX8, 5, rfl⟩⟩
set_option maxRecDepth 100000 in
theorem mf_X8_calmBy : mV yX8_calmBy cX8_calmBy 10 (some .int) 4 8 := ⟨⟨gin 1244 (by decide +kernel) rfl, ⟨by decide +kernel, by decide +kernel, by decide +kernel⟩, by decide, gin 103 (by decide +kernel) rfl⟩, gin 1243 (by decide +kernel) rfl, gin 29 (by decide +kernel) rfl, ⟨TX8, 5, rfl⟩⟩
set_option maxRecDepth 100000 in
theorem mf_X8_fits : mV yX8_fits cX8_fits 5 (some .boolean) 1 8 := ⟨⟨gin 1239 (by decide +kernel) rfl, ⟨by decide +kernel, by decide +kernel, by decide +kernel⟩, by decide, gin 103 (by decide +kernel) rfl⟩, gin 1238 (by decide +kernel) rfl, gin 28 (by decide +kernel) rfl, ⟨TX8, 5, rfl⟩⟩
set_option maxRecDepth 100000 in
theorem mf_X8_liked : mV yX8_liked cX8_liked 7 (some .int) 1 8 := ⟨⟨gin 1233 (by decide +kernel) rfl, ⟨by decide +kernel, by decide +kernel, by decide +kernel⟩, by decide, gin 103 (by decide +kernel) rfl⟩, gin 1231 (by decide +kernel) rfl, gin 1232 (by decide +kernel) rfl, ⟨TX8, 5, rfl⟩⟩
set_option maxRecDepth 100000 in
theorem mf_X8_note : mV yX8_note cX8_note 7 (some .boolean) 5 8 := ⟨⟨gin 1224 (by decide +kernel) rfl, ⟨by decide +kernel, by decide +kernel, by decide +kernel⟩, by decide, gin 103 (by decide +kernel) rfl⟩, gin 1222 (by decide +kernel) rfl, gin 1223 (by decide +kernel) rfl, ⟨TX8, 5, rfl⟩⟩
set_option maxRecDepth 100000 in
theorem mf_X9_bore : mS yX9_bore cX9_bore 2 (none) 2 := ⟨⟨gin 975 (by decide +kernel) rfl, ⟨by decide +kernel, by decide +kernel, by decide +kernel⟩, by decide, gin 99 (by decide +kernel) rfl⟩, gin 974 (by decide +kernel) rfl⟩
set_option maxRecDepth 100000 in
theorem mf_X9_calmBehind : mV yX9_calmBehind cX9_calmBehind 11 (some .int) 7 9 := ⟨⟨gin 930 (by decide +kernel) rfl, ⟨by decide +kernel, by decide +kernel, by decide +kernel⟩, by decide, gin 99 (by decide +kernel) rfl⟩, gin 928 (by decide +kernel) rfl, gin 929 (by decide +kernel) rfl, ⟨TX9, 2, rfl⟩⟩
set_option maxRecDepth 100000 in
theorem mf_X9_calmBehindNight : mV yX9_calmBehindNight cX9_calmBehindNight 3 (some .int) 1 9 := ⟨⟨gin 1039 (by decide +kernel) rfl, ⟨by decide +kernel, by decide +kernel, by decide +kernel⟩, by decide, gin 99 (by decide +kernel) rfl⟩, gin 1037 (by decide +kernel) rfl, gin 1038 (by decide +kernel) rfl, ⟨TX9, 2, rfl⟩⟩
set_option maxRecDepth 100000 in
theorem mf_X9_calmNow : mV yX9_calmNow cX9_calmNow 6 (some .int) 3 9 := ⟨⟨gin 925 (by decide +kernel) rfl, ⟨by decide +kernel, by decide +kernel, by decide +kernel⟩, by decide, gin 99 (by decide +kernel) rfl⟩, gin 923 (by decide +kernel) rfl, gin 924 (by decide +kernel) rfl, ⟨TX9, 2, rfl⟩⟩
set_option maxRecDepth 100000 in
theorem mf_X9_canDrink : mV yX9_canDrink cX9_canDrink 2 (some .boolean) 1 9 := ⟨⟨gin 987 (by decide +kernel) rfl, ⟨by decide +kernel, by decide +kernel, by decide +kernel⟩, by decide, gin 99 (by decide +kernel) rfl⟩, gin 985 (by decide +kernel) rfl, gin 986 (by decide +kernel) rfl, ⟨TX9, 2, rfl⟩⟩
set_option maxRecDepth 100000 in
theorem mf_X9_canGo : mV yX9_canGo cX9_canGo 3 (some .boolean) 2 9 := ⟨⟨gin 1000 (by decide +kernel) rfl, ⟨by decide +kernel, by decide +kernel, by decide +kernel⟩, by decide, gin 99 (by decide +kernel) rfl⟩, gin 998 (by decide +kernel) rfl, gin 999 (by decide +kernel) rfl, ⟨TX9, 2, rfl⟩⟩
set_option maxRecDepth 100000 in
theorem mf_X9_canPass : mV yX9_canPass cX9_canPass 2 (some .boolean) 1 9 := ⟨⟨gin 1022 (by decide +kernel) rfl, ⟨by decide +kernel, by decide +kernel, by decide +kernel⟩, by decide, gin 99 (by decide +kernel) rfl⟩, gin 1020 (by decide +kernel) rfl, gin 1021 (by decide +kernel) rfl, ⟨TX9, 2, rfl⟩⟩
set_option maxRecDepth 100000 in
theorem mf_X9_canRead : mV yX9_canRead cX9_canRead 5 (some .boolean) 4 9 := ⟨⟨gin 891 (by decide +kernel) rfl, ⟨by decide +kernel, by decide +kernel, by decide +kernel⟩, by decide, gin 99 (by decide +kernel) rfl⟩, gin 889 (by decide +kernel) rfl, gin 890 (by decide +kernel) rfl, ⟨TX9, 2, rfl⟩⟩
set_option maxRecDepth 100000 in
theorem mf_X9_canStep : mV yX9_canStep cX9_canStep 5 (some .boolean) 2 9 := ⟨⟨gin 1132 (by decide +kernel) rfl, ⟨by decide +kernel, by decide +kernel, by decide +kernel⟩, by decide, gin 99 (by decide +kernel) rfl⟩, gin 1130 (by decide +kernel) rfl, gin 1131 (by decide +kernel) rfl, ⟨TX9, 2, rfl⟩⟩
set_option maxRecDepth 100000 in
theorem mf_X9_doRead : mV yX9_doRead cX9_doRead 7 (none) 4 9 := ⟨⟨gin 921 (by decide +kernel) rfl, ⟨by decide +kernel, by decide +kernel, by decide +kernel⟩, by decide, gin 99 (by decide +kernel) rfl⟩, gin 919 (by decide +kernel) rfl, gin 920 (by decide +kernel) rfl, ⟨TX9, 2, rfl⟩⟩
set_option maxRecDepth 100000 in
theorem mf_X9_doStep : mV yX9_doStep cX9_doStep 5 (some .int) 2 9 := ⟨⟨gin 1142 (by decide +kernel) rfl, ⟨by decide +kernel, by decide +kernel, by decide +kernel⟩, by decide, gin 99 (by decide +kernel) rfl⟩, gin 1140 (by decide +kernel) rfl, gin 1141 (by decide +kernel) rfl, ⟨TX9, 2, rfl⟩⟩
set_option maxRecDepth 100000 in
theorem mf_X9_drink : mV yX9_drink cX9_drink 2 (none) 1 9 := ⟨⟨gin 992 (by decide +kernel) rfl, ⟨by decide +kernel, by decide +kernel, by decide +kernel⟩, by decide, gin 99 (by decide +kernel) rfl⟩, gin 990 (by decide +kernel) rfl, gin 991 (by decide +kernel) rfl, ⟨TX9, 2, rfl⟩⟩
set_option maxRecDepth 100000 in
theorem mf_X9_go : mV yX9_go cX9_go 3 (none) 2 9 := ⟨⟨gin 1008 (by decide +kernel) rfl, ⟨by decide +kernel, by decide +kernel, by decide +kernel⟩, by decide, gin 99 (by decide +kernel) rfl⟩, gin 1006 (by decide +kernel) rfl, gin 1007 (by decide +kernel) rfl, ⟨TX9, 2, rfl⟩⟩
set_option maxRecDepth 100000 in
theorem mf_X9_hasPages : mV yX9_hasPages cX9_hasPages 3 (some .boolean) 2 9 := ⟨⟨gin 895 (by decide +kernel) rfl, ⟨by decide +kernel, by decide +kernel, by decide +kernel⟩, by decide, gin 99 (by decide +kernel) rfl⟩, gin 893 (by decide +kernel) rfl, gin 894 (by decide +kernel) rfl, ⟨TX9, 2, rfl⟩⟩
set_option maxRecDepth 100000 in
theorem mf_X9_leftOf : mV yX9_leftOf cX9_leftOf 3 (some .int) 2 9 := ⟨⟨gin 902 (by decide +kernel) rfl, ⟨by decide +kernel, by decide +kernel, by decide +kernel⟩, by decide, gin 99 (by decide +kernel) rfl⟩, gin 900 (by decide +kernel) rfl, gin 901 (by decide +kernel) rfl, ⟨TX9, 2, rfl⟩⟩
set_option maxRecDepth 100000 in
theorem mf_X9_moreBored : mS yX9_moreBored cX9_moreBored 1 (some .int) 1 := ⟨⟨gin 978 (by decide +kernel) rfl, ⟨by decide +kernel, by decide +kernel, by decide +kernel⟩, by decide, gin 99 (by decide +kernel) rfl⟩, gin 977 (by decide +kernel) rfl⟩
set_option maxRecDepth 100000 in
theorem mf_X9_pass : mV yX9_pass cX9_pass 4 (some .int) 1 9 := ⟨⟨gin 1030 (by decide +kernel) rfl, ⟨by decide +kernel, by decide +kernel, by decide +kernel⟩, by decide, gin 99 (by decide +kernel) rfl⟩, gin 1028 (by decide +kernel) rfl, gin 1029 (by decide +kernel) rfl, ⟨TX9, 2, rfl⟩⟩
set_option maxRecDepth 100000 in
theorem mf_X9_restedFrom : mS yX9_restedFrom cX9_restedFrom 2 (some .int) 2 := ⟨⟨gin 1210 (by decide +kernel) rfl, ⟨by decide +kernel, by decide +kernel, by decide +kernel⟩, by decide, gin 99 (by decide +kernel) rfl⟩, gin 1209 (by decide +kernel) rfl⟩
set_option maxRecDepth 100000 in
theorem mf_X9_worthOf : mV yX9_worthOf cX9_worthOf 7 (some .int) 6 9 := ⟨⟨gin 1249 (by decide +kernel) rfl, ⟨by decide +kernel, by decide +kernel, by decide +kernel⟩, by decide, gin 99 (by decide +kernel) rfl⟩, gin 1247 (by decide +kernel) rfl, gin 1248 (by decide +kernel) rfl, ⟨TX9, 2, rfl⟩⟩
