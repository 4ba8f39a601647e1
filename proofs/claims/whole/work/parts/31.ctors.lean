theorem bed_len : ∀ i ∈ bedIds, SHF[i + 1]? = some (.inr (0, 4)) ∧ SHF[i + 2]? = some (.inr (0, 6)) ∧ SHF[i + 3]? = some (.inr (0, 6)) ∧ SHF[i + 4]? = some (.inr (0, 6)) ∧ i < 800 := by decide +kernel
theorem isBed.b0 {i : Nat} (q : isBed i) : SHF[i + 1]? = some (.inr (0, 4)) := (bed_len i q).1
theorem isBed.b1 {i : Nat} (q : isBed i) : SHF[i + 2]? = some (.inr (0, 6)) := (bed_len i q).2.1
theorem isBed.b2 {i : Nat} (q : isBed i) : SHF[i + 3]? = some (.inr (0, 6)) := (bed_len i q).2.2.1
theorem isBed.b3 {i : Nat} (q : isBed i) : SHF[i + 4]? = some (.inr (0, 6)) := (bed_len i q).2.2.2.1
theorem isBed.lt9 {i : Nat} (q : isBed i) (k : Nat) (hk : k < 100 := by decide) : i + k < 900 := by have := (bed_len i q).2.2.2.2; omega
theorem isBed.lt6 {i : Nat} (q : isBed i) (k : Nat) (hk : k < 100 := by decide) : i + k < 1000000 := by have := (bed_len i q).2.2.2.2; omega
theorem isLd.l0 {i : Nat} (q : isLd i) : SHF[i + 1]? = some (.inr (0, 3)) := by rcases q with rfl | rfl <;> decide +kernel
theorem isLd.l1 {i : Nat} (q : isLd i) : SHF[i + 2]? = some (.inr (0, 39)) := by rcases q with rfl | rfl <;> decide +kernel
theorem isLd.lt9 {i : Nat} (q : isLd i) (k : Nat) (hk : k < 100 := by decide) : i + k < 900 := by rcases q with rfl | rfl <;> omega
theorem isLd.lt6 {i : Nat} (q : isLd i) (k : Nat) (hk : k < 100 := by decide) : i + k < 1000000 := by rcases q with rfl | rfl <;> omega
set_option maxRecDepth 100000 in
theorem ac_byte : Cond.arrayClass .byte ∈ gtbl := gin 765 (by decide +kernel) rfl
set_option maxRecDepth 100000 in
theorem ac_char : Cond.arrayClass .char ∈ gtbl := gin 147 (by decide +kernel) rfl
set_option maxRecDepth 100000 in
theorem ac_int : Cond.arrayClass .int ∈ gtbl := gin 167 (by decide +kernel) rfl
set_option maxRecDepth 100000 in
theorem ac_long : Cond.arrayClass .long ∈ gtbl := gin 257 (by decide +kernel) rfl
set_option maxRecDepth 100000 in
theorem cl_X11_16 : Cond.classLink RX11 16 RX2 ∈ gtbl := gin 148 (by decide +kernel) rfl
set_option maxRecDepth 100000 in
theorem cl_X11_25 : Cond.classLink RX11 25 RX3 ∈ gtbl := gin 176 (by decide +kernel) rfl
set_option maxRecDepth 100000 in
theorem cl_X11_32 : Cond.classLink RX11 32 RX10 ∈ gtbl := gin 194 (by decide +kernel) rfl
set_option maxRecDepth 100000 in
theorem cl_X11_39 : Cond.classLink RX11 39 RX1 ∈ gtbl := gin 220 (by decide +kernel) rfl
set_option maxRecDepth 100000 in
theorem cl_X11_46 : Cond.classLink RX11 46 RX4 ∈ gtbl := gin 222 (by decide +kernel) rfl
set_option maxRecDepth 100000 in
theorem cl_X11_53 : Cond.classLink RX11 53 RX9 ∈ gtbl := gin 258 (by decide +kernel) rfl
set_option maxRecDepth 100000 in
theorem cl_X11_62 : Cond.classLink RX11 62 RX0 ∈ gtbl := gin 274 (by decide +kernel) rfl
set_option maxRecDepth 100000 in
theorem cl_X11_7 : Cond.classLink RX11 7 RX7 ∈ gtbl := gin 126 (by decide +kernel) rfl
set_option maxRecDepth 100000 in
theorem cl_X11_72 : Cond.classLink RX11 72 RX5 ∈ gtbl := gin 353 (by decide +kernel) rfl
set_option maxRecDepth 100000 in
theorem cl_X11_79 : Cond.classLink RX11 79 RX6 ∈ gtbl := gin 385 (by decide +kernel) rfl
set_option maxRecDepth 100000 in
theorem cl_X11_88 : Cond.classLink RX11 88 RX8 ∈ gtbl := gin 421 (by decide +kernel) rfl
set_option maxRecDepth 100000 in
theorem cl_X2_9 : Cond.classLink RX2 9 RX1 ∈ gtbl := gin 154 (by decide +kernel) rfl
set_option maxRecDepth 100000 in
theorem cl_X4_11 : Cond.classLink RX4 11 "[[I" ∈ gtbl := gin 228 (by decide +kernel) rfl
set_option maxRecDepth 100000 in
theorem cl_X5_11 : Cond.classLink RX5 11 RX0 ∈ gtbl := gin 359 (by decide +kernel) rfl
set_option maxRecDepth 100000 in
theorem fl_X12_28 : fOK RX12 28 12 RX12 TX12 51 15 := ⟨cok_X12, by decide, rfl, gin 1502 (by decide +kernel) rfl⟩
set_option maxRecDepth 100000 in
theorem fl_X12_34 : fOK RX12 34 12 RX12 TX12 51 16 := ⟨cok_X12, by decide, rfl, gin 1503 (by decide +kernel) rfl⟩
set_option maxRecDepth 100000 in
theorem fl_X6_22 : fOK RX6 22 9 RX9 TX9 2 0 := ⟨cok_X9, by decide, rfl, gin 266 (by decide +kernel) rfl⟩
set_option maxRecDepth 100000 in
theorem fl_X6_29 : fOK RX6 29 9 RX9 TX9 2 1 := ⟨cok_X9, by decide, rfl, gin 268 (by decide +kernel) rfl⟩
set_option maxRecDepth 100000 in
theorem fl_X8_19 : fOK RX8 19 9 RX9 TX9 2 0 := ⟨cok_X9, by decide, rfl, gin 265 (by decide +kernel) rfl⟩
set_option maxRecDepth 100000 in
theorem in_X0 : Cond.instantiable RX0 13 ∈ gtbl := gin 275 (by decide +kernel) rfl
set_option maxRecDepth 100000 in
theorem in_X1 : Cond.instantiable RX1 2 ∈ gtbl := gin 155 (by decide +kernel) rfl
set_option maxRecDepth 100000 in
theorem in_X10 : Cond.instantiable RX10 6 ∈ gtbl := gin 195 (by decide +kernel) rfl
set_option maxRecDepth 100000 in
theorem in_X2 : Cond.instantiable RX2 2 ∈ gtbl := gin 149 (by decide +kernel) rfl
set_option maxRecDepth 100000 in
theorem in_X3 : Cond.instantiable RX3 3 ∈ gtbl := gin 177 (by decide +kernel) rfl
set_option maxRecDepth 100000 in
theorem in_X4 : Cond.instantiable RX4 8 ∈ gtbl := gin 223 (by decide +kernel) rfl
set_option maxRecDepth 100000 in
theorem in_X5 : Cond.instantiable RX5 7 ∈ gtbl := gin 354 (by decide +kernel) rfl
set_option maxRecDepth 100000 in
theorem in_X6 : Cond.instantiable RX6 9 ∈ gtbl := gin 386 (by decide +kernel) rfl
set_option maxRecDepth 100000 in
theorem in_X7 : Cond.instantiable RX7 3 ∈ gtbl := gin 127 (by decide +kernel) rfl
set_option maxRecDepth 100000 in
theorem in_X8 : Cond.instantiable RX8 5 ∈ gtbl := gin 422 (by decide +kernel) rfl
set_option maxRecDepth 100000 in
theorem in_X9 : Cond.instantiable RX9 2 ∈ gtbl := gin 259 (by decide +kernel) rfl
set_option maxRecDepth 100000 in
theorem ini_X0 : Cond.initialized RX0 ∈ gtbl := gin 100 (by decide +kernel) rfl
set_option maxRecDepth 100000 in
theorem ini_X1 : Cond.initialized RX1 ∈ gtbl := gin 95 (by decide +kernel) rfl
set_option maxRecDepth 100000 in
theorem ini_X10 : Cond.initialized RX10 ∈ gtbl := gin 97 (by decide +kernel) rfl
set_option maxRecDepth 100000 in
theorem ini_X2 : Cond.initialized RX2 ∈ gtbl := gin 94 (by decide +kernel) rfl
set_option maxRecDepth 100000 in
theorem ini_X3 : Cond.initialized RX3 ∈ gtbl := gin 96 (by decide +kernel) rfl
set_option maxRecDepth 100000 in
theorem ini_X4 : Cond.initialized RX4 ∈ gtbl := gin 98 (by decide +kernel) rfl
set_option maxRecDepth 100000 in
theorem ini_X5 : Cond.initialized RX5 ∈ gtbl := gin 101 (by decide +kernel) rfl
set_option maxRecDepth 100000 in
theorem ini_X6 : Cond.initialized RX6 ∈ gtbl := gin 102 (by decide +kernel) rfl
set_option maxRecDepth 100000 in
theorem ini_X7 : Cond.initialized RX7 ∈ gtbl := gin 93 (by decide +kernel) rfl
set_option maxRecDepth 100000 in
theorem ini_X8 : Cond.initialized RX8 ∈ gtbl := gin 103 (by decide +kernel) rfl
set_option maxRecDepth 100000 in
theorem ini_X9 : Cond.initialized RX9 ∈ gtbl := gin 99 (by decide +kernel) rfl
set_option maxRecDepth 100000 in
theorem kk_X0 : ∃ ty : Nat → FieldType, ∀ k, k < 13 → parseFieldDescriptor (TX0 k).2.2.1 = some (ty k) ∧ ∃ d, (DS 0)[k]? = some d ∧ kok (ty k) d = true := ⟨tyX0, fun k hk => ⟨tyX0_ok k hk, (DS 0).getD k 0, (show ∀ k, k < 13 → (DS 0)[k]? = some ((DS 0).getD k 0) by decide +kernel) k hk, (show ∀ k, k < 13 → kok (tyX0 k) ((DS 0).getD k 0) = true by decide +kernel) k hk⟩⟩
set_option maxRecDepth 100000 in
theorem kk_X1 : ∃ ty : Nat → FieldType, ∀ k, k < 2 → parseFieldDescriptor (TX1 k).2.2.1 = some (ty k) ∧ ∃ d, (DS 1)[k]? = some d ∧ kok (ty k) d = true := ⟨tyX1, fun k hk => ⟨tyX1_ok k hk, (DS 1).getD k 0, (show ∀ k, k < 2 → (DS 1)[k]? = some ((DS 1).getD k 0) by decide +kernel) k hk, (show ∀ k, k < 2 → kok (tyX1 k) ((DS 1).getD k 0) = true by decide +kernel) k hk⟩⟩
set_option maxRecDepth 100000 in
theorem kk_X10 : ∃ ty : Nat → FieldType, ∀ k, k < 6 → parseFieldDescriptor (TX10 k).2.2.1 = some (ty k) ∧ ∃ d, (DS 10)[k]? = some d ∧ kok (ty k) d = true := ⟨tyX10, fun k hk => ⟨tyX10_ok k hk, (DS 10).getD k 0, (show ∀ k, k < 6 → (DS 10)[k]? = some ((DS 10).getD k 0) by decide +kernel) k hk, (show ∀ k, k < 6 → kok (tyX10 k) ((DS 10).getD k 0) = true by decide +kernel) k hk⟩⟩
set_option maxRecDepth 100000 in
theorem kk_X2 : ∃ ty : Nat → FieldType, ∀ k, k < 2 → parseFieldDescriptor (TX2 k).2.2.1 = some (ty k) ∧ ∃ d, (DS 2)[k]? = some d ∧ kok (ty k) d = true := ⟨tyX2, fun k hk => ⟨tyX2_ok k hk, (DS 2).getD k 0, (show ∀ k, k < 2 → (DS 2)[k]? = some ((DS 2).getD k 0) by decide +kernel) k hk, (show ∀ k, k < 2 → kok (tyX2 k) ((DS 2).getD k 0) = true by decide +kernel) k hk⟩⟩
set_option maxRecDepth 100000 in
theorem kk_X3 : ∃ ty : Nat → FieldType, ∀ k, k < 3 → parseFieldDescriptor (TX3 k).2.2.1 = some (ty k) ∧ ∃ d, (DS 3)[k]? = some d ∧ kok (ty k) d = true := ⟨tyX3, fun k hk => ⟨tyX3_ok k hk, (DS 3).getD k 0, (show ∀ k, k < 3 → (DS 3)[k]? = some ((DS 3).getD k 0) by decide +kernel) k hk, (show ∀ k, k < 3 → kok (tyX3 k) ((DS 3).getD k 0) = true by decide +kernel) k hk⟩⟩
set_option maxRecDepth 100000 in
theorem kk_X4 : ∃ ty : Nat → FieldType, ∀ k, k < 8 → parseFieldDescriptor (TX4 k).2.2.1 = some (ty k) ∧ ∃ d, (DS 4)[k]? = some d ∧ kok (ty k) d = true := ⟨tyX4, fun k hk => ⟨tyX4_ok k hk, (DS 4).getD k 0, (show ∀ k, k < 8 → (DS 4)[k]? = some ((DS 4).getD k 0) by decide +kernel) k hk, (show ∀ k, k < 8 → kok (tyX4 k) ((DS 4).getD k 0) = true by decide +kernel) k hk⟩⟩
set_option maxRecDepth 100000 in
theorem kk_X5 : ∃ ty : Nat → FieldType, ∀ k, k < 7 → parseFieldDescriptor (TX5 k).2.2.1 = some (ty k) ∧ ∃ d, (DS 5)[k]? = some d ∧ kok (ty k) d = true := ⟨tyX5, fun k hk => ⟨tyX5_ok k hk, (DS 5).getD k 0, (show ∀ k, k < 7 → (DS 5)[k]? = some ((DS 5).getD k 0) by decide +kernel) k hk, (show ∀ k, k < 7 → kok (tyX5 k) ((DS 5).getD k 0) = true by decide +kernel) k hk⟩⟩
set_option maxRecDepth 100000 in
theorem kk_X6 : ∃ ty : Nat → FieldType, ∀ k, k < 9 → parseFieldDescriptor (TX6 k).2.2.1 = some (ty k) ∧ ∃ d, (DS 6)[k]? = some d ∧ kok (ty k) d = true := ⟨tyX6, fun k hk => ⟨tyX6_ok k hk, (DS 6).getD k 0, (show ∀ k, k < 9 → (DS 6)[k]? = some ((DS 6).getD k 0) by decide +kernel) k hk, (show ∀ k, k < 9 → kok (tyX6 k) ((DS 6).getD k 0) = true by decide +kernel) k hk⟩⟩
set_option maxRecDepth 100000 in
theorem kk_X7 : ∃ ty : Nat → FieldType, ∀ k, k < 3 → parseFieldDescriptor (TX7 k).2.2.1 = some (ty k) ∧ ∃ d, (DS 7)[k]? = some d ∧ kok (ty k) d = true := ⟨tyX7, fun k hk => ⟨tyX7_ok k hk, (DS 7).getD k 0, (show ∀ k, k < 3 → (DS 7)[k]? = some ((DS 7).getD k 0) by decide +kernel) k hk, (show ∀ k, k < 3 → kok (tyX7 k) ((DS 7).getD k 0) = true by decide +kernel) k hk⟩⟩
set_option maxRecDepth 100000 in
theorem kk_X8 : ∃ ty : Nat → FieldType, ∀ k, k < 5 → parseFieldDescriptor (TX8 k).2.2.1 = some (ty k) ∧ ∃ d, (DS 8)[k]? = some d ∧ kok (ty k) d = true := ⟨tyX8, fun k hk => ⟨tyX8_ok k hk, (DS 8).getD k 0, (show ∀ k, k < 5 → (DS 8)[k]? = some ((DS 8).getD k 0) by decide +kernel) k hk, (show ∀ k, k < 5 → kok (tyX8 k) ((DS 8).getD k 0) = true by decide +kernel) k hk⟩⟩
set_option maxRecDepth 100000 in
theorem kk_X9 : ∃ ty : Nat → FieldType, ∀ k, k < 2 → parseFieldDescriptor (TX9 k).2.2.1 = some (ty k) ∧ ∃ d, (DS 9)[k]? = some d ∧ kok (ty k) d = true := ⟨tyX9, fun k hk => ⟨tyX9_ok k hk, (DS 9).getD k 0, (show ∀ k, k < 2 → (DS 9)[k]? = some ((DS 9).getD k 0) by decide +kernel) k hk, (show ∀ k, k < 2 → kok (tyX9 k) ((DS 9).getD k 0) = true by decide +kernel) k hk⟩⟩
set_option maxRecDepth 100000 in
theorem mi_X0_init : mI yX0_init cX0_init 1 0 := ⟨⟨gin 278 (by decide +kernel) rfl, ⟨by decide +kernel, by decide +kernel, by decide +kernel⟩, by decide, gin 100 (by decide +kernel) rfl⟩, by decide +kernel, gin 277 (by decide +kernel) rfl⟩
set_option maxRecDepth 100000 in
theorem mi_X10_init : mI yX10_init cX10_init 2 1 := ⟨⟨gin 198 (by decide +kernel) rfl, ⟨by decide +kernel, by decide +kernel, by decide +kernel⟩, by decide, gin 97 (by decide +kernel) rfl⟩, by decide +kernel, gin 197 (by decide +kernel) rfl⟩
set_option maxRecDepth 100000 in
theorem mi_X1_init : mI yX1_init cX1_init 1 0 := ⟨⟨gin 158 (by decide +kernel) rfl, ⟨by decide +kernel, by decide +kernel, by decide +kernel⟩, by decide, gin 95 (by decide +kernel) rfl⟩, by decide +kernel, gin 157 (by decide +kernel) rfl⟩
set_option maxRecDepth 100000 in
theorem mi_X2_init : mI yX2_init cX2_init 2 1 := ⟨⟨gin 152 (by decide +kernel) rfl, ⟨by decide +kernel, by decide +kernel, by decide +kernel⟩, by decide, gin 94 (by decide +kernel) rfl⟩, by decide +kernel, gin 151 (by decide +kernel) rfl⟩
set_option maxRecDepth 100000 in
theorem mi_X3_init : mI yX3_init cX3_init 2 1 := ⟨⟨gin 180 (by decide +kernel) rfl, ⟨by decide +kernel, by decide +kernel, by decide +kernel⟩, by decide, gin 96 (by decide +kernel) rfl⟩, by decide +kernel, gin 179 (by decide +kernel) rfl⟩
set_option maxRecDepth 100000 in
theorem mi_X4_init : mI yX4_init cX4_init 1 0 := ⟨⟨gin 226 (by decide +kernel) rfl, ⟨by decide +kernel, by decide +kernel, by decide +kernel⟩, by decide, gin 98 (by decide +kernel) rfl⟩, by decide +kernel, gin 225 (by decide +kernel) rfl⟩
set_option maxRecDepth 100000 in
theorem mi_X5_init : mI yX5_init cX5_init 2 0 := ⟨⟨gin 357 (by decide +kernel) rfl, ⟨by decide +kernel, by decide +kernel, by decide +kernel⟩, by decide, gin 101 (by decide +kernel) rfl⟩, by decide +kernel, gin 356 (by decide +kernel) rfl⟩
set_option maxRecDepth 100000 in
theorem mi_X6_init : mI yX6_init cX6_init 3 2 := ⟨⟨gin 389 (by decide +kernel) rfl, ⟨by decide +kernel, by decide +kernel, by decide +kernel⟩, by decide, gin 102 (by decide +kernel) rfl⟩, by decide +kernel, gin 388 (by decide +kernel) rfl⟩
set_option maxRecDepth 100000 in
theorem mi_X7_init : mI yX7_init cX7_init 1 0 := ⟨⟨gin 130 (by decide +kernel) rfl, ⟨by decide +kernel, by decide +kernel, by decide +kernel⟩, by decide, gin 93 (by decide +kernel) rfl⟩, by decide +kernel, gin 129 (by decide +kernel) rfl⟩
set_option maxRecDepth 100000 in
theorem mi_X8_init : mI yX8_init cX8_init 3 2 := ⟨⟨gin 425 (by decide +kernel) rfl, ⟨by decide +kernel, by decide +kernel, by decide +kernel⟩, by decide, gin 103 (by decide +kernel) rfl⟩, by decide +kernel, gin 424 (by decide +kernel) rfl⟩
set_option maxRecDepth 100000 in
theorem mi_X9_init : mI yX9_init cX9_init 3 2 := ⟨⟨gin 262 (by decide +kernel) rfl, ⟨by decide +kernel, by decide +kernel, by decide +kernel⟩, by decide, gin 99 (by decide +kernel) rfl⟩, by decide +kernel, gin 261 (by decide +kernel) rfl⟩
set_option maxRecDepth 100000 in
theorem ml_X11_18 : Cond.methodLink RX11 18 yX2_init ∈ gtbl := gin 150 (by decide +kernel) rfl
set_option maxRecDepth 100000 in
theorem ml_X11_27 : Cond.methodLink RX11 27 yX3_init ∈ gtbl := gin 178 (by decide +kernel) rfl
set_option maxRecDepth 100000 in
theorem ml_X11_34 : Cond.methodLink RX11 34 yX10_init ∈ gtbl := gin 196 (by decide +kernel) rfl
set_option maxRecDepth 100000 in
theorem ml_X11_41 : (RX11, 41, yX1_init, "MonsterCot") ∈ nsT := List.mem_of_getElem? (i := 2) (by decide +kernel)
set_option maxRecDepth 100000 in
theorem ml_X11_48 : (RX11, 48, yX4_init, "MonsterCot") ∈ nsT := List.mem_of_getElem? (i := 3) (by decide +kernel)
set_option maxRecDepth 100000 in
theorem ml_X11_55 : Cond.methodLink RX11 55 yX9_init ∈ gtbl := gin 260 (by decide +kernel) rfl
set_option maxRecDepth 100000 in
theorem ml_X11_64 : (RX11, 64, yX0_init, "MonsterCot") ∈ nsT := List.mem_of_getElem? (i := 4) (by decide +kernel)
set_option maxRecDepth 100000 in
theorem ml_X11_74 : Cond.methodLink RX11 74 yX5_init ∈ gtbl := gin 355 (by decide +kernel) rfl
set_option maxRecDepth 100000 in
theorem ml_X11_81 : Cond.methodLink RX11 81 yX6_init ∈ gtbl := gin 387 (by decide +kernel) rfl
set_option maxRecDepth 100000 in
theorem ml_X11_9 : (RX11, 9, yX7_init, "MonsterCot") ∈ nsT := List.mem_of_getElem? (i := 0) (by decide +kernel)
set_option maxRecDepth 100000 in
theorem ml_X11_90 : Cond.methodLink RX11 90 yX8_init ∈ gtbl := gin 423 (by decide +kernel) rfl
set_option maxRecDepth 100000 in
theorem ml_X2_11 : (RX2, 11, yX1_init, "MonsterCot") ∈ nsT := List.mem_of_getElem? (i := 1) (by decide +kernel)
set_option maxRecDepth 100000 in
theorem ml_X5_21 : (RX5, 21, yX0_init, "MonsterCot") ∈ nsT := List.mem_of_getElem? (i := 5) (by decide +kernel)
set_option maxRecDepth 100000 in
theorem mo_X0 : Cond.methodLink RX0 3 Lib.objectInit ∈ gtbl := gin 279 (by decide +kernel) rfl
set_option maxRecDepth 100000 in
theorem mo_X1 : Cond.methodLink RX1 3 Lib.objectInit ∈ gtbl := gin 159 (by decide +kernel) rfl
set_option maxRecDepth 100000 in
theorem mo_X10 : Cond.methodLink RX10 3 Lib.objectInit ∈ gtbl := gin 199 (by decide +kernel) rfl
set_option maxRecDepth 100000 in
theorem mo_X11 : Cond.methodLink RX11 1 Lib.objectInit ∈ gtbl := gin 123 (by decide +kernel) rfl
set_option maxRecDepth 100000 in
theorem mo_X12 : Cond.methodLink RX12 3 Lib.objectInit ∈ gtbl := gin 1484 (by decide +kernel) rfl
set_option maxRecDepth 100000 in
theorem mo_X2 : Cond.methodLink RX2 3 Lib.objectInit ∈ gtbl := gin 153 (by decide +kernel) rfl
set_option maxRecDepth 100000 in
theorem mo_X3 : Cond.methodLink RX3 3 Lib.objectInit ∈ gtbl := gin 181 (by decide +kernel) rfl
set_option maxRecDepth 100000 in
theorem mo_X4 : Cond.methodLink RX4 3 Lib.objectInit ∈ gtbl := gin 227 (by decide +kernel) rfl
set_option maxRecDepth 100000 in
theorem mo_X5 : Cond.methodLink RX5 5 Lib.objectInit ∈ gtbl := gin 358 (by decide +kernel) rfl
set_option maxRecDepth 100000 in
theorem mo_X6 : Cond.methodLink RX6 3 Lib.objectInit ∈ gtbl := gin 390 (by decide +kernel) rfl
set_option maxRecDepth 100000 in
theorem mo_X7 : Cond.methodLink RX7 3 Lib.objectInit ∈ gtbl := gin 131 (by decide +kernel) rfl
set_option maxRecDepth 100000 in
theorem mo_X8 : Cond.methodLink RX8 3 Lib.objectInit ∈ gtbl := gin 426 (by decide +kernel) rfl
set_option maxRecDepth 100000 in
theorem mo_X9 : Cond.methodLink RX9 3 Lib.objectInit ∈ gtbl := gin 263 (by decide +kernel) rfl
set_option maxRecDepth 100000 in
theorem sh_10 : SHF[10]? = some (.inr (0, 16)) := by decide +kernel
set_option maxRecDepth 100000 in
theorem sh_11 : SHF[11]? = some (.inr (0, 64)) := by decide +kernel
set_option maxRecDepth 100000 in
theorem sh_12 : SHF[12]? = some (.inr (0, 4)) := by decide +kernel
set_option maxRecDepth 100000 in
theorem sh_22 : SHF[22]? = some (.inr (0, 4)) := by decide +kernel
set_option maxRecDepth 100000 in
theorem sh_23 : SHF[23]? = some (.inr (0, 6)) := by decide +kernel
set_option maxRecDepth 100000 in
theorem sh_247 : SHF[247]? = some (.inr (0, 4)) := by decide +kernel
set_option maxRecDepth 100000 in
theorem sh_248 : SHF[248]? = some (.inr (0, 100)) := by decide +kernel
set_option maxRecDepth 100000 in
theorem sh_250 : SHF[250]? = some (.inr (0, 50)) := by decide +kernel
set_option maxRecDepth 100000 in
theorem sh_252 : SHF[252]? = some (.inr (2, 240)) := by decide +kernel
set_option maxRecDepth 100000 in
theorem sh_253 : SHF[253]? = some (.inr (2, 960)) := by decide +kernel
set_option maxRecDepth 100000 in
theorem sh_254 : SHF[254]? = some (.inr (0, 4)) := by decide +kernel
set_option maxRecDepth 100000 in
theorem sh_255 : SHF[255]? = some (.inr (0, 128)) := by decide +kernel
set_option maxRecDepth 100000 in
theorem sh_256 : SHF[256]? = some (.inr (0, 3)) := by decide +kernel
set_option maxRecDepth 100000 in
theorem sh_257 : SHF[257]? = some (.inr (0, 3)) := by decide +kernel
set_option maxRecDepth 100000 in
theorem sh_258 : SHF[258]? = some (.inr (0, 18)) := by decide +kernel
set_option maxRecDepth 100000 in
theorem sh_259 : SHF[259]? = some (.inr (0, 18)) := by decide +kernel
set_option maxRecDepth 100000 in
theorem sh_260 : SHF[260]? = some (.inr (0, 18)) := by decide +kernel
set_option maxRecDepth 100000 in
theorem sh_261 : SHF[261]? = some (.inr (0, 18)) := by decide +kernel
set_option maxRecDepth 100000 in
theorem sh_262 : SHF[262]? = some (.inr (0, 240)) := by decide +kernel
set_option maxRecDepth 100000 in
theorem sh_263 : SHF[263]? = some (.inr (0, 5)) := by decide +kernel
set_option maxRecDepth 100000 in
theorem sh_264 : SHF[264]? = some (.inr (0, 211)) := by decide +kernel
set_option maxRecDepth 100000 in
theorem sh_265 : SHF[265]? = some (.inr (0, 211)) := by decide +kernel
set_option maxRecDepth 100000 in
theorem sh_266 : SHF[266]? = some (.inr (3, 8191)) := by decide +kernel
set_option maxRecDepth 100000 in
theorem sh_267 : SHF[267]? = some (.inr (0, 8191)) := by decide +kernel
set_option maxRecDepth 100000 in
theorem sh_268 : SHF[268]? = some (.inr (0, 8440)) := by decide +kernel
set_option maxRecDepth 100000 in
theorem sh_269 : SHF[269]? = some (.inr (0, 217)) := by decide +kernel
set_option maxRecDepth 100000 in
theorem sh_270 : SHF[270]? = some (.inr (0, 50)) := by decide +kernel
set_option maxRecDepth 100000 in
theorem sh_271 : SHF[271]? = some (.inr (0, 200)) := by decide +kernel
set_option maxRecDepth 100000 in
theorem sh_272 : SHF[272]? = some (.inr (0, 211)) := by decide +kernel
set_option maxRecDepth 100000 in
theorem sh_39 : SHF[39]? = some (.inr (0, 300)) := by decide +kernel
set_option maxRecDepth 100000 in
theorem sh_45 : SHF[45]? = some (.inr (0, 300)) := by decide +kernel
set_option maxRecDepth 100000 in
theorem sh_8 : SHF[8]? = some (.inr (0, 240)) := by decide +kernel
def i_X0 (i : Nat) (M : Mm) : Mm := (wI (wI (wI (wI M i 0 (Int32.ofNat (i + 1 + 1))) i 1 (Int32.ofNat (i + 2 + 1))) i 2 (Int32.ofNat (i + 3 + 1))) i 3 (Int32.ofNat (i + 4 + 1)))
theorem dX0_init_0 : decode cX0_init 0 = .ok (.aload_n 0, 1) := by decide +kernel
theorem dX0_init_1 : decode cX0_init 1 = .ok (.invokespecial 3, 3) := by decide +kernel
theorem dX0_init_4 : decode cX0_init 4 = .ok (.aload_n 0, 1) := by decide +kernel
theorem dX0_init_5 : decode cX0_init 5 = .ok (.iconst 4, 1) := by decide +kernel
theorem dX0_init_6 : decode cX0_init 6 = .ok (.newarray .int, 2) := by decide +kernel
theorem dX0_init_8 : decode cX0_init 8 = .ok (.putfield 9, 3) := by decide +kernel
theorem dX0_init_11 : decode cX0_init 11 = .ok (.aload_n 0, 1) := by decide +kernel
theorem dX0_init_12 : decode cX0_init 12 = .ok (.bipush 6, 2) := by decide +kernel
theorem dX0_init_14 : decode cX0_init 14 = .ok (.newarray .int, 2) := by decide +kernel
theorem dX0_init_16 : decode cX0_init 16 = .ok (.putfield 15, 3) := by decide +kernel
theorem dX0_init_19 : decode cX0_init 19 = .ok (.aload_n 0, 1) := by decide +kernel
theorem dX0_init_20 : decode cX0_init 20 = .ok (.bipush 6, 2) := by decide +kernel
theorem dX0_init_22 : decode cX0_init 22 = .ok (.newarray .int, 2) := by decide +kernel
theorem dX0_init_24 : decode cX0_init 24 = .ok (.putfield 18, 3) := by decide +kernel
theorem dX0_init_27 : decode cX0_init 27 = .ok (.aload_n 0, 1) := by decide +kernel
theorem dX0_init_28 : decode cX0_init 28 = .ok (.bipush 6, 2) := by decide +kernel
theorem dX0_init_30 : decode cX0_init 30 = .ok (.newarray .int, 2) := by decide +kernel
theorem dX0_init_32 : decode cX0_init 32 = .ok (.putfield 21, 3) := by decide +kernel
theorem dX0_init_35 : decode cX0_init 35 = .ok (.return_, 1) := by decide +kernel
set_option maxRecDepth 100000 in
set_option maxHeartbeats 4000000 in
theorem c_X0 {X : WX} {M : Mm} {i : Nat} (hi : isBed i) : SatC X yX0_init cX0_init 1 1 4 22 [.ref (xa X i)] (i + 1) M (i + 5) (i_X0 i M) := by
  refine SatC.mk (own := RX0) rfl rfl (by decide +kernel) (Nat.le_of_ble_eq_true rfl) (fun G hc1 hc2 => ?_)
  refine VC.sub (lv2 := [(0, _)]) [0] rfl ?_
  refine VC.aload_n 0 dX0_init_0 rfl rfl ?_
  refine VC.objInit mo_X0 (by decide) (Nat.le_of_ble_eq_true rfl) dX0_init_1 ?_
  refine VC.aload_n 0 dX0_init_4 rfl rfl ?_
  refine VC.iconst (v := 4) dX0_init_5 rfl ?_
  refine VC.newa (t := 0) (n := 4) (atype := .int) (ty := .int) rfl (Or.inl ⟨rfl, rfl⟩) ac_int (hi.b0) (hi.lt9 1) (by decide) rfl (by decide) (by rw [hc1, hc2]; exact ⟨by decide, by decide⟩) dX0_init_6 ?_
  refine VC.to (c2 := i + 2) (cells2 := 1) (slots2 := 4) rfl rfl rfl rfl ?_
  refine VC.putR (v := i + 1) fl_X0_9 rfl rfl (tyX0_ok 0 (by decide)) rfl rfl hi.sh (by omega) rfl (by decide) (hi.lt6 1) dX0_init_8 ?_
  refine VC.aload_n 0 dX0_init_11 rfl rfl ?_
  refine VC.bipush (v := 6) dX0_init_12 (by decide) ?_
  refine VC.newa (t := 0) (n := 6) (atype := .int) (ty := .int) rfl (Or.inl ⟨rfl, rfl⟩) ac_int (hi.b1) (hi.lt9 2) (by decide) rfl (by decide) (by rw [hc1, hc2]; exact ⟨by decide, by decide⟩) dX0_init_14 ?_
  refine VC.to (c2 := i + 3) (cells2 := 2) (slots2 := 10) rfl rfl rfl rfl ?_
  refine VC.putR (v := i + 2) fl_X0_15 rfl rfl (tyX0_ok 1 (by decide)) rfl rfl hi.sh (by omega) rfl (by decide) (hi.lt6 2) dX0_init_16 ?_
  refine VC.aload_n 0 dX0_init_19 rfl rfl ?_
  refine VC.bipush (v := 6) dX0_init_20 (by decide) ?_
  refine VC.newa (t := 0) (n := 6) (atype := .int) (ty := .int) rfl (Or.inl ⟨rfl, rfl⟩) ac_int (hi.b2) (hi.lt9 3) (by decide) rfl (by decide) (by rw [hc1, hc2]; exact ⟨by decide, by decide⟩) dX0_init_22 ?_
  refine VC.to (c2 := i + 4) (cells2 := 3) (slots2 := 16) rfl rfl rfl rfl ?_
  refine VC.putR (v := i + 3) fl_X0_18 rfl rfl (tyX0_ok 2 (by decide)) rfl rfl hi.sh (by omega) rfl (by decide) (hi.lt6 3) dX0_init_24 ?_
  refine VC.aload_n 0 dX0_init_27 rfl rfl ?_
  refine VC.bipush (v := 6) dX0_init_28 (by decide) ?_
  refine VC.newa (t := 0) (n := 6) (atype := .int) (ty := .int) rfl (Or.inl ⟨rfl, rfl⟩) ac_int (hi.b3) (hi.lt9 4) (by decide) rfl (by decide) (by rw [hc1, hc2]; exact ⟨by decide, by decide⟩) dX0_init_30 ?_
  refine VC.to (c2 := i + 5) (cells2 := 4) (slots2 := 22) rfl rfl rfl rfl ?_
  refine VC.putR (v := i + 4) fl_X0_21 rfl rfl (tyX0_ok 3 (by decide)) rfl rfl hi.sh (by omega) rfl (by decide) (hi.lt6 4) dX0_init_32 ?_
  exact VC.vret dX0_init_35
def i_X1 (i : Nat) (M : Mm) : Mm := (wI (wI M i 0 (Int32.ofNat (i + 1 + 1))) i 1 (Int32.ofNat (i + 2 + 1)))
theorem dX1_init_0 : decode cX1_init 0 = .ok (.aload_n 0, 1) := by decide +kernel
theorem dX1_init_1 : decode cX1_init 1 = .ok (.invokespecial 3, 3) := by decide +kernel
theorem dX1_init_4 : decode cX1_init 4 = .ok (.aload_n 0, 1) := by decide +kernel
theorem dX1_init_5 : decode cX1_init 5 = .ok (.iconst 3, 1) := by decide +kernel
theorem dX1_init_6 : decode cX1_init 6 = .ok (.newarray .int, 2) := by decide +kernel
theorem dX1_init_8 : decode cX1_init 8 = .ok (.putfield 9, 3) := by decide +kernel
theorem dX1_init_11 : decode cX1_init 11 = .ok (.aload_n 0, 1) := by decide +kernel
theorem dX1_init_12 : decode cX1_init 12 = .ok (.bipush 39, 2) := by decide +kernel
theorem dX1_init_14 : decode cX1_init 14 = .ok (.newarray .int, 2) := by decide +kernel
theorem dX1_init_16 : decode cX1_init 16 = .ok (.putfield 15, 3) := by decide +kernel
theorem dX1_init_19 : decode cX1_init 19 = .ok (.return_, 1) := by decide +kernel
set_option maxRecDepth 100000 in
set_option maxHeartbeats 4000000 in
theorem c_X1 {X : WX} {M : Mm} {i : Nat} (hi : isLd i) : SatC X yX1_init cX1_init 1 1 2 42 [.ref (xa X i)] (i + 1) M (i + 3) (i_X1 i M) := by
  refine SatC.mk (own := RX1) rfl rfl (by decide +kernel) (Nat.le_of_ble_eq_true rfl) (fun G hc1 hc2 => ?_)
  refine VC.sub (lv2 := [(0, _)]) [0] rfl ?_
  refine VC.aload_n 0 dX1_init_0 rfl rfl ?_
  refine VC.objInit mo_X1 (by decide) (Nat.le_of_ble_eq_true rfl) dX1_init_1 ?_
  refine VC.aload_n 0 dX1_init_4 rfl rfl ?_
  refine VC.iconst (v := 3) dX1_init_5 rfl ?_
  refine VC.newa (t := 0) (n := 3) (atype := .int) (ty := .int) rfl (Or.inl ⟨rfl, rfl⟩) ac_int (hi.l0) (hi.lt9 1) (by decide) rfl (by decide) (by rw [hc1, hc2]; exact ⟨by decide, by decide⟩) dX1_init_6 ?_
  refine VC.to (c2 := i + 2) (cells2 := 1) (slots2 := 3) rfl rfl rfl rfl ?_
  refine VC.putR (v := i + 1) fl_X1_9 rfl rfl (tyX1_ok 0 (by decide)) rfl rfl hi.sh (by omega) rfl (by decide) (hi.lt6 1) dX1_init_8 ?_
  refine VC.aload_n 0 dX1_init_11 rfl rfl ?_
  refine VC.bipush (v := 39) dX1_init_12 (by decide) ?_
  refine VC.newa (t := 0) (n := 39) (atype := .int) (ty := .int) rfl (Or.inl ⟨rfl, rfl⟩) ac_int (hi.l1) (hi.lt9 2) (by decide) rfl (by decide) (by rw [hc1, hc2]; exact ⟨by decide, by decide⟩) dX1_init_14 ?_
  refine VC.to (c2 := i + 3) (cells2 := 2) (slots2 := 42) rfl rfl rfl rfl ?_
  refine VC.putR (v := i + 2) fl_X1_15 rfl rfl (tyX1_ok 1 (by decide)) rfl rfl hi.sh (by omega) rfl (by decide) (hi.lt6 2) dX1_init_16 ?_
  exact VC.vret dX1_init_19
def i_X7 (M : Mm) : Mm := (wI M 1 0 (Int32.ofNat (2 + 1)))
theorem dX7_init_0 : decode cX7_init 0 = .ok (.aload_n 0, 1) := by decide +kernel
theorem dX7_init_1 : decode cX7_init 1 = .ok (.invokespecial 3, 3) := by decide +kernel
theorem dX7_init_4 : decode cX7_init 4 = .ok (.aload_n 0, 1) := by decide +kernel
theorem dX7_init_5 : decode cX7_init 5 = .ok (.sipush 240, 3) := by decide +kernel
theorem dX7_init_8 : decode cX7_init 8 = .ok (.newarray .char, 2) := by decide +kernel
theorem dX7_init_10 : decode cX7_init 10 = .ok (.putfield 9, 3) := by decide +kernel
theorem dX7_init_13 : decode cX7_init 13 = .ok (.return_, 1) := by decide +kernel
set_option maxRecDepth 100000 in
set_option maxHeartbeats 4000000 in
theorem c_X7 {X : WX} {M : Mm} : SatC X yX7_init cX7_init 1 1 1 240 [.ref (xa X 1)] 2 M 3 (i_X7 M) := by
  refine SatC.mk (own := RX7) rfl rfl (by decide +kernel) (Nat.le_of_ble_eq_true rfl) (fun G hc1 hc2 => ?_)
  refine VC.sub (lv2 := [(0, _)]) [0] rfl ?_
  refine VC.aload_n 0 dX7_init_0 rfl rfl ?_
  refine VC.objInit mo_X7 (by decide) (Nat.le_of_ble_eq_true rfl) dX7_init_1 ?_
  refine VC.aload_n 0 dX7_init_4 rfl rfl ?_
  refine VC.sipush (v := 240) dX7_init_5 (by decide) ?_
  refine VC.newa (t := 1) (n := 240) (atype := .char) (ty := .char) rfl (Or.inr (Or.inl ⟨rfl, rfl⟩)) ac_char sh_2 (by decide) (by decide) rfl (by decide) (by rw [hc1, hc2]; exact ⟨by decide, by decide⟩) dX7_init_8 ?_
  refine VC.to (c2 := 3) (cells2 := 1) (slots2 := 240) rfl rfl rfl rfl ?_
  refine VC.putR (v := 2) fl_X7_9 rfl rfl (tyX7_ok 0 (by decide)) rfl rfl sh_1 (by omega) rfl (by decide) (by decide) dX7_init_10 ?_
  exact VC.vret dX7_init_13
def i_X2 (M : Mm) : Mm := (wI (wI (i_X1 4 M) 3 1 (Int32.ofNat (4 + 1))) 3 0 (Int32.ofNat (1 + 1)))
theorem dX2_init_0 : decode cX2_init 0 = .ok (.aload_n 0, 1) := by decide +kernel
theorem dX2_init_1 : decode cX2_init 1 = .ok (.invokespecial 3, 3) := by decide +kernel
theorem dX2_init_4 : decode cX2_init 4 = .ok (.aload_n 0, 1) := by decide +kernel
theorem dX2_init_5 : decode cX2_init 5 = .ok (.new 9, 3) := by decide +kernel
theorem dX2_init_8 : decode cX2_init 8 = .ok (.dup, 1) := by decide +kernel
theorem dX2_init_9 : decode cX2_init 9 = .ok (.invokespecial 11, 3) := by decide +kernel
theorem dX2_init_12 : decode cX2_init 12 = .ok (.putfield 12, 3) := by decide +kernel
theorem dX2_init_15 : decode cX2_init 15 = .ok (.aload_n 0, 1) := by decide +kernel
theorem dX2_init_16 : decode cX2_init 16 = .ok (.aload_n 1, 1) := by decide +kernel
theorem dX2_init_17 : decode cX2_init 17 = .ok (.putfield 18, 3) := by decide +kernel
theorem dX2_init_20 : decode cX2_init 20 = .ok (.return_, 1) := by decide +kernel
set_option maxRecDepth 100000 in
set_option maxHeartbeats 4000000 in
theorem c_X2 {X : WX} {M : Mm} : SatC X yX2_init cX2_init 2 2 3 44 [.ref (xa X 3), .ref (xa X 1)] 4 M 7 (i_X2 M) := by
  refine SatC.mk (own := RX2) rfl rfl (by decide +kernel) (Nat.le_of_ble_eq_true rfl) (fun G hc1 hc2 => ?_)
  refine VC.sub (lv2 := [(0, _), (1, _)]) [0, 1] rfl ?_
  refine VC.aload_n 0 dX2_init_0 rfl rfl ?_
  refine VC.objInit mo_X2 (by decide) (Nat.le_of_ble_eq_true rfl) dX2_init_1 ?_
  refine VC.aload_n 0 dX2_init_4 rfl rfl ?_
  refine VC.new cok_X1 cl_X2_9 in_X1 ini_X1 kk_X1 sh_4 (by decide) (by rw [hc1, hc2]; exact ⟨by decide, by decide⟩) dX2_init_5 ?_
  refine VC.to (c2 := 5) (cells2 := 1) (slots2 := 2) rfl rfl rfl rfl ?_
  refine VC.dup dX2_init_8 rfl ?_
  refine VC.callIN mi_X1_init ml_X2_11 (c_X1 (Or.inl rfl)) (by decide) rfl rfl (Nat.le_of_ble_eq_true rfl) (by rw [hc1, hc2]; exact ⟨by decide, by decide⟩) dX2_init_9 ?_
  refine VC.to (c2 := 7) (cells2 := 3) (slots2 := 44) rfl rfl rfl rfl ?_
  refine VC.putR (v := 4) fl_X2_12 rfl rfl (tyX2_ok 1 (by decide)) rfl rfl sh_3 (by omega) rfl (by decide) (by decide) dX2_init_12 ?_
  refine VC.aload_n 0 dX2_init_15 rfl rfl ?_
  refine VC.aload_n 1 dX2_init_16 rfl rfl ?_
  refine VC.putR (v := 1) fl_X2_18 rfl rfl (tyX2_ok 0 (by decide)) rfl rfl sh_3 (by omega) rfl (by decide) (by decide) dX2_init_17 ?_
  exact VC.vret dX2_init_20
def i_X3 (M : Mm) : Mm := (wI (wI M 7 1 (Int32.ofNat (8 + 1))) 7 0 (Int32.ofNat (1 + 1)))
theorem dX3_init_0 : decode cX3_init 0 = .ok (.aload_n 0, 1) := by decide +kernel
theorem dX3_init_1 : decode cX3_init 1 = .ok (.invokespecial 3, 3) := by decide +kernel
theorem dX3_init_4 : decode cX3_init 4 = .ok (.aload_n 0, 1) := by decide +kernel
theorem dX3_init_5 : decode cX3_init 5 = .ok (.sipush 240, 3) := by decide +kernel
theorem dX3_init_8 : decode cX3_init 8 = .ok (.newarray .int, 2) := by decide +kernel
theorem dX3_init_10 : decode cX3_init 10 = .ok (.putfield 11, 3) := by decide +kernel
theorem dX3_init_13 : decode cX3_init 13 = .ok (.aload_n 0, 1) := by decide +kernel
theorem dX3_init_14 : decode cX3_init 14 = .ok (.aload_n 1, 1) := by decide +kernel
theorem dX3_init_15 : decode cX3_init 15 = .ok (.putfield 17, 3) := by decide +kernel
theorem dX3_init_18 : decode cX3_init 18 = .ok (.return_, 1) := by decide +kernel
set_option maxRecDepth 100000 in
set_option maxHeartbeats 4000000 in
theorem c_X3 {X : WX} {M : Mm} : SatC X yX3_init cX3_init 2 1 1 240 [.ref (xa X 7), .ref (xa X 1)] 8 M 9 (i_X3 M) := by
  refine SatC.mk (own := RX3) rfl rfl (by decide +kernel) (Nat.le_of_ble_eq_true rfl) (fun G hc1 hc2 => ?_)
  refine VC.sub (lv2 := [(0, _), (1, _)]) [0, 1] rfl ?_
  refine VC.aload_n 0 dX3_init_0 rfl rfl ?_
  refine VC.objInit mo_X3 (by decide) (Nat.le_of_ble_eq_true rfl) dX3_init_1 ?_
  refine VC.aload_n 0 dX3_init_4 rfl rfl ?_
  refine VC.sipush (v := 240) dX3_init_5 (by decide) ?_
  refine VC.newa (t := 0) (n := 240) (atype := .int) (ty := .int) rfl (Or.inl ⟨rfl, rfl⟩) ac_int sh_8 (by decide) (by decide) rfl (by decide) (by rw [hc1, hc2]; exact ⟨by decide, by decide⟩) dX3_init_8 ?_
  refine VC.to (c2 := 9) (cells2 := 1) (slots2 := 240) rfl rfl rfl rfl ?_
  refine VC.putR (v := 8) fl_X3_11 rfl rfl (tyX3_ok 1 (by decide)) rfl rfl sh_7 (by omega) rfl (by decide) (by decide) dX3_init_10 ?_
  refine VC.aload_n 0 dX3_init_13 rfl rfl ?_
  refine VC.aload_n 1 dX3_init_14 rfl rfl ?_
  refine VC.putR (v := 1) fl_X3_17 rfl rfl (tyX3_ok 0 (by decide)) rfl rfl sh_7 (by omega) rfl (by decide) (by decide) dX3_init_15 ?_
  exact VC.vret dX3_init_18
def i_X10 (M : Mm) : Mm := (wI (wI (wI (wI M 9 1 (Int32.ofNat (10 + 1))) 9 2 (Int32.ofNat (11 + 1))) 9 3 (Int32.ofNat (12 + 1))) 9 0 (Int32.ofNat (1 + 1)))
theorem dX10_init_0 : decode cX10_init 0 = .ok (.aload_n 0, 1) := by decide +kernel
theorem dX10_init_1 : decode cX10_init 1 = .ok (.invokespecial 3, 3) := by decide +kernel
theorem dX10_init_4 : decode cX10_init 4 = .ok (.aload_n 0, 1) := by decide +kernel
theorem dX10_init_5 : decode cX10_init 5 = .ok (.bipush 16, 2) := by decide +kernel
theorem dX10_init_7 : decode cX10_init 7 = .ok (.newarray .int, 2) := by decide +kernel
theorem dX10_init_9 : decode cX10_init 9 = .ok (.putfield 11, 3) := by decide +kernel
theorem dX10_init_12 : decode cX10_init 12 = .ok (.aload_n 0, 1) := by decide +kernel
theorem dX10_init_13 : decode cX10_init 13 = .ok (.bipush 64, 2) := by decide +kernel
theorem dX10_init_15 : decode cX10_init 15 = .ok (.newarray .int, 2) := by decide +kernel
theorem dX10_init_17 : decode cX10_init 17 = .ok (.putfield 15, 3) := by decide +kernel
theorem dX10_init_20 : decode cX10_init 20 = .ok (.aload_n 0, 1) := by decide +kernel
theorem dX10_init_21 : decode cX10_init 21 = .ok (.iconst 4, 1) := by decide +kernel
theorem dX10_init_22 : decode cX10_init 22 = .ok (.newarray .int, 2) := by decide +kernel
theorem dX10_init_24 : decode cX10_init 24 = .ok (.putfield 18, 3) := by decide +kernel
theorem dX10_init_27 : decode cX10_init 27 = .ok (.aload_n 0, 1) := by decide +kernel
theorem dX10_init_28 : decode cX10_init 28 = .ok (.aload_n 1, 1) := by decide +kernel
theorem dX10_init_29 : decode cX10_init 29 = .ok (.putfield 21, 3) := by decide +kernel
theorem dX10_init_32 : decode cX10_init 32 = .ok (.return_, 1) := by decide +kernel
set_option maxRecDepth 100000 in
set_option maxHeartbeats 4000000 in
theorem c_X10 {X : WX} {M : Mm} : SatC X yX10_init cX10_init 2 1 3 84 [.ref (xa X 9), .ref (xa X 1)] 10 M 13 (i_X10 M) := by
  refine SatC.mk (own := RX10) rfl rfl (by decide +kernel) (Nat.le_of_ble_eq_true rfl) (fun G hc1 hc2 => ?_)
  refine VC.sub (lv2 := [(0, _), (1, _)]) [0, 1] rfl ?_
  refine VC.aload_n 0 dX10_init_0 rfl rfl ?_
  refine VC.objInit mo_X10 (by decide) (Nat.le_of_ble_eq_true rfl) dX10_init_1 ?_
  refine VC.aload_n 0 dX10_init_4 rfl rfl ?_
  refine VC.bipush (v := 16) dX10_init_5 (by decide) ?_
  refine VC.newa (t := 0) (n := 16) (atype := .int) (ty := .int) rfl (Or.inl ⟨rfl, rfl⟩) ac_int sh_10 (by decide) (by decide) rfl (by decide) (by rw [hc1, hc2]; exact ⟨by decide, by decide⟩) dX10_init_7 ?_
  refine VC.to (c2 := 11) (cells2 := 1) (slots2 := 16) rfl rfl rfl rfl ?_
  refine VC.putR (v := 10) fl_X10_11 rfl rfl (tyX10_ok 1 (by decide)) rfl rfl sh_9 (by omega) rfl (by decide) (by decide) dX10_init_9 ?_
  refine VC.aload_n 0 dX10_init_12 rfl rfl ?_
  refine VC.bipush (v := 64) dX10_init_13 (by decide) ?_
  refine VC.newa (t := 0) (n := 64) (atype := .int) (ty := .int) rfl (Or.inl ⟨rfl, rfl⟩) ac_int sh_11 (by decide) (by decide) rfl (by decide) (by rw [hc1, hc2]; exact ⟨by decide, by decide⟩) dX10_init_15 ?_
  refine VC.to (c2 := 12) (cells2 := 2) (slots2 := 80) rfl rfl rfl rfl ?_
  refine VC.putR (v := 11) fl_X10_15 rfl rfl (tyX10_ok 2 (by decide)) rfl rfl sh_9 (by omega) rfl (by decide) (by decide) dX10_init_17 ?_
  refine VC.aload_n 0 dX10_init_20 rfl rfl ?_
  refine VC.iconst (v := 4) dX10_init_21 rfl ?_
  refine VC.newa (t := 0) (n := 4) (atype := .int) (ty := .int) rfl (Or.inl ⟨rfl, rfl⟩) ac_int sh_12 (by decide) (by decide) rfl (by decide) (by rw [hc1, hc2]; exact ⟨by decide, by decide⟩) dX10_init_22 ?_
  refine VC.to (c2 := 13) (cells2 := 3) (slots2 := 84) rfl rfl rfl rfl ?_
  refine VC.putR (v := 12) fl_X10_18 rfl rfl (tyX10_ok 3 (by decide)) rfl rfl sh_9 (by omega) rfl (by decide) (by decide) dX10_init_24 ?_
  refine VC.aload_n 0 dX10_init_27 rfl rfl ?_
  refine VC.aload_n 1 dX10_init_28 rfl rfl ?_
  refine VC.putR (v := 1) fl_X10_21 rfl rfl (tyX10_ok 0 (by decide)) rfl rfl sh_9 (by omega) rfl (by decide) (by decide) dX10_init_29 ?_
  exact VC.vret dX10_init_32
def i_X4 (M : Mm) : Mm := (wI (wI (wI (wI (wI (wI (mnaM M) 16 0 (Int32.ofNat (17 + 1))) 16 1 (Int32.ofNat (22 + 1))) 16 2 (Int32.ofNat (23 + 1))) 16 3 (Int32.ofNat (24 + 1))) 16 4 (Int32.ofNat (25 + 1))) 16 6 (-1))
theorem dX4_init_0 : decode cX4_init 0 = .ok (.aload_n 0, 1) := by decide +kernel
theorem dX4_init_1 : decode cX4_init 1 = .ok (.invokespecial 3, 3) := by decide +kernel
theorem dX4_init_4 : decode cX4_init 4 = .ok (.aload_n 0, 1) := by decide +kernel
theorem dX4_init_5 : decode cX4_init 5 = .ok (.iconst 4, 1) := by decide +kernel
theorem dX4_init_6 : decode cX4_init 6 = .ok (.sipush 240, 3) := by decide +kernel
theorem dX4_init_9 : decode cX4_init 9 = .ok (.multianewarray 11 2, 4) := by decide +kernel
theorem dX4_init_13 : decode cX4_init 13 = .ok (.putfield 13, 3) := by decide +kernel
theorem dX4_init_16 : decode cX4_init 16 = .ok (.aload_n 0, 1) := by decide +kernel
theorem dX4_init_17 : decode cX4_init 17 = .ok (.iconst 4, 1) := by decide +kernel
theorem dX4_init_18 : decode cX4_init 18 = .ok (.newarray .int, 2) := by decide +kernel
theorem dX4_init_20 : decode cX4_init 20 = .ok (.putfield 16, 3) := by decide +kernel
theorem dX4_init_23 : decode cX4_init 23 = .ok (.aload_n 0, 1) := by decide +kernel
theorem dX4_init_24 : decode cX4_init 24 = .ok (.bipush 6, 2) := by decide +kernel
theorem dX4_init_26 : decode cX4_init 26 = .ok (.newarray .int, 2) := by decide +kernel
theorem dX4_init_28 : decode cX4_init 28 = .ok (.putfield 20, 3) := by decide +kernel
theorem dX4_init_31 : decode cX4_init 31 = .ok (.aload_n 0, 1) := by decide +kernel
theorem dX4_init_32 : decode cX4_init 32 = .ok (.bipush 64, 2) := by decide +kernel
theorem dX4_init_34 : decode cX4_init 34 = .ok (.newarray .int, 2) := by decide +kernel
theorem dX4_init_36 : decode cX4_init 36 = .ok (.putfield 23, 3) := by decide +kernel
theorem dX4_init_39 : decode cX4_init 39 = .ok (.aload_n 0, 1) := by decide +kernel
theorem dX4_init_40 : decode cX4_init 40 = .ok (.sipush 2048, 3) := by decide +kernel
theorem dX4_init_43 : decode cX4_init 43 = .ok (.newarray .long, 2) := by decide +kernel
theorem dX4_init_45 : decode cX4_init 45 = .ok (.putfield 26, 3) := by decide +kernel
theorem dX4_init_48 : decode cX4_init 48 = .ok (.aload_n 0, 1) := by decide +kernel
theorem dX4_init_49 : decode cX4_init 49 = .ok (.iconst (-1), 1) := by decide +kernel
theorem dX4_init_50 : decode cX4_init 50 = .ok (.putfield 30, 3) := by decide +kernel
theorem dX4_init_53 : decode cX4_init 53 = .ok (.return_, 1) := by decide +kernel
set_option maxRecDepth 100000 in
set_option maxHeartbeats 4000000 in
theorem c_X4 {X : WX} {M : Mm} : SatC X yX4_init cX4_init 1 1 9 3086 [.ref (xa X 16)] 17 M 26 (i_X4 M) := by
  refine SatC.mk (own := RX4) rfl rfl (by decide +kernel) (Nat.le_of_ble_eq_true rfl) (fun G hc1 hc2 => ?_)
  refine VC.sub (lv2 := [(0, _)]) [0] rfl ?_
  refine VC.aload_n 0 dX4_init_0 rfl rfl ?_
  refine VC.objInit mo_X4 (by decide) (Nat.le_of_ble_eq_true rfl) dX4_init_1 ?_
  refine VC.aload_n 0 dX4_init_4 rfl rfl ?_
  refine VC.iconst (v := 4) dX4_init_5 rfl ?_
  refine VC.sipush (v := 240) dX4_init_6 (by decide) ?_
  refine VC.mna17 cl_X4_11 ac_int (by rw [hc1, hc2]; exact ⟨by decide, by decide⟩) dX4_init_9 ?_
  refine VC.to (c2 := 22) (cells2 := 5) (slots2 := 964) rfl rfl rfl rfl ?_
  refine VC.putR (v := 17) fl_X4_13 rfl rfl (tyX4_ok 0 (by decide)) rfl rfl sh_16 (by omega) rfl (by decide) (by decide) dX4_init_13 ?_
  refine VC.aload_n 0 dX4_init_16 rfl rfl ?_
  refine VC.iconst (v := 4) dX4_init_17 rfl ?_
  refine VC.newa (t := 0) (n := 4) (atype := .int) (ty := .int) rfl (Or.inl ⟨rfl, rfl⟩) ac_int sh_22 (by decide) (by decide) rfl (by decide) (by rw [hc1, hc2]; exact ⟨by decide, by decide⟩) dX4_init_18 ?_
  refine VC.to (c2 := 23) (cells2 := 6) (slots2 := 968) rfl rfl rfl rfl ?_
  refine VC.putR (v := 22) fl_X4_16 rfl rfl (tyX4_ok 1 (by decide)) rfl rfl sh_16 (by omega) rfl (by decide) (by decide) dX4_init_20 ?_
  refine VC.aload_n 0 dX4_init_23 rfl rfl ?_
  refine VC.bipush (v := 6) dX4_init_24 (by decide) ?_
  refine VC.newa (t := 0) (n := 6) (atype := .int) (ty := .int) rfl (Or.inl ⟨rfl, rfl⟩) ac_int sh_23 (by decide) (by decide) rfl (by decide) (by rw [hc1, hc2]; exact ⟨by decide, by decide⟩) dX4_init_26 ?_
  refine VC.to (c2 := 24) (cells2 := 7) (slots2 := 974) rfl rfl rfl rfl ?_
  refine VC.putR (v := 23) fl_X4_20 rfl rfl (tyX4_ok 2 (by decide)) rfl rfl sh_16 (by omega) rfl (by decide) (by decide) dX4_init_28 ?_
  refine VC.aload_n 0 dX4_init_31 rfl rfl ?_
  refine VC.bipush (v := 64) dX4_init_32 (by decide) ?_
  refine VC.newa (t := 0) (n := 64) (atype := .int) (ty := .int) rfl (Or.inl ⟨rfl, rfl⟩) ac_int sh_24 (by decide) (by decide) rfl (by decide) (by rw [hc1, hc2]; exact ⟨by decide, by decide⟩) dX4_init_34 ?_
  refine VC.to (c2 := 25) (cells2 := 8) (slots2 := 1038) rfl rfl rfl rfl ?_
  refine VC.putR (v := 24) fl_X4_23 rfl rfl (tyX4_ok 3 (by decide)) rfl rfl sh_16 (by omega) rfl (by decide) (by decide) dX4_init_36 ?_
  refine VC.aload_n 0 dX4_init_39 rfl rfl ?_
  refine VC.sipush (v := 2048) dX4_init_40 (by decide) ?_
  refine VC.newa (t := 3) (n := 2048) (atype := .long) (ty := .long) rfl (Or.inr (Or.inr (Or.inr ⟨rfl, rfl⟩))) ac_long sh_25 (by decide) (by decide) rfl (by decide) (by rw [hc1, hc2]; exact ⟨by decide, by decide⟩) dX4_init_43 ?_
  refine VC.to (c2 := 26) (cells2 := 9) (slots2 := 3086) rfl rfl rfl rfl ?_
  refine VC.putR (v := 25) fl_X4_26 rfl rfl (tyX4_ok 4 (by decide)) rfl rfl sh_16 (by omega) rfl (by decide) (by decide) dX4_init_45 ?_
  refine VC.aload_n 0 dX4_init_48 rfl rfl ?_
  refine VC.iconst (v := -1) dX4_init_49 rfl ?_
  refine VC.putI fl_X4_30 rfl (tyX4_ok 6 (by decide)) sh_16 (by decide) rfl dX4_init_50 ?_
  exact VC.vret dX4_init_53
def i_X9 (M : Mm) : Mm := (wI (wI M 26 0 (Int32.ofNat (13 + 1))) 26 1 (Int32.ofNat (16 + 1)))
theorem dX9_init_0 : decode cX9_init 0 = .ok (.aload_n 0, 1) := by decide +kernel
theorem dX9_init_1 : decode cX9_init 1 = .ok (.invokespecial 3, 3) := by decide +kernel
theorem dX9_init_4 : decode cX9_init 4 = .ok (.aload_n 0, 1) := by decide +kernel
theorem dX9_init_5 : decode cX9_init 5 = .ok (.aload_n 1, 1) := by decide +kernel
theorem dX9_init_6 : decode cX9_init 6 = .ok (.putfield 9, 3) := by decide +kernel
theorem dX9_init_9 : decode cX9_init 9 = .ok (.aload_n 0, 1) := by decide +kernel
theorem dX9_init_10 : decode cX9_init 10 = .ok (.aload_n 2, 1) := by decide +kernel
theorem dX9_init_11 : decode cX9_init 11 = .ok (.putfield 15, 3) := by decide +kernel
theorem dX9_init_14 : decode cX9_init 14 = .ok (.return_, 1) := by decide +kernel
set_option maxRecDepth 100000 in
set_option maxHeartbeats 4000000 in
theorem c_X9 {X : WX} {M : Mm} : SatC X yX9_init cX9_init 3 1 0 0 [.ref (xa X 26), .ref (xa X 13), .ref (xa X 16)] 27 M 27 (i_X9 M) := by
  refine SatC.mk (own := RX9) rfl rfl (by decide +kernel) (Nat.le_of_ble_eq_true rfl) (fun G hc1 hc2 => ?_)
  refine VC.sub (lv2 := [(0, _), (1, _), (2, _)]) [0, 1, 2] rfl ?_
  refine VC.aload_n 0 dX9_init_0 rfl rfl ?_
  refine VC.objInit mo_X9 (by decide) (Nat.le_of_ble_eq_true rfl) dX9_init_1 ?_
  refine VC.aload_n 0 dX9_init_4 rfl rfl ?_
  refine VC.aload_n 1 dX9_init_5 rfl rfl ?_
  refine VC.putR (v := 13) fl_X9_9 rfl rfl (tyX9_ok 0 (by decide)) rfl rfl sh_26 (by omega) rfl (by decide) (by decide) dX9_init_6 ?_
  refine VC.aload_n 0 dX9_init_9 rfl rfl ?_
  refine VC.aload_n 2 dX9_init_10 rfl rfl ?_
  refine VC.putR (v := 16) fl_X9_15 rfl rfl (tyX9_ok 1 (by decide)) rfl rfl sh_26 (by omega) rfl (by decide) (by decide) dX9_init_11 ?_
  exact VC.vret dX9_init_14
def i_X6 (M : Mm) : Mm := (wI (wI (wI (wI (wI (wI M 246 4 (Int32.ofNat (247 + 1))) 246 5 (Int32.ofNat (248 + 1))) 246 0 (Int32.ofNat (26 + 1))) 246 1 (Int32.ofNat (13 + 1))) 246 2 (Int32.ofNat (16 + 1))) 246 3 (Int32.ofNat (27 + 1)))
theorem dX6_init_0 : decode cX6_init 0 = .ok (.aload_n 0, 1) := by decide +kernel
theorem dX6_init_1 : decode cX6_init 1 = .ok (.invokespecial 3, 3) := by decide +kernel
theorem dX6_init_4 : decode cX6_init 4 = .ok (.aload_n 0, 1) := by decide +kernel
theorem dX6_init_5 : decode cX6_init 5 = .ok (.iconst 4, 1) := by decide +kernel
theorem dX6_init_6 : decode cX6_init 6 = .ok (.newarray .int, 2) := by decide +kernel
theorem dX6_init_8 : decode cX6_init 8 = .ok (.putfield 9, 3) := by decide +kernel
theorem dX6_init_11 : decode cX6_init 11 = .ok (.aload_n 0, 1) := by decide +kernel
theorem dX6_init_12 : decode cX6_init 12 = .ok (.bipush 100, 2) := by decide +kernel
theorem dX6_init_14 : decode cX6_init 14 = .ok (.newarray .int, 2) := by decide +kernel
theorem dX6_init_16 : decode cX6_init 16 = .ok (.putfield 15, 3) := by decide +kernel
theorem dX6_init_19 : decode cX6_init 19 = .ok (.aload_n 0, 1) := by decide +kernel
theorem dX6_init_20 : decode cX6_init 20 = .ok (.aload_n 1, 1) := by decide +kernel
theorem dX6_init_21 : decode cX6_init 21 = .ok (.putfield 18, 3) := by decide +kernel
theorem dX6_init_24 : decode cX6_init 24 = .ok (.aload_n 0, 1) := by decide +kernel
theorem dX6_init_25 : decode cX6_init 25 = .ok (.aload_n 1, 1) := by decide +kernel
theorem dX6_init_26 : decode cX6_init 26 = .ok (.getfield 22, 3) := by decide +kernel
theorem dX6_init_29 : decode cX6_init 29 = .ok (.putfield 28, 3) := by decide +kernel
theorem dX6_init_32 : decode cX6_init 32 = .ok (.aload_n 0, 1) := by decide +kernel
theorem dX6_init_33 : decode cX6_init 33 = .ok (.aload_n 1, 1) := by decide +kernel
theorem dX6_init_34 : decode cX6_init 34 = .ok (.getfield 29, 3) := by decide +kernel
theorem dX6_init_37 : decode cX6_init 37 = .ok (.putfield 33, 3) := by decide +kernel
theorem dX6_init_40 : decode cX6_init 40 = .ok (.aload_n 0, 1) := by decide +kernel
theorem dX6_init_41 : decode cX6_init 41 = .ok (.aload_n 2, 1) := by decide +kernel
theorem dX6_init_42 : decode cX6_init 42 = .ok (.putfield 34, 3) := by decide +kernel
theorem dX6_init_45 : decode cX6_init 45 = .ok (.return_, 1) := by decide +kernel
set_option maxRecDepth 100000 in
set_option maxHeartbeats 4000000 in
theorem c_X6 {X : WX} {M : Mm} (h0 : M.1 26 0 = Int32.ofNat (13 + 1)) (h1 : M.1 26 1 = Int32.ofNat (16 + 1)) : SatC X yX6_init cX6_init 3 1 2 104 [.ref (xa X 246), .ref (xa X 26), .ref (xa X 27)] 247 M 249 (i_X6 M) := by
  refine SatC.mk (own := RX6) rfl rfl (by decide +kernel) (Nat.le_of_ble_eq_true rfl) (fun G hc1 hc2 => ?_)
  refine VC.sub (lv2 := [(0, _), (1, _), (2, _)]) [0, 1, 2] rfl ?_
  refine VC.aload_n 0 dX6_init_0 rfl rfl ?_
  refine VC.objInit mo_X6 (by decide) (Nat.le_of_ble_eq_true rfl) dX6_init_1 ?_
  refine VC.aload_n 0 dX6_init_4 rfl rfl ?_
  refine VC.iconst (v := 4) dX6_init_5 rfl ?_
  refine VC.newa (t := 0) (n := 4) (atype := .int) (ty := .int) rfl (Or.inl ⟨rfl, rfl⟩) ac_int sh_247 (by decide) (by decide) rfl (by decide) (by rw [hc1, hc2]; exact ⟨by decide, by decide⟩) dX6_init_6 ?_
  refine VC.to (c2 := 248) (cells2 := 1) (slots2 := 4) rfl rfl rfl rfl ?_
  refine VC.putR (v := 247) fl_X6_9 rfl rfl (tyX6_ok 4 (by decide)) rfl rfl sh_246 (by omega) rfl (by decide) (by decide) dX6_init_8 ?_
  refine VC.aload_n 0 dX6_init_11 rfl rfl ?_
  refine VC.bipush (v := 100) dX6_init_12 (by decide) ?_
  refine VC.newa (t := 0) (n := 100) (atype := .int) (ty := .int) rfl (Or.inl ⟨rfl, rfl⟩) ac_int sh_248 (by decide) (by decide) rfl (by decide) (by rw [hc1, hc2]; exact ⟨by decide, by decide⟩) dX6_init_14 ?_
  refine VC.to (c2 := 249) (cells2 := 2) (slots2 := 104) rfl rfl rfl rfl ?_
  refine VC.putR (v := 248) fl_X6_15 rfl rfl (tyX6_ok 5 (by decide)) rfl rfl sh_246 (by omega) rfl (by decide) (by decide) dX6_init_16 ?_
  refine VC.aload_n 0 dX6_init_19 rfl rfl ?_
  refine VC.aload_n 1 dX6_init_20 rfl rfl ?_
  refine VC.putR (v := 26) fl_X6_18 rfl rfl (tyX6_ok 0 (by decide)) rfl rfl sh_246 (by omega) rfl (by decide) (by decide) dX6_init_21 ?_
  refine VC.aload_n 0 dX6_init_24 rfl rfl ?_
  refine VC.aload_n 1 dX6_init_25 rfl rfl ?_
  refine VC.getR (v := 13) fl_X6_22 sh_26 (by decide) rfl (by decide) h0 (by decide) dX6_init_26 ?_
  refine VC.putR (v := 13) fl_X6_28 rfl rfl (tyX6_ok 1 (by decide)) rfl rfl sh_246 (by omega) rfl (by decide) (by decide) dX6_init_29 ?_
  refine VC.aload_n 0 dX6_init_32 rfl rfl ?_
  refine VC.aload_n 1 dX6_init_33 rfl rfl ?_
  refine VC.getR (v := 16) fl_X6_29 sh_26 (by decide) rfl (by decide) h1 (by decide) dX6_init_34 ?_
  refine VC.putR (v := 16) fl_X6_33 rfl rfl (tyX6_ok 2 (by decide)) rfl rfl sh_246 (by omega) rfl (by decide) (by decide) dX6_init_37 ?_
  refine VC.aload_n 0 dX6_init_40 rfl rfl ?_
  refine VC.aload_n 2 dX6_init_41 rfl rfl ?_
  refine VC.putR (v := 27) fl_X6_34 rfl rfl (tyX6_ok 3 (by decide)) rfl rfl sh_246 (by omega) rfl (by decide) (by decide) dX6_init_42 ?_
  exact VC.vret dX6_init_45
def i_X8 (M : Mm) : Mm := (wI (wI (wI (wI M 249 3 (Int32.ofNat (250 + 1))) 249 0 (Int32.ofNat (26 + 1))) 249 1 (Int32.ofNat (13 + 1))) 249 2 (Int32.ofNat (27 + 1)))
theorem dX8_init_0 : decode cX8_init 0 = .ok (.aload_n 0, 1) := by decide +kernel
theorem dX8_init_1 : decode cX8_init 1 = .ok (.invokespecial 3, 3) := by decide +kernel
theorem dX8_init_4 : decode cX8_init 4 = .ok (.aload_n 0, 1) := by decide +kernel
theorem dX8_init_5 : decode cX8_init 5 = .ok (.bipush 50, 2) := by decide +kernel
theorem dX8_init_7 : decode cX8_init 7 = .ok (.newarray .int, 2) := by decide +kernel
theorem dX8_init_9 : decode cX8_init 9 = .ok (.putfield 11, 3) := by decide +kernel
theorem dX8_init_12 : decode cX8_init 12 = .ok (.aload_n 0, 1) := by decide +kernel
theorem dX8_init_13 : decode cX8_init 13 = .ok (.aload_n 1, 1) := by decide +kernel
theorem dX8_init_14 : decode cX8_init 14 = .ok (.putfield 15, 3) := by decide +kernel
theorem dX8_init_17 : decode cX8_init 17 = .ok (.aload_n 0, 1) := by decide +kernel
theorem dX8_init_18 : decode cX8_init 18 = .ok (.aload_n 1, 1) := by decide +kernel
theorem dX8_init_19 : decode cX8_init 19 = .ok (.getfield 19, 3) := by decide +kernel
theorem dX8_init_22 : decode cX8_init 22 = .ok (.putfield 25, 3) := by decide +kernel
theorem dX8_init_25 : decode cX8_init 25 = .ok (.aload_n 0, 1) := by decide +kernel
theorem dX8_init_26 : decode cX8_init 26 = .ok (.aload_n 2, 1) := by decide +kernel
theorem dX8_init_27 : decode cX8_init 27 = .ok (.putfield 26, 3) := by decide +kernel
theorem dX8_init_30 : decode cX8_init 30 = .ok (.return_, 1) := by decide +kernel
set_option maxRecDepth 100000 in
set_option maxHeartbeats 4000000 in
theorem c_X8 {X : WX} {M : Mm} (h0 : M.1 26 0 = Int32.ofNat (13 + 1)) (_h : (1 : Nat) = 1) : SatC X yX8_init cX8_init 3 1 1 50 [.ref (xa X 249), .ref (xa X 26), .ref (xa X 27)] 250 M 251 (i_X8 M) := by
  refine SatC.mk (own := RX8) rfl rfl (by decide +kernel) (Nat.le_of_ble_eq_true rfl) (fun G hc1 hc2 => ?_)
  refine VC.sub (lv2 := [(0, _), (1, _), (2, _)]) [0, 1, 2] rfl ?_
  refine VC.aload_n 0 dX8_init_0 rfl rfl ?_
  refine VC.objInit mo_X8 (by decide) (Nat.le_of_ble_eq_true rfl) dX8_init_1 ?_
  refine VC.aload_n 0 dX8_init_4 rfl rfl ?_
  refine VC.bipush (v := 50) dX8_init_5 (by decide) ?_
  refine VC.newa (t := 0) (n := 50) (atype := .int) (ty := .int) rfl (Or.inl ⟨rfl, rfl⟩) ac_int sh_250 (by decide) (by decide) rfl (by decide) (by rw [hc1, hc2]; exact ⟨by decide, by decide⟩) dX8_init_7 ?_
  refine VC.to (c2 := 251) (cells2 := 1) (slots2 := 50) rfl rfl rfl rfl ?_
  refine VC.putR (v := 250) fl_X8_11 rfl rfl (tyX8_ok 3 (by decide)) rfl rfl sh_249 (by omega) rfl (by decide) (by decide) dX8_init_9 ?_
  refine VC.aload_n 0 dX8_init_12 rfl rfl ?_
  refine VC.aload_n 1 dX8_init_13 rfl rfl ?_
  refine VC.putR (v := 26) fl_X8_15 rfl rfl (tyX8_ok 0 (by decide)) rfl rfl sh_249 (by omega) rfl (by decide) (by decide) dX8_init_14 ?_
  refine VC.aload_n 0 dX8_init_17 rfl rfl ?_
  refine VC.aload_n 1 dX8_init_18 rfl rfl ?_
  refine VC.getR (v := 13) fl_X8_19 sh_26 (by decide) rfl (by decide) h0 (by decide) dX8_init_19 ?_
  refine VC.putR (v := 13) fl_X8_25 rfl rfl (tyX8_ok 1 (by decide)) rfl rfl sh_249 (by omega) rfl (by decide) (by decide) dX8_init_22 ?_
  refine VC.aload_n 0 dX8_init_25 rfl rfl ?_
  refine VC.aload_n 2 dX8_init_26 rfl rfl ?_
  refine VC.putR (v := 27) fl_X8_26 rfl rfl (tyX8_ok 2 (by decide)) rfl rfl sh_249 (by omega) rfl (by decide) (by decide) dX8_init_27 ?_
  exact VC.vret dX8_init_30
theorem dX5_init_0 : decode cX5_init 0 = .ok (.aload_n 0, 1) := by decide +kernel
theorem dX5_init_1 : decode cX5_init 1 = .ok (.invokespecial 5, 3) := by decide +kernel
theorem dX5_init_4 : decode cX5_init 4 = .ok (.aload_n 0, 1) := by decide +kernel
theorem dX5_init_5 : decode cX5_init 5 = .ok (.bipush 40, 2) := by decide +kernel
theorem dX5_init_7 : decode cX5_init 7 = .ok (.anewarray 11, 3) := by decide +kernel
theorem dX5_init_10 : decode cX5_init 10 = .ok (.putfield 13, 3) := by decide +kernel
theorem dX5_init_13 : decode cX5_init 13 = .ok (.aload_n 0, 1) := by decide +kernel
theorem dX5_init_14 : decode cX5_init 14 = .ok (.sipush 300, 3) := by decide +kernel
theorem dX5_init_17 : decode cX5_init 17 = .ok (.newarray .int, 2) := by decide +kernel
theorem dX5_init_19 : decode cX5_init 19 = .ok (.putfield 17, 3) := by decide +kernel
theorem dX5_init_22 : decode cX5_init 22 = .ok (.aload_n 0, 1) := by decide +kernel
theorem dX5_init_23 : decode cX5_init 23 = .ok (.new 11, 3) := by decide +kernel
theorem dX5_init_26 : decode cX5_init 26 = .ok (.dup, 1) := by decide +kernel
theorem dX5_init_27 : decode cX5_init 27 = .ok (.invokespecial 21, 3) := by decide +kernel
theorem dX5_init_30 : decode cX5_init 30 = .ok (.putfield 22, 3) := by decide +kernel
theorem dX5_init_33 : decode cX5_init 33 = .ok (.aload_n 0, 1) := by decide +kernel
theorem dX5_init_34 : decode cX5_init 34 = .ok (.sipush 300, 3) := by decide +kernel
theorem dX5_init_37 : decode cX5_init 37 = .ok (.newarray .int, 2) := by decide +kernel
theorem dX5_init_39 : decode cX5_init 39 = .ok (.putfield 26, 3) := by decide +kernel
theorem dX5_init_42 : decode cX5_init 42 = .ok (.iconst 0, 1) := by decide +kernel
theorem dX5_init_43 : decode cX5_init 43 = .ok (.istore_n 1, 1) := by decide +kernel
theorem dX5_init_44 : decode cX5_init 44 = .ok (.iload_n 1, 1) := by decide +kernel
theorem dX5_init_45 : decode cX5_init 45 = .ok (.aload_n 0, 1) := by decide +kernel
theorem dX5_init_46 : decode cX5_init 46 = .ok (.getfield 13, 3) := by decide +kernel
theorem dX5_init_49 : decode cX5_init 49 = .ok (.arraylength, 1) := by decide +kernel
theorem dX5_init_50 : decode cX5_init 50 = .ok (.if_icmp .ge 22, 3) := by decide +kernel
theorem dX5_init_53 : decode cX5_init 53 = .ok (.aload_n 0, 1) := by decide +kernel
theorem dX5_init_54 : decode cX5_init 54 = .ok (.getfield 13, 3) := by decide +kernel
theorem dX5_init_57 : decode cX5_init 57 = .ok (.iload_n 1, 1) := by decide +kernel
theorem dX5_init_58 : decode cX5_init 58 = .ok (.new 11, 3) := by decide +kernel
theorem dX5_init_61 : decode cX5_init 61 = .ok (.dup, 1) := by decide +kernel
theorem dX5_init_62 : decode cX5_init 62 = .ok (.invokespecial 21, 3) := by decide +kernel
theorem dX5_init_65 : decode cX5_init 65 = .ok (.aastore, 1) := by decide +kernel
theorem dX5_init_66 : decode cX5_init 66 = .ok (.iinc 1 1, 3) := by decide +kernel
theorem dX5_init_69 : decode cX5_init 69 = .ok (.goto (-25), 3) := by decide +kernel
theorem dX5_init_72 : decode cX5_init 72 = .ok (.return_, 1) := by decide +kernel
def i_X5a (M : Mm) : Mm := (wI (wI (i_X0 40 (wI (wI M 37 0 (Int32.ofNat (38 + 1))) 37 1 (Int32.ofNat (39 + 1)))) 37 2 (Int32.ofNat (40 + 1))) 37 3 (Int32.ofNat (45 + 1)))
def ringM (M : Mm) : Nat → Mm
  | 0 => M
  | j + 1 => wI (i_X0 (46 + 5 * j) (ringM M j)) 38 j (Int32.ofNat (46 + 5 * j + 1))
theorem i_X0_row {i : Nat} {M : Mm} {a : Nat} (h : a ≠ i) : (i_X0 i M).1 a = M.1 a := by
  simp only [i_X0]
  rw [(wI_other a h).1, (wI_other a h).1, (wI_other a h).1, (wI_other a h).1]
theorem ringM_37 (M : Mm) : ∀ j, (ringM M j).1 37 = M.1 37
  | 0 => rfl
  | j + 1 => by
    show (wI (i_X0 (46 + 5 * j) (ringM M j)) 38 j _).1 37 = _
    rw [(wI_other 37 (by decide)).1, i_X0_row (by omega), ringM_37 M j]
def i_X5 (M : Mm) : Mm := ringM (i_X5a M) 40
set_option maxRecDepth 100000 in
set_option maxHeartbeats 4000000 in
theorem c_X5_loop {X : WX} {M : Mm} {G : GX} (h37 : M.1 37 0 = Int32.ofNat (38 + 1)) (hc1 : (gR G).cells = 208) (hc2 : (gR G).slots = 2075) : ∀ (k j : Nat), j + k = 40 → VC X G RX5 cX5_init 2 none 2 (8 + 5 * j) (675 + 35 * j) (MQ (gb G) (PostC X 246 (ringM M 40)) (ga G) (gs G) 208 2075 (xA X)) "<init>" (46 + 5 * j) 44 [(0, .ref (xa X 37)), (1, .int (nI j))] [] (ringM M j) := by
  intro k
  induction k with
  | zero =>
    intro j hj
    have e : j = 40 := by omega
    subst e
    refine VC.iload_n 1 dX5_init_44 rfl rfl ?_
    refine VC.aload_n 0 dX5_init_45 rfl rfl ?_
    refine VC.getR (v := 38) fl_X5_13 sh_37 (by decide) rfl (by decide) (by rw [ringM_37]; exact h37) (by decide) dX5_init_46 ?_
    refine VC.alen (v := 40) sh_38 (by decide) rfl rfl dX5_init_49 ?_
    refine VC.icmp_ge (tgt := 72) dX5_init_50 rfl (fun _ => ?_) (fun q => absurd (by decide) q)
    exact VC.vret dX5_init_72
  | succ k ih =>
    intro j hj
    have hj40 : j < 40 := by omega
    have hb := ring_bed hj40
    refine VC.iload_n 1 dX5_init_44 rfl rfl ?_
    refine VC.aload_n 0 dX5_init_45 rfl rfl ?_
    refine VC.getR (v := 38) fl_X5_13 sh_37 (by omega) rfl (by decide) (by rw [ringM_37]; exact h37) (by decide) dX5_init_46 ?_
    refine VC.alen (v := 40) sh_38 (by omega) rfl rfl dX5_init_49 ?_
    refine VC.icmp_ge (tgt := 72) dX5_init_50 rfl (fun q => absurd q (nI_ge (a := j) (b := 40) hj40 (by decide))) (fun _ => ?_)
    refine VC.aload_n 0 dX5_init_53 rfl rfl ?_
    refine VC.getR (v := 38) fl_X5_13 sh_37 (by omega) rfl (by decide) (by rw [ringM_37]; exact h37) (by decide) dX5_init_54 ?_
    refine VC.iload_n 1 dX5_init_57 rfl rfl ?_
    refine VC.new cok_X0 cl_X5_11 in_X0 ini_X0 kk_X0 hb.sh (by omega) (by rw [hc1, hc2]; constructor <;> omega) dX5_init_58 ?_
    refine VC.dup dX5_init_61 rfl ?_
    refine VC.callIN mi_X0_init ml_X5_21 (c_X0 hb) (by decide) rfl rfl (Nat.le_of_ble_eq_true rfl) (by rw [hc1, hc2]; constructor <;> omega) dX5_init_62 ?_
    refine VC.aast (v := 46 + 5 * j) (n := 40) sh_38 (by omega) hb.sh (by omega) (by omega) ⟨by rw [nI_toInt (by omega)]; omega, by rw [nI_toInt (by omega)]; omega⟩ dX5_init_65 ?_
    refine VC.iinc (v := nI (j + 1)) 1 [(1, _), (0, _)] dX5_init_66 rfl (nI_1 j) (by decide) rfl ?_
    refine VC.goto (tgt := 44) dX5_init_69 rfl ?_
    refine VC.sub (lv2 := [(0, _), (1, _)]) [1, 0] rfl ?_
    refine VC.to (c2 := 46 + 5 * (j + 1)) (cells2 := 8 + 5 * (j + 1)) (slots2 := 675 + 35 * (j + 1)) ?_ (by omega) (by omega) (by omega) (ih (j + 1) (by omega))
    show wI _ 38 (nI j).toNatClampNeg _ = wI _ 38 j _
    rw [nI_clamp (by omega)]
set_option maxRecDepth 100000 in
set_option maxHeartbeats 4000000 in
theorem c_X5 {X : WX} {M : Mm} : SatC X yX5_init cX5_init 2 2 208 2075 [.ref (xa X 37)] 38 M 246 (i_X5 M) := by
  refine SatC.mk (own := RX5) rfl rfl (by decide +kernel) (Nat.le_of_ble_eq_true rfl) (fun G hc1 hc2 => ?_)
  refine VC.sub (lv2 := [(0, _)]) [0] rfl ?_
  refine VC.aload_n 0 dX5_init_0 rfl rfl ?_
  refine VC.objInit mo_X5 (by decide) (Nat.le_of_ble_eq_true rfl) dX5_init_1 ?_
  refine VC.aload_n 0 dX5_init_4 rfl rfl ?_
  refine VC.bipush (v := 40) dX5_init_5 (by decide) ?_
  refine VC.anew (n := 40) cl_X5_11 sh_38 (by decide) (by decide) rfl (by decide) (by rw [hc1, hc2]; exact ⟨by decide, by decide⟩) dX5_init_7 ?_
  refine VC.to (c2 := 39) (cells2 := 1) (slots2 := 40) rfl rfl rfl rfl ?_
  refine VC.putR (v := 38) fl_X5_13 rfl rfl (tyX5_ok 0 (by decide)) rfl rfl sh_37 (by omega) rfl (by decide) (by decide) dX5_init_10 ?_
  refine VC.aload_n 0 dX5_init_13 rfl rfl ?_
  refine VC.sipush (v := 300) dX5_init_14 (by decide) ?_
  refine VC.newa (t := 0) (n := 300) (atype := .int) (ty := .int) rfl (Or.inl ⟨rfl, rfl⟩) ac_int sh_39 (by decide) (by decide) rfl (by decide) (by rw [hc1, hc2]; exact ⟨by decide, by decide⟩) dX5_init_17 ?_
  refine VC.to (c2 := 40) (cells2 := 2) (slots2 := 340) rfl rfl rfl rfl ?_
  refine VC.putR (v := 39) fl_X5_17 rfl rfl (tyX5_ok 1 (by decide)) rfl rfl sh_37 (by omega) rfl (by decide) (by decide) dX5_init_19 ?_
  refine VC.aload_n 0 dX5_init_22 rfl rfl ?_
  refine VC.new cok_X0 cl_X5_11 in_X0 ini_X0 kk_X0 sh_40 (by decide) (by rw [hc1, hc2]; exact ⟨by decide, by decide⟩) dX5_init_23 ?_
  refine VC.to (c2 := 41) (cells2 := 3) (slots2 := 353) rfl rfl rfl rfl ?_
  refine VC.dup dX5_init_26 rfl ?_
  refine VC.callIN mi_X0_init ml_X5_21 (c_X0 isb_40) (by decide) rfl rfl (Nat.le_of_ble_eq_true rfl) (by rw [hc1, hc2]; exact ⟨by decide, by decide⟩) dX5_init_27 ?_
  refine VC.to (c2 := 45) (cells2 := 7) (slots2 := 375) rfl rfl rfl rfl ?_
  refine VC.putR (v := 40) fl_X5_22 rfl rfl (tyX5_ok 2 (by decide)) rfl rfl sh_37 (by omega) rfl (by decide) (by decide) dX5_init_30 ?_
  refine VC.aload_n 0 dX5_init_33 rfl rfl ?_
  refine VC.sipush (v := 300) dX5_init_34 (by decide) ?_
  refine VC.newa (t := 0) (n := 300) (atype := .int) (ty := .int) rfl (Or.inl ⟨rfl, rfl⟩) ac_int sh_45 (by decide) (by decide) rfl (by decide) (by rw [hc1, hc2]; exact ⟨by decide, by decide⟩) dX5_init_37 ?_
  refine VC.to (c2 := 46) (cells2 := 8) (slots2 := 675) rfl rfl rfl rfl ?_
  refine VC.putR (v := 45) fl_X5_26 rfl rfl (tyX5_ok 3 (by decide)) rfl rfl sh_37 (by omega) rfl (by decide) (by decide) dX5_init_39 ?_
  refine VC.iconst (v := 0) dX5_init_42 rfl ?_
  refine VC.istore_n [(1, _), (0, _)] dX5_init_43 rfl (by decide) rfl ?_
  refine VC.sub (lv2 := [(0, _), (1, _)]) [1, 0] rfl ?_
  exact VC.to (M2 := ringM (i_X5a M) 0) rfl rfl rfl rfl (c_X5_loop (by rfl) hc1 hc2 40 0 rfl)
def i_X11 (M : Mm) : Mm := (wI (i_X8 (wI (i_X6 (wI (i_X5 (wI (i_X0 32 (wI (i_X0 27 (wI (i_X9 (wI (i_X4 (wI (i_X1 13 (wI (i_X10 (wI (i_X3 (wI (i_X2 (wI (i_X7 M) 0 0 (Int32.ofNat (1 + 1)))) 0 1 (Int32.ofNat (3 + 1)))) 0 2 (Int32.ofNat (7 + 1)))) 0 3 (Int32.ofNat (9 + 1)))) 0 4 (Int32.ofNat (13 + 1)))) 0 5 (Int32.ofNat (16 + 1)))) 0 6 (Int32.ofNat (26 + 1)))) 0 7 (Int32.ofNat (27 + 1)))) 0 8 (Int32.ofNat (32 + 1)))) 0 9 (Int32.ofNat (37 + 1)))) 0 10 (Int32.ofNat (246 + 1)))) 0 11 (Int32.ofNat (249 + 1)))
theorem dX11_init_0 : decode cX11_init 0 = .ok (.aload_n 0, 1) := by decide +kernel
theorem dX11_init_1 : decode cX11_init 1 = .ok (.invokespecial 1, 3) := by decide +kernel
theorem dX11_init_4 : decode cX11_init 4 = .ok (.aload_n 0, 1) := by decide +kernel
theorem dX11_init_5 : decode cX11_init 5 = .ok (.new 7, 3) := by decide +kernel
theorem dX11_init_8 : decode cX11_init 8 = .ok (.dup, 1) := by decide +kernel
theorem dX11_init_9 : decode cX11_init 9 = .ok (.invokespecial 9, 3) := by decide +kernel
theorem dX11_init_12 : decode cX11_init 12 = .ok (.putfield 10, 3) := by decide +kernel
theorem dX11_init_15 : decode cX11_init 15 = .ok (.aload_n 0, 1) := by decide +kernel
theorem dX11_init_16 : decode cX11_init 16 = .ok (.new 16, 3) := by decide +kernel
theorem dX11_init_19 : decode cX11_init 19 = .ok (.dup, 1) := by decide +kernel
theorem dX11_init_20 : decode cX11_init 20 = .ok (.aload_n 0, 1) := by decide +kernel
theorem dX11_init_21 : decode cX11_init 21 = .ok (.getfield 10, 3) := by decide +kernel
theorem dX11_init_24 : decode cX11_init 24 = .ok (.invokespecial 18, 3) := by decide +kernel
theorem dX11_init_27 : decode cX11_init 27 = .ok (.putfield 21, 3) := by decide +kernel
theorem dX11_init_30 : decode cX11_init 30 = .ok (.aload_n 0, 1) := by decide +kernel
theorem dX11_init_31 : decode cX11_init 31 = .ok (.new 25, 3) := by decide +kernel
theorem dX11_init_34 : decode cX11_init 34 = .ok (.dup, 1) := by decide +kernel
theorem dX11_init_35 : decode cX11_init 35 = .ok (.aload_n 0, 1) := by decide +kernel
theorem dX11_init_36 : decode cX11_init 36 = .ok (.getfield 10, 3) := by decide +kernel
theorem dX11_init_39 : decode cX11_init 39 = .ok (.invokespecial 27, 3) := by decide +kernel
theorem dX11_init_42 : decode cX11_init 42 = .ok (.putfield 28, 3) := by decide +kernel
theorem dX11_init_45 : decode cX11_init 45 = .ok (.aload_n 0, 1) := by decide +kernel
theorem dX11_init_46 : decode cX11_init 46 = .ok (.new 32, 3) := by decide +kernel
theorem dX11_init_49 : decode cX11_init 49 = .ok (.dup, 1) := by decide +kernel
theorem dX11_init_50 : decode cX11_init 50 = .ok (.aload_n 0, 1) := by decide +kernel
theorem dX11_init_51 : decode cX11_init 51 = .ok (.getfield 10, 3) := by decide +kernel
theorem dX11_init_54 : decode cX11_init 54 = .ok (.invokespecial 34, 3) := by decide +kernel
theorem dX11_init_57 : decode cX11_init 57 = .ok (.putfield 35, 3) := by decide +kernel
theorem dX11_init_60 : decode cX11_init 60 = .ok (.aload_n 0, 1) := by decide +kernel
theorem dX11_init_61 : decode cX11_init 61 = .ok (.new 39, 3) := by decide +kernel
theorem dX11_init_64 : decode cX11_init 64 = .ok (.dup, 1) := by decide +kernel
theorem dX11_init_65 : decode cX11_init 65 = .ok (.invokespecial 41, 3) := by decide +kernel
theorem dX11_init_68 : decode cX11_init 68 = .ok (.putfield 42, 3) := by decide +kernel
theorem dX11_init_71 : decode cX11_init 71 = .ok (.aload_n 0, 1) := by decide +kernel
theorem dX11_init_72 : decode cX11_init 72 = .ok (.new 46, 3) := by decide +kernel
theorem dX11_init_75 : decode cX11_init 75 = .ok (.dup, 1) := by decide +kernel
theorem dX11_init_76 : decode cX11_init 76 = .ok (.invokespecial 48, 3) := by decide +kernel
theorem dX11_init_79 : decode cX11_init 79 = .ok (.putfield 49, 3) := by decide +kernel
theorem dX11_init_82 : decode cX11_init 82 = .ok (.aload_n 0, 1) := by decide +kernel
theorem dX11_init_83 : decode cX11_init 83 = .ok (.new 53, 3) := by decide +kernel
theorem dX11_init_86 : decode cX11_init 86 = .ok (.dup, 1) := by decide +kernel
theorem dX11_init_87 : decode cX11_init 87 = .ok (.aload_n 0, 1) := by decide +kernel
theorem dX11_init_88 : decode cX11_init 88 = .ok (.getfield 42, 3) := by decide +kernel
theorem dX11_init_91 : decode cX11_init 91 = .ok (.aload_n 0, 1) := by decide +kernel
theorem dX11_init_92 : decode cX11_init 92 = .ok (.getfield 49, 3) := by decide +kernel
theorem dX11_init_95 : decode cX11_init 95 = .ok (.invokespecial 55, 3) := by decide +kernel
theorem dX11_init_98 : decode cX11_init 98 = .ok (.putfield 58, 3) := by decide +kernel
theorem dX11_init_101 : decode cX11_init 101 = .ok (.aload_n 0, 1) := by decide +kernel
theorem dX11_init_102 : decode cX11_init 102 = .ok (.new 62, 3) := by decide +kernel
theorem dX11_init_105 : decode cX11_init 105 = .ok (.dup, 1) := by decide +kernel
theorem dX11_init_106 : decode cX11_init 106 = .ok (.invokespecial 64, 3) := by decide +kernel
theorem dX11_init_109 : decode cX11_init 109 = .ok (.putfield 65, 3) := by decide +kernel
theorem dX11_init_112 : decode cX11_init 112 = .ok (.aload_n 0, 1) := by decide +kernel
theorem dX11_init_113 : decode cX11_init 113 = .ok (.new 62, 3) := by decide +kernel
theorem dX11_init_116 : decode cX11_init 116 = .ok (.dup, 1) := by decide +kernel
theorem dX11_init_117 : decode cX11_init 117 = .ok (.invokespecial 64, 3) := by decide +kernel
theorem dX11_init_120 : decode cX11_init 120 = .ok (.putfield 69, 3) := by decide +kernel
theorem dX11_init_123 : decode cX11_init 123 = .ok (.aload_n 0, 1) := by decide +kernel
theorem dX11_init_124 : decode cX11_init 124 = .ok (.new 72, 3) := by decide +kernel
theorem dX11_init_127 : decode cX11_init 127 = .ok (.dup, 1) := by decide +kernel
theorem dX11_init_128 : decode cX11_init 128 = .ok (.invokespecial 74, 3) := by decide +kernel
theorem dX11_init_131 : decode cX11_init 131 = .ok (.putfield 75, 3) := by decide +kernel
theorem dX11_init_134 : decode cX11_init 134 = .ok (.aload_n 0, 1) := by decide +kernel
theorem dX11_init_135 : decode cX11_init 135 = .ok (.new 79, 3) := by decide +kernel
theorem dX11_init_138 : decode cX11_init 138 = .ok (.dup, 1) := by decide +kernel
theorem dX11_init_139 : decode cX11_init 139 = .ok (.aload_n 0, 1) := by decide +kernel
theorem dX11_init_140 : decode cX11_init 140 = .ok (.getfield 58, 3) := by decide +kernel
theorem dX11_init_143 : decode cX11_init 143 = .ok (.aload_n 0, 1) := by decide +kernel
theorem dX11_init_144 : decode cX11_init 144 = .ok (.getfield 65, 3) := by decide +kernel
theorem dX11_init_147 : decode cX11_init 147 = .ok (.invokespecial 81, 3) := by decide +kernel
theorem dX11_init_150 : decode cX11_init 150 = .ok (.putfield 84, 3) := by decide +kernel
theorem dX11_init_153 : decode cX11_init 153 = .ok (.aload_n 0, 1) := by decide +kernel
theorem dX11_init_154 : decode cX11_init 154 = .ok (.new 88, 3) := by decide +kernel
theorem dX11_init_157 : decode cX11_init 157 = .ok (.dup, 1) := by decide +kernel
theorem dX11_init_158 : decode cX11_init 158 = .ok (.aload_n 0, 1) := by decide +kernel
theorem dX11_init_159 : decode cX11_init 159 = .ok (.getfield 58, 3) := by decide +kernel
theorem dX11_init_162 : decode cX11_init 162 = .ok (.aload_n 0, 1) := by decide +kernel
theorem dX11_init_163 : decode cX11_init 163 = .ok (.getfield 65, 3) := by decide +kernel
theorem dX11_init_166 : decode cX11_init 166 = .ok (.invokespecial 90, 3) := by decide +kernel
theorem dX11_init_169 : decode cX11_init 169 = .ok (.putfield 91, 3) := by decide +kernel
theorem dX11_init_172 : decode cX11_init 172 = .ok (.return_, 1) := by decide +kernel
set_option maxRecDepth 100000 in
set_option maxHeartbeats 4000000 in
theorem c_X11 {X : WX} {M : Mm} : SatC X yX11_init cX11_init 1 3 250 6082 [.ref (xa X 0)] 1 M 251 (i_X11 M) := by
  refine SatC.mk (own := RX11) rfl rfl (by decide +kernel) (Nat.le_of_ble_eq_true rfl) (fun G hc1 hc2 => ?_)
  refine VC.sub (lv2 := [(0, _)]) [0] rfl ?_
  refine VC.aload_n 0 dX11_init_0 rfl rfl ?_
  refine VC.objInit mo_X11 (by decide) (Nat.le_of_ble_eq_true rfl) dX11_init_1 ?_
  refine VC.aload_n 0 dX11_init_4 rfl rfl ?_
  refine VC.new cok_X7 cl_X11_7 in_X7 ini_X7 kk_X7 sh_1 (by decide) (by rw [hc1, hc2]; exact ⟨by decide, by decide⟩) dX11_init_5 ?_
  refine VC.to (c2 := 2) (cells2 := 1) (slots2 := 3) rfl rfl rfl rfl ?_
  refine VC.dup dX11_init_8 rfl ?_
  refine VC.callIN mi_X7_init ml_X11_9 (c_X7) (by decide) rfl rfl (Nat.le_of_ble_eq_true rfl) (by rw [hc1, hc2]; exact ⟨by decide, by decide⟩) dX11_init_9 ?_
  refine VC.to (c2 := 3) (cells2 := 2) (slots2 := 243) rfl rfl rfl rfl ?_
  refine VC.putR (v := 1) fl_X11_10 rfl rfl (tyX11_ok 0 (by decide)) rfl rfl sh_0 (by omega) rfl (by decide) (by decide) dX11_init_12 ?_
  refine VC.aload_n 0 dX11_init_15 rfl rfl ?_
  refine VC.new cok_X2 cl_X11_16 in_X2 ini_X2 kk_X2 sh_3 (by decide) (by rw [hc1, hc2]; exact ⟨by decide, by decide⟩) dX11_init_16 ?_
  refine VC.to (c2 := 4) (cells2 := 3) (slots2 := 245) rfl rfl rfl rfl ?_
  refine VC.dup dX11_init_19 rfl ?_
  refine VC.aload_n 0 dX11_init_20 rfl rfl ?_
  refine VC.getR (v := 1) fl_X11_10 sh_0 (by decide) rfl (by decide) rfl (by decide) dX11_init_21 ?_
  refine VC.callI mi_X2_init ml_X11_18 (c_X2) (by decide) rfl rfl (Nat.le_of_ble_eq_true rfl) (by rw [hc1, hc2]; exact ⟨by decide, by decide⟩) dX11_init_24 ?_
  refine VC.to (c2 := 7) (cells2 := 6) (slots2 := 289) rfl rfl rfl rfl ?_
  refine VC.putR (v := 3) fl_X11_21 rfl rfl (tyX11_ok 1 (by decide)) rfl rfl sh_0 (by omega) rfl (by decide) (by decide) dX11_init_27 ?_
  refine VC.aload_n 0 dX11_init_30 rfl rfl ?_
  refine VC.new cok_X3 cl_X11_25 in_X3 ini_X3 kk_X3 sh_7 (by decide) (by rw [hc1, hc2]; exact ⟨by decide, by decide⟩) dX11_init_31 ?_
  refine VC.to (c2 := 8) (cells2 := 7) (slots2 := 292) rfl rfl rfl rfl ?_
  refine VC.dup dX11_init_34 rfl ?_
  refine VC.aload_n 0 dX11_init_35 rfl rfl ?_
  refine VC.getR (v := 1) fl_X11_10 sh_0 (by decide) rfl (by decide) rfl (by decide) dX11_init_36 ?_
  refine VC.callI mi_X3_init ml_X11_27 (c_X3) (by decide) rfl rfl (Nat.le_of_ble_eq_true rfl) (by rw [hc1, hc2]; exact ⟨by decide, by decide⟩) dX11_init_39 ?_
  refine VC.to (c2 := 9) (cells2 := 8) (slots2 := 532) rfl rfl rfl rfl ?_
  refine VC.putR (v := 7) fl_X11_28 rfl rfl (tyX11_ok 2 (by decide)) rfl rfl sh_0 (by omega) rfl (by decide) (by decide) dX11_init_42 ?_
  refine VC.aload_n 0 dX11_init_45 rfl rfl ?_
  refine VC.new cok_X10 cl_X11_32 in_X10 ini_X10 kk_X10 sh_9 (by decide) (by rw [hc1, hc2]; exact ⟨by decide, by decide⟩) dX11_init_46 ?_
  refine VC.to (c2 := 10) (cells2 := 9) (slots2 := 538) rfl rfl rfl rfl ?_
  refine VC.dup dX11_init_49 rfl ?_
  refine VC.aload_n 0 dX11_init_50 rfl rfl ?_
  refine VC.getR (v := 1) fl_X11_10 sh_0 (by decide) rfl (by decide) rfl (by decide) dX11_init_51 ?_
  refine VC.callI mi_X10_init ml_X11_34 (c_X10) (by decide) rfl rfl (Nat.le_of_ble_eq_true rfl) (by rw [hc1, hc2]; exact ⟨by decide, by decide⟩) dX11_init_54 ?_
  refine VC.to (c2 := 13) (cells2 := 12) (slots2 := 622) rfl rfl rfl rfl ?_
  refine VC.putR (v := 9) fl_X11_35 rfl rfl (tyX11_ok 3 (by decide)) rfl rfl sh_0 (by omega) rfl (by decide) (by decide) dX11_init_57 ?_
  refine VC.aload_n 0 dX11_init_60 rfl rfl ?_
  refine VC.new cok_X1 cl_X11_39 in_X1 ini_X1 kk_X1 sh_13 (by decide) (by rw [hc1, hc2]; exact ⟨by decide, by decide⟩) dX11_init_61 ?_
  refine VC.to (c2 := 14) (cells2 := 13) (slots2 := 624) rfl rfl rfl rfl ?_
  refine VC.dup dX11_init_64 rfl ?_
  refine VC.callIN mi_X1_init ml_X11_41 (c_X1 (Or.inr rfl)) (by decide) rfl rfl (Nat.le_of_ble_eq_true rfl) (by rw [hc1, hc2]; exact ⟨by decide, by decide⟩) dX11_init_65 ?_
  refine VC.to (c2 := 16) (cells2 := 15) (slots2 := 666) rfl rfl rfl rfl ?_
  refine VC.putR (v := 13) fl_X11_42 rfl rfl (tyX11_ok 4 (by decide)) rfl rfl sh_0 (by omega) rfl (by decide) (by decide) dX11_init_68 ?_
  refine VC.aload_n 0 dX11_init_71 rfl rfl ?_
  refine VC.new cok_X4 cl_X11_46 in_X4 ini_X4 kk_X4 sh_16 (by decide) (by rw [hc1, hc2]; exact ⟨by decide, by decide⟩) dX11_init_72 ?_
  refine VC.to (c2 := 17) (cells2 := 16) (slots2 := 674) rfl rfl rfl rfl ?_
  refine VC.dup dX11_init_75 rfl ?_
  refine VC.callIN mi_X4_init ml_X11_48 (c_X4) (by decide) rfl rfl (Nat.le_of_ble_eq_true rfl) (by rw [hc1, hc2]; exact ⟨by decide, by decide⟩) dX11_init_76 ?_
  refine VC.to (c2 := 26) (cells2 := 25) (slots2 := 3760) rfl rfl rfl rfl ?_
  refine VC.putR (v := 16) fl_X11_49 rfl rfl (tyX11_ok 5 (by decide)) rfl rfl sh_0 (by omega) rfl (by decide) (by decide) dX11_init_79 ?_
  refine VC.aload_n 0 dX11_init_82 rfl rfl ?_
  refine VC.new cok_X9 cl_X11_53 in_X9 ini_X9 kk_X9 sh_26 (by decide) (by rw [hc1, hc2]; exact ⟨by decide, by decide⟩) dX11_init_83 ?_
  refine VC.to (c2 := 27) (cells2 := 26) (slots2 := 3762) rfl rfl rfl rfl ?_
  refine VC.dup dX11_init_86 rfl ?_
  refine VC.aload_n 0 dX11_init_87 rfl rfl ?_
  refine VC.getR (v := 13) fl_X11_42 sh_0 (by decide) rfl (by decide) rfl (by decide) dX11_init_88 ?_
  refine VC.aload_n 0 dX11_init_91 rfl rfl ?_
  refine VC.getR (v := 16) fl_X11_49 sh_0 (by decide) rfl (by decide) rfl (by decide) dX11_init_92 ?_
  refine VC.callI mi_X9_init ml_X11_55 (c_X9) (by decide) rfl rfl (Nat.le_of_ble_eq_true rfl) (by rw [hc1, hc2]; exact ⟨by decide, by decide⟩) dX11_init_95 ?_
  refine VC.to (c2 := 27) (cells2 := 26) (slots2 := 3762) rfl rfl rfl rfl ?_
  refine VC.putR (v := 26) fl_X11_58 rfl rfl (tyX11_ok 6 (by decide)) rfl rfl sh_0 (by omega) rfl (by decide) (by decide) dX11_init_98 ?_
  refine VC.aload_n 0 dX11_init_101 rfl rfl ?_
  refine VC.new cok_X0 cl_X11_62 in_X0 ini_X0 kk_X0 sh_27 (by decide) (by rw [hc1, hc2]; exact ⟨by decide, by decide⟩) dX11_init_102 ?_
  refine VC.to (c2 := 28) (cells2 := 27) (slots2 := 3775) rfl rfl rfl rfl ?_
  refine VC.dup dX11_init_105 rfl ?_
  refine VC.callIN mi_X0_init ml_X11_64 (c_X0 isb_27) (by decide) rfl rfl (Nat.le_of_ble_eq_true rfl) (by rw [hc1, hc2]; exact ⟨by decide, by decide⟩) dX11_init_106 ?_
  refine VC.to (c2 := 32) (cells2 := 31) (slots2 := 3797) rfl rfl rfl rfl ?_
  refine VC.putR (v := 27) fl_X11_65 rfl rfl (tyX11_ok 7 (by decide)) rfl rfl sh_0 (by omega) rfl (by decide) (by decide) dX11_init_109 ?_
  refine VC.aload_n 0 dX11_init_112 rfl rfl ?_
  refine VC.new cok_X0 cl_X11_62 in_X0 ini_X0 kk_X0 sh_32 (by decide) (by rw [hc1, hc2]; exact ⟨by decide, by decide⟩) dX11_init_113 ?_
  refine VC.to (c2 := 33) (cells2 := 32) (slots2 := 3810) rfl rfl rfl rfl ?_
  refine VC.dup dX11_init_116 rfl ?_
  refine VC.callIN mi_X0_init ml_X11_64 (c_X0 isb_32) (by decide) rfl rfl (Nat.le_of_ble_eq_true rfl) (by rw [hc1, hc2]; exact ⟨by decide, by decide⟩) dX11_init_117 ?_
  refine VC.to (c2 := 37) (cells2 := 36) (slots2 := 3832) rfl rfl rfl rfl ?_
  refine VC.putR (v := 32) fl_X11_69 rfl rfl (tyX11_ok 8 (by decide)) rfl rfl sh_0 (by omega) rfl (by decide) (by decide) dX11_init_120 ?_
  refine VC.aload_n 0 dX11_init_123 rfl rfl ?_
  refine VC.new cok_X5 cl_X11_72 in_X5 ini_X5 kk_X5 sh_37 (by decide) (by rw [hc1, hc2]; exact ⟨by decide, by decide⟩) dX11_init_124 ?_
  refine VC.to (c2 := 38) (cells2 := 37) (slots2 := 3839) rfl rfl rfl rfl ?_
  refine VC.dup dX11_init_127 rfl ?_
  refine VC.callI mi_X5_init ml_X11_74 (c_X5) (by decide) rfl rfl (Nat.le_of_ble_eq_true rfl) (by rw [hc1, hc2]; exact ⟨by decide, by decide⟩) dX11_init_128 ?_
  refine VC.to (c2 := 246) (cells2 := 245) (slots2 := 5914) rfl rfl rfl rfl ?_
  refine VC.putR (v := 37) fl_X11_75 rfl rfl (tyX11_ok 9 (by decide)) rfl rfl sh_0 (by omega) rfl (by decide) (by decide) dX11_init_131 ?_
  refine VC.aload_n 0 dX11_init_134 rfl rfl ?_
  refine VC.new cok_X6 cl_X11_79 in_X6 ini_X6 kk_X6 sh_246 (by decide) (by rw [hc1, hc2]; exact ⟨by decide, by decide⟩) dX11_init_135 ?_
  refine VC.to (c2 := 247) (cells2 := 246) (slots2 := 5923) rfl rfl rfl rfl ?_
  refine VC.dup dX11_init_138 rfl ?_
  refine VC.aload_n 0 dX11_init_139 rfl rfl ?_
  refine VC.getR (v := 26) fl_X11_58 sh_0 (by decide) rfl (by decide) rfl (by decide) dX11_init_140 ?_
  refine VC.aload_n 0 dX11_init_143 rfl rfl ?_
  refine VC.getR (v := 27) fl_X11_65 sh_0 (by decide) rfl (by decide) rfl (by decide) dX11_init_144 ?_
  refine VC.callI mi_X6_init ml_X11_81 (c_X6 rfl rfl) (by decide) rfl rfl (Nat.le_of_ble_eq_true rfl) (by rw [hc1, hc2]; exact ⟨by decide, by decide⟩) dX11_init_147 ?_
  refine VC.to (c2 := 249) (cells2 := 248) (slots2 := 6027) rfl rfl rfl rfl ?_
  refine VC.putR (v := 246) fl_X11_84 rfl rfl (tyX11_ok 10 (by decide)) rfl rfl sh_0 (by omega) rfl (by decide) (by decide) dX11_init_150 ?_
  refine VC.aload_n 0 dX11_init_153 rfl rfl ?_
  refine VC.new cok_X8 cl_X11_88 in_X8 ini_X8 kk_X8 sh_249 (by decide) (by rw [hc1, hc2]; exact ⟨by decide, by decide⟩) dX11_init_154 ?_
  refine VC.to (c2 := 250) (cells2 := 249) (slots2 := 6032) rfl rfl rfl rfl ?_
  refine VC.dup dX11_init_157 rfl ?_
  refine VC.aload_n 0 dX11_init_158 rfl rfl ?_
  refine VC.getR (v := 26) fl_X11_58 sh_0 (by decide) rfl (by decide) rfl (by decide) dX11_init_159 ?_
  refine VC.aload_n 0 dX11_init_162 rfl rfl ?_
  refine VC.getR (v := 27) fl_X11_65 sh_0 (by decide) rfl (by decide) rfl (by decide) dX11_init_163 ?_
  refine VC.callI mi_X8_init ml_X11_90 (c_X8 rfl rfl) (by decide) rfl rfl (Nat.le_of_ble_eq_true rfl) (by rw [hc1, hc2]; exact ⟨by decide, by decide⟩) dX11_init_166 ?_
  refine VC.to (c2 := 251) (cells2 := 250) (slots2 := 6082) rfl rfl rfl rfl ?_
  refine VC.putR (v := 249) fl_X11_91 rfl rfl (tyX11_ok 11 (by decide)) rfl rfl sh_0 (by omega) rfl (by decide) (by decide) dX11_init_169 ?_
  exact VC.vret dX11_init_172
def i_X12 (M : Mm) : Mm := (wI (wI (wI (wI (wI (wI (wI (wI (wI (wI (wI (wI (wI (wI (wI (wI (wI (wI (wI (wI (wI (wI (wI (wI (wI M 251 1 (Int32.ofNat (252 + 1))) 251 2 (Int32.ofNat (253 + 1))) 251 3 (Int32.ofNat (254 + 1))) 251 4 (Int32.ofNat (255 + 1))) 251 5 (Int32.ofNat (252 + 1))) 251 15 (Int32.ofNat (1031 + 1))) 251 16 (Int32.ofNat (1032 + 1))) 251 18 (Int32.ofNat (256 + 1))) 251 19 (Int32.ofNat (257 + 1))) 251 20 (Int32.ofNat (258 + 1))) 251 21 (Int32.ofNat (259 + 1))) 251 22 (Int32.ofNat (260 + 1))) 251 23 (Int32.ofNat (261 + 1))) 251 24 (Int32.ofNat (262 + 1))) 251 25 (Int32.ofNat (263 + 1))) 251 32 (Int32.ofNat (264 + 1))) 251 33 (Int32.ofNat (265 + 1))) 251 34 (-1)) 251 36 (Int32.ofNat (266 + 1))) 251 37 (Int32.ofNat (267 + 1))) 251 38 (Int32.ofNat (268 + 1))) 251 43 (Int32.ofNat (269 + 1))) 251 46 (Int32.ofNat (270 + 1))) 251 48 (Int32.ofNat (271 + 1))) 251 49 (Int32.ofNat (272 + 1)))
theorem dX12_init_0 : decode cX12_init 0 = .ok (.aload_n 0, 1) := by decide +kernel
theorem dX12_init_1 : decode cX12_init 1 = .ok (.invokespecial 3, 3) := by decide +kernel
theorem dX12_init_4 : decode cX12_init 4 = .ok (.aload_n 0, 1) := by decide +kernel
theorem dX12_init_5 : decode cX12_init 5 = .ok (.sipush 240, 3) := by decide +kernel
theorem dX12_init_8 : decode cX12_init 8 = .ok (.newarray .byte, 2) := by decide +kernel
theorem dX12_init_10 : decode cX12_init 10 = .ok (.putfield 9, 3) := by decide +kernel
theorem dX12_init_13 : decode cX12_init 13 = .ok (.aload_n 0, 1) := by decide +kernel
theorem dX12_init_14 : decode cX12_init 14 = .ok (.sipush 960, 3) := by decide +kernel
theorem dX12_init_17 : decode cX12_init 17 = .ok (.newarray .byte, 2) := by decide +kernel
theorem dX12_init_19 : decode cX12_init 19 = .ok (.putfield 13, 3) := by decide +kernel
theorem dX12_init_22 : decode cX12_init 22 = .ok (.aload_n 0, 1) := by decide +kernel
theorem dX12_init_23 : decode cX12_init 23 = .ok (.iconst 4, 1) := by decide +kernel
theorem dX12_init_24 : decode cX12_init 24 = .ok (.newarray .int, 2) := by decide +kernel
theorem dX12_init_26 : decode cX12_init 26 = .ok (.putfield 16, 3) := by decide +kernel
theorem dX12_init_29 : decode cX12_init 29 = .ok (.aload_n 0, 1) := by decide +kernel
theorem dX12_init_30 : decode cX12_init 30 = .ok (.sipush 128, 3) := by decide +kernel
theorem dX12_init_33 : decode cX12_init 33 = .ok (.newarray .int, 2) := by decide +kernel
theorem dX12_init_35 : decode cX12_init 35 = .ok (.putfield 20, 3) := by decide +kernel
theorem dX12_init_38 : decode cX12_init 38 = .ok (.aload_n 0, 1) := by decide +kernel
theorem dX12_init_39 : decode cX12_init 39 = .ok (.aload_n 0, 1) := by decide +kernel
theorem dX12_init_40 : decode cX12_init 40 = .ok (.getfield 9, 3) := by decide +kernel
theorem dX12_init_43 : decode cX12_init 43 = .ok (.putfield 23, 3) := by decide +kernel
theorem dX12_init_46 : decode cX12_init 46 = .ok (.aload_n 0, 1) := by decide +kernel
theorem dX12_init_47 : decode cX12_init 47 = .ok (.ldc 26, 2) := by decide +kernel
theorem dX12_init_49 : decode cX12_init 49 = .ok (.putfield 28, 3) := by decide +kernel
theorem dX12_init_52 : decode cX12_init 52 = .ok (.aload_n 0, 1) := by decide +kernel
theorem dX12_init_53 : decode cX12_init 53 = .ok (.ldc 32, 2) := by decide +kernel
theorem dX12_init_55 : decode cX12_init 55 = .ok (.putfield 34, 3) := by decide +kernel
theorem dX12_init_58 : decode cX12_init 58 = .ok (.aload_n 0, 1) := by decide +kernel
theorem dX12_init_59 : decode cX12_init 59 = .ok (.iconst 3, 1) := by decide +kernel
theorem dX12_init_60 : decode cX12_init 60 = .ok (.newarray .int, 2) := by decide +kernel
theorem dX12_init_62 : decode cX12_init 62 = .ok (.putfield 37, 3) := by decide +kernel
theorem dX12_init_65 : decode cX12_init 65 = .ok (.aload_n 0, 1) := by decide +kernel
theorem dX12_init_66 : decode cX12_init 66 = .ok (.iconst 3, 1) := by decide +kernel
theorem dX12_init_67 : decode cX12_init 67 = .ok (.newarray .int, 2) := by decide +kernel
theorem dX12_init_69 : decode cX12_init 69 = .ok (.putfield 40, 3) := by decide +kernel
theorem dX12_init_72 : decode cX12_init 72 = .ok (.aload_n 0, 1) := by decide +kernel
theorem dX12_init_73 : decode cX12_init 73 = .ok (.bipush 18, 2) := by decide +kernel
theorem dX12_init_75 : decode cX12_init 75 = .ok (.newarray .int, 2) := by decide +kernel
theorem dX12_init_77 : decode cX12_init 77 = .ok (.putfield 43, 3) := by decide +kernel
theorem dX12_init_80 : decode cX12_init 80 = .ok (.aload_n 0, 1) := by decide +kernel
theorem dX12_init_81 : decode cX12_init 81 = .ok (.bipush 18, 2) := by decide +kernel
theorem dX12_init_83 : decode cX12_init 83 = .ok (.newarray .int, 2) := by decide +kernel
theorem dX12_init_85 : decode cX12_init 85 = .ok (.putfield 46, 3) := by decide +kernel
theorem dX12_init_88 : decode cX12_init 88 = .ok (.aload_n 0, 1) := by decide +kernel
theorem dX12_init_89 : decode cX12_init 89 = .ok (.bipush 18, 2) := by decide +kernel
theorem dX12_init_91 : decode cX12_init 91 = .ok (.newarray .int, 2) := by decide +kernel
theorem dX12_init_93 : decode cX12_init 93 = .ok (.putfield 49, 3) := by decide +kernel
theorem dX12_init_96 : decode cX12_init 96 = .ok (.aload_n 0, 1) := by decide +kernel
theorem dX12_init_97 : decode cX12_init 97 = .ok (.bipush 18, 2) := by decide +kernel
theorem dX12_init_99 : decode cX12_init 99 = .ok (.newarray .int, 2) := by decide +kernel
theorem dX12_init_101 : decode cX12_init 101 = .ok (.putfield 52, 3) := by decide +kernel
theorem dX12_init_104 : decode cX12_init 104 = .ok (.aload_n 0, 1) := by decide +kernel
theorem dX12_init_105 : decode cX12_init 105 = .ok (.sipush 240, 3) := by decide +kernel
theorem dX12_init_108 : decode cX12_init 108 = .ok (.newarray .int, 2) := by decide +kernel
theorem dX12_init_110 : decode cX12_init 110 = .ok (.putfield 55, 3) := by decide +kernel
theorem dX12_init_113 : decode cX12_init 113 = .ok (.aload_n 0, 1) := by decide +kernel
theorem dX12_init_114 : decode cX12_init 114 = .ok (.iconst 5, 1) := by decide +kernel
theorem dX12_init_115 : decode cX12_init 115 = .ok (.newarray .int, 2) := by decide +kernel
theorem dX12_init_117 : decode cX12_init 117 = .ok (.putfield 58, 3) := by decide +kernel
theorem dX12_init_120 : decode cX12_init 120 = .ok (.aload_n 0, 1) := by decide +kernel
theorem dX12_init_121 : decode cX12_init 121 = .ok (.sipush 211, 3) := by decide +kernel
theorem dX12_init_124 : decode cX12_init 124 = .ok (.newarray .int, 2) := by decide +kernel
theorem dX12_init_126 : decode cX12_init 126 = .ok (.putfield 61, 3) := by decide +kernel
theorem dX12_init_129 : decode cX12_init 129 = .ok (.aload_n 0, 1) := by decide +kernel
theorem dX12_init_130 : decode cX12_init 130 = .ok (.sipush 211, 3) := by decide +kernel
theorem dX12_init_133 : decode cX12_init 133 = .ok (.newarray .int, 2) := by decide +kernel
theorem dX12_init_135 : decode cX12_init 135 = .ok (.putfield 64, 3) := by decide +kernel
theorem dX12_init_138 : decode cX12_init 138 = .ok (.aload_n 0, 1) := by decide +kernel
theorem dX12_init_139 : decode cX12_init 139 = .ok (.iconst (-1), 1) := by decide +kernel
theorem dX12_init_140 : decode cX12_init 140 = .ok (.putfield 67, 3) := by decide +kernel
theorem dX12_init_143 : decode cX12_init 143 = .ok (.aload_n 0, 1) := by decide +kernel
theorem dX12_init_144 : decode cX12_init 144 = .ok (.sipush 8191, 3) := by decide +kernel
theorem dX12_init_147 : decode cX12_init 147 = .ok (.newarray .long, 2) := by decide +kernel
theorem dX12_init_149 : decode cX12_init 149 = .ok (.putfield 71, 3) := by decide +kernel
theorem dX12_init_152 : decode cX12_init 152 = .ok (.aload_n 0, 1) := by decide +kernel
theorem dX12_init_153 : decode cX12_init 153 = .ok (.sipush 8191, 3) := by decide +kernel
theorem dX12_init_156 : decode cX12_init 156 = .ok (.newarray .int, 2) := by decide +kernel
theorem dX12_init_158 : decode cX12_init 158 = .ok (.putfield 75, 3) := by decide +kernel
theorem dX12_init_161 : decode cX12_init 161 = .ok (.aload_n 0, 1) := by decide +kernel
theorem dX12_init_162 : decode cX12_init 162 = .ok (.sipush 8440, 3) := by decide +kernel
theorem dX12_init_165 : decode cX12_init 165 = .ok (.newarray .int, 2) := by decide +kernel
theorem dX12_init_167 : decode cX12_init 167 = .ok (.putfield 78, 3) := by decide +kernel
theorem dX12_init_170 : decode cX12_init 170 = .ok (.aload_n 0, 1) := by decide +kernel
theorem dX12_init_171 : decode cX12_init 171 = .ok (.sipush 217, 3) := by decide +kernel
theorem dX12_init_174 : decode cX12_init 174 = .ok (.newarray .int, 2) := by decide +kernel
theorem dX12_init_176 : decode cX12_init 176 = .ok (.putfield 81, 3) := by decide +kernel
theorem dX12_init_179 : decode cX12_init 179 = .ok (.aload_n 0, 1) := by decide +kernel
theorem dX12_init_180 : decode cX12_init 180 = .ok (.bipush 50, 2) := by decide +kernel
theorem dX12_init_182 : decode cX12_init 182 = .ok (.newarray .int, 2) := by decide +kernel
theorem dX12_init_184 : decode cX12_init 184 = .ok (.putfield 84, 3) := by decide +kernel
theorem dX12_init_187 : decode cX12_init 187 = .ok (.aload_n 0, 1) := by decide +kernel
theorem dX12_init_188 : decode cX12_init 188 = .ok (.sipush 200, 3) := by decide +kernel
theorem dX12_init_191 : decode cX12_init 191 = .ok (.newarray .int, 2) := by decide +kernel
theorem dX12_init_193 : decode cX12_init 193 = .ok (.putfield 87, 3) := by decide +kernel
theorem dX12_init_196 : decode cX12_init 196 = .ok (.aload_n 0, 1) := by decide +kernel
theorem dX12_init_197 : decode cX12_init 197 = .ok (.sipush 211, 3) := by decide +kernel
theorem dX12_init_200 : decode cX12_init 200 = .ok (.newarray .int, 2) := by decide +kernel
theorem dX12_init_202 : decode cX12_init 202 = .ok (.putfield 90, 3) := by decide +kernel
theorem dX12_init_205 : decode cX12_init 205 = .ok (.return_, 1) := by decide +kernel
set_option maxRecDepth 100000 in
set_option maxHeartbeats 4000000 in
theorem c_X12 {X : WX} {M : Mm} : SatC X yX12_init cX12_init 1 1 21 27577 [.ref (xa X 251)] 252 M 273 (i_X12 M) := by
  refine SatC.mk (own := RX12) rfl rfl (by decide +kernel) (Nat.le_of_ble_eq_true rfl) (fun G hc1 hc2 => ?_)
  refine VC.sub (lv2 := [(0, _)]) [0] rfl ?_
  refine VC.aload_n 0 dX12_init_0 rfl rfl ?_
  refine VC.objInit mo_X12 (by decide) (Nat.le_of_ble_eq_true rfl) dX12_init_1 ?_
  refine VC.aload_n 0 dX12_init_4 rfl rfl ?_
  refine VC.sipush (v := 240) dX12_init_5 (by decide) ?_
  refine VC.newa (t := 2) (n := 240) (atype := .byte) (ty := .byte) rfl (Or.inr (Or.inr (Or.inl ⟨rfl, rfl⟩))) ac_byte sh_252 (by decide) (by decide) rfl (by decide) (by rw [hc1, hc2]; exact ⟨by decide, by decide⟩) dX12_init_8 ?_
  refine VC.to (c2 := 253) (cells2 := 1) (slots2 := 240) rfl rfl rfl rfl ?_
  refine VC.putR (v := 252) fl_X12_9 rfl rfl (tyX12_ok 1 (by decide)) rfl rfl sh_251 (by omega) rfl (by decide) (by decide) dX12_init_10 ?_
  refine VC.aload_n 0 dX12_init_13 rfl rfl ?_
  refine VC.sipush (v := 960) dX12_init_14 (by decide) ?_
  refine VC.newa (t := 2) (n := 960) (atype := .byte) (ty := .byte) rfl (Or.inr (Or.inr (Or.inl ⟨rfl, rfl⟩))) ac_byte sh_253 (by decide) (by decide) rfl (by decide) (by rw [hc1, hc2]; exact ⟨by decide, by decide⟩) dX12_init_17 ?_
  refine VC.to (c2 := 254) (cells2 := 2) (slots2 := 1200) rfl rfl rfl rfl ?_
  refine VC.putR (v := 253) fl_X12_13 rfl rfl (tyX12_ok 2 (by decide)) rfl rfl sh_251 (by omega) rfl (by decide) (by decide) dX12_init_19 ?_
  refine VC.aload_n 0 dX12_init_22 rfl rfl ?_
  refine VC.iconst (v := 4) dX12_init_23 rfl ?_
  refine VC.newa (t := 0) (n := 4) (atype := .int) (ty := .int) rfl (Or.inl ⟨rfl, rfl⟩) ac_int sh_254 (by decide) (by decide) rfl (by decide) (by rw [hc1, hc2]; exact ⟨by decide, by decide⟩) dX12_init_24 ?_
  refine VC.to (c2 := 255) (cells2 := 3) (slots2 := 1204) rfl rfl rfl rfl ?_
  refine VC.putR (v := 254) fl_X12_16 rfl rfl (tyX12_ok 3 (by decide)) rfl rfl sh_251 (by omega) rfl (by decide) (by decide) dX12_init_26 ?_
  refine VC.aload_n 0 dX12_init_29 rfl rfl ?_
  refine VC.sipush (v := 128) dX12_init_30 (by decide) ?_
  refine VC.newa (t := 0) (n := 128) (atype := .int) (ty := .int) rfl (Or.inl ⟨rfl, rfl⟩) ac_int sh_255 (by decide) (by decide) rfl (by decide) (by rw [hc1, hc2]; exact ⟨by decide, by decide⟩) dX12_init_33 ?_
  refine VC.to (c2 := 256) (cells2 := 4) (slots2 := 1332) rfl rfl rfl rfl ?_
  refine VC.putR (v := 255) fl_X12_20 rfl rfl (tyX12_ok 4 (by decide)) rfl rfl sh_251 (by omega) rfl (by decide) (by decide) dX12_init_35 ?_
  refine VC.aload_n 0 dX12_init_38 rfl rfl ?_
  refine VC.aload_n 0 dX12_init_39 rfl rfl ?_
  refine VC.getR (v := 252) fl_X12_9 sh_251 (by decide) rfl (by decide) rfl (by decide) dX12_init_40 ?_
  refine VC.putR (v := 252) fl_X12_23 rfl rfl (tyX12_ok 5 (by decide)) rfl rfl sh_251 (by omega) rfl (by decide) (by decide) dX12_init_43 ?_
  refine VC.aload_n 0 dX12_init_46 rfl rfl ?_
  refine VC.ldcS sc_1031 rfl rfl dX12_init_47 ?_
  refine VC.putR (v := 1031) fl_X12_28 rfl rfl (tyX12_ok 15 (by decide)) rfl rfl sh_251 (by omega) rfl (by decide) (by decide) dX12_init_49 ?_
  refine VC.aload_n 0 dX12_init_52 rfl rfl ?_
  refine VC.ldcS sc_1032 rfl rfl dX12_init_53 ?_
  refine VC.putR (v := 1032) fl_X12_34 rfl rfl (tyX12_ok 16 (by decide)) rfl rfl sh_251 (by omega) rfl (by decide) (by decide) dX12_init_55 ?_
  refine VC.aload_n 0 dX12_init_58 rfl rfl ?_
  refine VC.iconst (v := 3) dX12_init_59 rfl ?_
  refine VC.newa (t := 0) (n := 3) (atype := .int) (ty := .int) rfl (Or.inl ⟨rfl, rfl⟩) ac_int sh_256 (by decide) (by decide) rfl (by decide) (by rw [hc1, hc2]; exact ⟨by decide, by decide⟩) dX12_init_60 ?_
  refine VC.to (c2 := 257) (cells2 := 5) (slots2 := 1335) rfl rfl rfl rfl ?_
  refine VC.putR (v := 256) fl_X12_37 rfl rfl (tyX12_ok 18 (by decide)) rfl rfl sh_251 (by omega) rfl (by decide) (by decide) dX12_init_62 ?_
  refine VC.aload_n 0 dX12_init_65 rfl rfl ?_
  refine VC.iconst (v := 3) dX12_init_66 rfl ?_
  refine VC.newa (t := 0) (n := 3) (atype := .int) (ty := .int) rfl (Or.inl ⟨rfl, rfl⟩) ac_int sh_257 (by decide) (by decide) rfl (by decide) (by rw [hc1, hc2]; exact ⟨by decide, by decide⟩) dX12_init_67 ?_
  refine VC.to (c2 := 258) (cells2 := 6) (slots2 := 1338) rfl rfl rfl rfl ?_
  refine VC.putR (v := 257) fl_X12_40 rfl rfl (tyX12_ok 19 (by decide)) rfl rfl sh_251 (by omega) rfl (by decide) (by decide) dX12_init_69 ?_
  refine VC.aload_n 0 dX12_init_72 rfl rfl ?_
  refine VC.bipush (v := 18) dX12_init_73 (by decide) ?_
  refine VC.newa (t := 0) (n := 18) (atype := .int) (ty := .int) rfl (Or.inl ⟨rfl, rfl⟩) ac_int sh_258 (by decide) (by decide) rfl (by decide) (by rw [hc1, hc2]; exact ⟨by decide, by decide⟩) dX12_init_75 ?_
  refine VC.to (c2 := 259) (cells2 := 7) (slots2 := 1356) rfl rfl rfl rfl ?_
  refine VC.putR (v := 258) fl_X12_43 rfl rfl (tyX12_ok 20 (by decide)) rfl rfl sh_251 (by omega) rfl (by decide) (by decide) dX12_init_77 ?_
  refine VC.aload_n 0 dX12_init_80 rfl rfl ?_
  refine VC.bipush (v := 18) dX12_init_81 (by decide) ?_
  refine VC.newa (t := 0) (n := 18) (atype := .int) (ty := .int) rfl (Or.inl ⟨rfl, rfl⟩) ac_int sh_259 (by decide) (by decide) rfl (by decide) (by rw [hc1, hc2]; exact ⟨by decide, by decide⟩) dX12_init_83 ?_
  refine VC.to (c2 := 260) (cells2 := 8) (slots2 := 1374) rfl rfl rfl rfl ?_
  refine VC.putR (v := 259) fl_X12_46 rfl rfl (tyX12_ok 21 (by decide)) rfl rfl sh_251 (by omega) rfl (by decide) (by decide) dX12_init_85 ?_
  refine VC.aload_n 0 dX12_init_88 rfl rfl ?_
  refine VC.bipush (v := 18) dX12_init_89 (by decide) ?_
  refine VC.newa (t := 0) (n := 18) (atype := .int) (ty := .int) rfl (Or.inl ⟨rfl, rfl⟩) ac_int sh_260 (by decide) (by decide) rfl (by decide) (by rw [hc1, hc2]; exact ⟨by decide, by decide⟩) dX12_init_91 ?_
  refine VC.to (c2 := 261) (cells2 := 9) (slots2 := 1392) rfl rfl rfl rfl ?_
  refine VC.putR (v := 260) fl_X12_49 rfl rfl (tyX12_ok 22 (by decide)) rfl rfl sh_251 (by omega) rfl (by decide) (by decide) dX12_init_93 ?_
  refine VC.aload_n 0 dX12_init_96 rfl rfl ?_
  refine VC.bipush (v := 18) dX12_init_97 (by decide) ?_
  refine VC.newa (t := 0) (n := 18) (atype := .int) (ty := .int) rfl (Or.inl ⟨rfl, rfl⟩) ac_int sh_261 (by decide) (by decide) rfl (by decide) (by rw [hc1, hc2]; exact ⟨by decide, by decide⟩) dX12_init_99 ?_
  refine VC.to (c2 := 262) (cells2 := 10) (slots2 := 1410) rfl rfl rfl rfl ?_
  refine VC.putR (v := 261) fl_X12_52 rfl rfl (tyX12_ok 23 (by decide)) rfl rfl sh_251 (by omega) rfl (by decide) (by decide) dX12_init_101 ?_
  refine VC.aload_n 0 dX12_init_104 rfl rfl ?_
  refine VC.sipush (v := 240) dX12_init_105 (by decide) ?_
  refine VC.newa (t := 0) (n := 240) (atype := .int) (ty := .int) rfl (Or.inl ⟨rfl, rfl⟩) ac_int sh_262 (by decide) (by decide) rfl (by decide) (by rw [hc1, hc2]; exact ⟨by decide, by decide⟩) dX12_init_108 ?_
  refine VC.to (c2 := 263) (cells2 := 11) (slots2 := 1650) rfl rfl rfl rfl ?_
  refine VC.putR (v := 262) fl_X12_55 rfl rfl (tyX12_ok 24 (by decide)) rfl rfl sh_251 (by omega) rfl (by decide) (by decide) dX12_init_110 ?_
  refine VC.aload_n 0 dX12_init_113 rfl rfl ?_
  refine VC.iconst (v := 5) dX12_init_114 rfl ?_
  refine VC.newa (t := 0) (n := 5) (atype := .int) (ty := .int) rfl (Or.inl ⟨rfl, rfl⟩) ac_int sh_263 (by decide) (by decide) rfl (by decide) (by rw [hc1, hc2]; exact ⟨by decide, by decide⟩) dX12_init_115 ?_
  refine VC.to (c2 := 264) (cells2 := 12) (slots2 := 1655) rfl rfl rfl rfl ?_
  refine VC.putR (v := 263) fl_X12_58 rfl rfl (tyX12_ok 25 (by decide)) rfl rfl sh_251 (by omega) rfl (by decide) (by decide) dX12_init_117 ?_
  refine VC.aload_n 0 dX12_init_120 rfl rfl ?_
  refine VC.sipush (v := 211) dX12_init_121 (by decide) ?_
  refine VC.newa (t := 0) (n := 211) (atype := .int) (ty := .int) rfl (Or.inl ⟨rfl, rfl⟩) ac_int sh_264 (by decide) (by decide) rfl (by decide) (by rw [hc1, hc2]; exact ⟨by decide, by decide⟩) dX12_init_124 ?_
  refine VC.to (c2 := 265) (cells2 := 13) (slots2 := 1866) rfl rfl rfl rfl ?_
  refine VC.putR (v := 264) fl_X12_61 rfl rfl (tyX12_ok 32 (by decide)) rfl rfl sh_251 (by omega) rfl (by decide) (by decide) dX12_init_126 ?_
  refine VC.aload_n 0 dX12_init_129 rfl rfl ?_
  refine VC.sipush (v := 211) dX12_init_130 (by decide) ?_
  refine VC.newa (t := 0) (n := 211) (atype := .int) (ty := .int) rfl (Or.inl ⟨rfl, rfl⟩) ac_int sh_265 (by decide) (by decide) rfl (by decide) (by rw [hc1, hc2]; exact ⟨by decide, by decide⟩) dX12_init_133 ?_
  refine VC.to (c2 := 266) (cells2 := 14) (slots2 := 2077) rfl rfl rfl rfl ?_
  refine VC.putR (v := 265) fl_X12_64 rfl rfl (tyX12_ok 33 (by decide)) rfl rfl sh_251 (by omega) rfl (by decide) (by decide) dX12_init_135 ?_
  refine VC.aload_n 0 dX12_init_138 rfl rfl ?_
  refine VC.iconst (v := -1) dX12_init_139 rfl ?_
  refine VC.putI fl_X12_67 rfl (tyX12_ok 34 (by decide)) sh_251 (by decide) rfl dX12_init_140 ?_
  refine VC.aload_n 0 dX12_init_143 rfl rfl ?_
  refine VC.sipush (v := 8191) dX12_init_144 (by decide) ?_
  refine VC.newa (t := 3) (n := 8191) (atype := .long) (ty := .long) rfl (Or.inr (Or.inr (Or.inr ⟨rfl, rfl⟩))) ac_long sh_266 (by decide) (by decide) rfl (by decide) (by rw [hc1, hc2]; exact ⟨by decide, by decide⟩) dX12_init_147 ?_
  refine VC.to (c2 := 267) (cells2 := 15) (slots2 := 10268) rfl rfl rfl rfl ?_
  refine VC.putR (v := 266) fl_X12_71 rfl rfl (tyX12_ok 36 (by decide)) rfl rfl sh_251 (by omega) rfl (by decide) (by decide) dX12_init_149 ?_
  refine VC.aload_n 0 dX12_init_152 rfl rfl ?_
  refine VC.sipush (v := 8191) dX12_init_153 (by decide) ?_
  refine VC.newa (t := 0) (n := 8191) (atype := .int) (ty := .int) rfl (Or.inl ⟨rfl, rfl⟩) ac_int sh_267 (by decide) (by decide) rfl (by decide) (by rw [hc1, hc2]; exact ⟨by decide, by decide⟩) dX12_init_156 ?_
  refine VC.to (c2 := 268) (cells2 := 16) (slots2 := 18459) rfl rfl rfl rfl ?_
  refine VC.putR (v := 267) fl_X12_75 rfl rfl (tyX12_ok 37 (by decide)) rfl rfl sh_251 (by omega) rfl (by decide) (by decide) dX12_init_158 ?_
  refine VC.aload_n 0 dX12_init_161 rfl rfl ?_
  refine VC.sipush (v := 8440) dX12_init_162 (by decide) ?_
  refine VC.newa (t := 0) (n := 8440) (atype := .int) (ty := .int) rfl (Or.inl ⟨rfl, rfl⟩) ac_int sh_268 (by decide) (by decide) rfl (by decide) (by rw [hc1, hc2]; exact ⟨by decide, by decide⟩) dX12_init_165 ?_
  refine VC.to (c2 := 269) (cells2 := 17) (slots2 := 26899) rfl rfl rfl rfl ?_
  refine VC.putR (v := 268) fl_X12_78 rfl rfl (tyX12_ok 38 (by decide)) rfl rfl sh_251 (by omega) rfl (by decide) (by decide) dX12_init_167 ?_
  refine VC.aload_n 0 dX12_init_170 rfl rfl ?_
  refine VC.sipush (v := 217) dX12_init_171 (by decide) ?_
  refine VC.newa (t := 0) (n := 217) (atype := .int) (ty := .int) rfl (Or.inl ⟨rfl, rfl⟩) ac_int sh_269 (by decide) (by decide) rfl (by decide) (by rw [hc1, hc2]; exact ⟨by decide, by decide⟩) dX12_init_174 ?_
  refine VC.to (c2 := 270) (cells2 := 18) (slots2 := 27116) rfl rfl rfl rfl ?_
  refine VC.putR (v := 269) fl_X12_81 rfl rfl (tyX12_ok 43 (by decide)) rfl rfl sh_251 (by omega) rfl (by decide) (by decide) dX12_init_176 ?_
  refine VC.aload_n 0 dX12_init_179 rfl rfl ?_
  refine VC.bipush (v := 50) dX12_init_180 (by decide) ?_
  refine VC.newa (t := 0) (n := 50) (atype := .int) (ty := .int) rfl (Or.inl ⟨rfl, rfl⟩) ac_int sh_270 (by decide) (by decide) rfl (by decide) (by rw [hc1, hc2]; exact ⟨by decide, by decide⟩) dX12_init_182 ?_
  refine VC.to (c2 := 271) (cells2 := 19) (slots2 := 27166) rfl rfl rfl rfl ?_
  refine VC.putR (v := 270) fl_X12_84 rfl rfl (tyX12_ok 46 (by decide)) rfl rfl sh_251 (by omega) rfl (by decide) (by decide) dX12_init_184 ?_
  refine VC.aload_n 0 dX12_init_187 rfl rfl ?_
  refine VC.sipush (v := 200) dX12_init_188 (by decide) ?_
  refine VC.newa (t := 0) (n := 200) (atype := .int) (ty := .int) rfl (Or.inl ⟨rfl, rfl⟩) ac_int sh_271 (by decide) (by decide) rfl (by decide) (by rw [hc1, hc2]; exact ⟨by decide, by decide⟩) dX12_init_191 ?_
  refine VC.to (c2 := 272) (cells2 := 20) (slots2 := 27366) rfl rfl rfl rfl ?_
  refine VC.putR (v := 271) fl_X12_87 rfl rfl (tyX12_ok 48 (by decide)) rfl rfl sh_251 (by omega) rfl (by decide) (by decide) dX12_init_193 ?_
  refine VC.aload_n 0 dX12_init_196 rfl rfl ?_
  refine VC.sipush (v := 211) dX12_init_197 (by decide) ?_
  refine VC.newa (t := 0) (n := 211) (atype := .int) (ty := .int) rfl (Or.inl ⟨rfl, rfl⟩) ac_int sh_272 (by decide) (by decide) rfl (by decide) (by rw [hc1, hc2]; exact ⟨by decide, by decide⟩) dX12_init_200 ?_
  refine VC.to (c2 := 273) (cells2 := 21) (slots2 := 27577) rfl rfl rfl rfl ?_
  refine VC.putR (v := 272) fl_X12_90 rfl rfl (tyX12_ok 49 (by decide)) rfl rfl sh_251 (by omega) rfl (by decide) (by decide) dX12_init_202 ?_
  exact VC.vret dX12_init_205
