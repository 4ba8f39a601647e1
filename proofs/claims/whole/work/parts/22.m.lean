/-! MonsterCotModel.least -/
theorem dX12_least_0 : decode cX12_least 0 = .ok (.aload_n 0, 1) := by decide +kernel
theorem dX12_least_1 : decode cX12_least 1 = .ok (.iconst 0, 1) := by decide +kernel
theorem dX12_least_2 : decode cX12_least 2 = .ok (.putfield 93, 3) := by decide +kernel
theorem dX12_least_5 : decode cX12_least 5 = .ok (.aload_n 0, 1) := by decide +kernel
theorem dX12_least_6 : decode cX12_least 6 = .ok (.getfield 291, 3) := by decide +kernel
theorem dX12_least_9 : decode cX12_least 9 = .ok (.ifCond .eq 13, 3) := by decide +kernel
theorem dX12_least_12 : decode cX12_least 12 = .ok (.iload_n 1, 1) := by decide +kernel
theorem dX12_least_13 : decode cX12_least 13 = .ok (.i2l, 1) := by decide +kernel
theorem dX12_least_14 : decode cX12_least 14 = .ok (.lconst 0, 1) := by decide +kernel
theorem dX12_least_15 : decode cX12_least 15 = .ok (.lconst 1, 1) := by decide +kernel
theorem dX12_least_16 : decode cX12_least 16 = .ok (.invokestatic 214, 3) := by decide +kernel
theorem dX12_least_19 : decode cX12_least 19 = .ok (.ifCond .ne 5, 3) := by decide +kernel
theorem dX12_least_22 : decode cX12_least 22 = .ok (.iconst (-1), 1) := by decide +kernel
theorem dX12_least_23 : decode cX12_least 23 = .ok (.ireturn, 1) := by decide +kernel
theorem dX12_least_24 : decode cX12_least 24 = .ok (.aload_n 0, 1) := by decide +kernel
theorem dX12_least_25 : decode cX12_least 25 = .ok (.getfield 61, 3) := by decide +kernel
theorem dX12_least_28 : decode cX12_least 28 = .ok (.aload_n 0, 1) := by decide +kernel
theorem dX12_least_29 : decode cX12_least 29 = .ok (.getfield 64, 3) := by decide +kernel
theorem dX12_least_32 : decode cX12_least 32 = .ok (.invokestatic 401, 3) := by decide +kernel
theorem dX12_least_35 : decode cX12_least 35 = .ok (.aload_n 0, 1) := by decide +kernel
theorem dX12_least_36 : decode cX12_least 36 = .ok (.iconst (-1), 1) := by decide +kernel
theorem dX12_least_37 : decode cX12_least 37 = .ok (.putfield 412, 3) := by decide +kernel
theorem dX12_least_40 : decode cX12_least 40 = .ok (.aload_n 0, 1) := by decide +kernel
theorem dX12_least_41 : decode cX12_least 41 = .ok (.iconst (-1), 1) := by decide +kernel
theorem dX12_least_42 : decode cX12_least 42 = .ok (.putfield 415, 3) := by decide +kernel
theorem dX12_least_45 : decode cX12_least 45 = .ok (.aload_n 0, 1) := by decide +kernel
theorem dX12_least_46 : decode cX12_least 46 = .ok (.iconst 3, 1) := by decide +kernel
theorem dX12_least_47 : decode cX12_least 47 = .ok (.iconst 0, 1) := by decide +kernel
theorem dX12_least_48 : decode cX12_least 48 = .ok (.iconst 0, 1) := by decide +kernel
theorem dX12_least_49 : decode cX12_least 49 = .ok (.invokevirtual 418, 3) := by decide +kernel
theorem dX12_least_52 : decode cX12_least 52 = .ok (.iload_n 1, 1) := by decide +kernel
theorem dX12_least_53 : decode cX12_least 53 = .ok (.ifCond .ne 10, 3) := by decide +kernel
theorem dX12_least_56 : decode cX12_least 56 = .ok (.aload_n 0, 1) := by decide +kernel
theorem dX12_least_57 : decode cX12_least 57 = .ok (.getfield 412, 3) := by decide +kernel
theorem dX12_least_60 : decode cX12_least 60 = .ok (.goto 7, 3) := by decide +kernel
theorem dX12_least_63 : decode cX12_least 63 = .ok (.aload_n 0, 1) := by decide +kernel
theorem dX12_least_64 : decode cX12_least 64 = .ok (.getfield 415, 3) := by decide +kernel
theorem dX12_least_67 : decode cX12_least 67 = .ok (.ireturn, 1) := by decide +kernel
def X12_least (n : Nat) (x1 : Int32) (h : Mm) : Option (Int32 × Mm) := (if ((wI h 251 0 (0 : Int32)).1 251 27) = 0 then (some ((-1 : Int32), (wI h 251 0 (0 : Int32)))) else (bp (X12_isIn x1.toInt64 (0 : Int64) (1 : Int64) (wI h 251 0 (0 : Int32))) (fun r9 => (if r9 = true then (bd (X12_copy n 264 265 (wI h 251 0 (0 : Int32))) (fun _ h13 => (bd (X12_goLeast n 9 (3 : Int32) (0 : Int32) (0 : Int32) (wI (wI h13 251 41 (-1 : Int32)) 251 42 (-1 : Int32))) (fun _ h16 => (if x1 = 0 then (some ((h16.1 251 41), h16)) else (some ((h16.1 251 42), h16))))))) else (some ((-1 : Int32), (wI h 251 0 (0 : Int32))))))))
set_option maxRecDepth 100000 in
set_option maxHeartbeats 4000000 in
theorem s_X12_least {X : WX} {o : Mm} {n : Nat} {x1 : Int32} {rv : Int32} {hz : Mm} {h : Mm} (hF : X12_least n x1 h = some (rv, hz)) : Sat X yX12_least cX12_least 2 (some .int) 112 [.ref (xa X 251), .int x1] false o h (some (.int rv)) hz := by
  unfold X12_least at hF
  refine Sat.mk (own := RX12) rfl (by decide +kernel) (Nat.le_of_ble_eq_true rfl) (fun G => ?_)
  refine V.sub (lv2 := [(0, _), (1, _)]) [0, 1] rfl ?_
  refine V.aload_n 0 dX12_least_0 rfl rfl ?_
  refine V.iconst (v := 0) dX12_least_1 rfl ?_
  refine V.putI fl_X12_93 rfl (tyX12_ok 0 (by decide)) rfl rfl sh_251 rfl km_251 dX12_least_2 ?_
  refine V.aload_n 0 dX12_least_5 rfl rfl ?_
  refine V.getI fl_X12_291 sh_251 rfl km_251 dX12_least_6 ?_
  refine V.if_eq (tgt := 22) dX12_least_9 rfl (fun c => ?_) (fun c => ?_)
  · replace hF := ip c hF
    refine V.iconst (v := -1) dX12_least_22 rfl ?_
    cases hF
    exact V.iret dX12_least_23
  · replace hF := iq c hF
    refine V.iload_n 1 dX12_least_12 rfl rfl ?_
    refine V.i2l dX12_least_13 ?_
    refine V.lconst (v := 0) dX12_least_14 rfl ?_
    refine V.lconst (v := 1) dX12_least_15 rfl ?_
    obtain ⟨r9, hc10, hF⟩ := bp_s hF
    refine V.callSi mf_X12_isIn ml_X12_214 (s_X12_isIn hc10) (by decide) rfl rfl (Nat.le_of_ble_eq_true rfl) dX12_least_16 ?_
    refine V.ifz_ne (tgt := 24) dX12_least_19 rfl (fun c => ?_) (fun c => ?_)
    · replace hF := ip c hF
      refine V.aload_n 0 dX12_least_24 rfl rfl ?_
      refine V.getR (v := 264) fl_X12_61 sh_251 rfl fx_251_32 (by decide) dX12_least_25 ?_
      refine V.aload_n 0 dX12_least_28 rfl rfl ?_
      refine V.getR (v := 265) fl_X12_64 sh_251 rfl fx_251_33 (by decide) dX12_least_29 ?_
      obtain ⟨r11, h13, hc12, hF⟩ := bd_s hF
      refine V.callSv mf_X12_copy ml_X12_401 (s_X12_copy io_264 io_265 hc12) (by decide) rfl rfl (Nat.le_of_ble_eq_true rfl) dX12_least_32 ?_
      refine V.aload_n 0 dX12_least_35 rfl rfl ?_
      refine V.iconst (v := -1) dX12_least_36 rfl ?_
      refine V.putI fl_X12_412 rfl (tyX12_ok 41 (by decide)) rfl rfl sh_251 rfl km_251 dX12_least_37 ?_
      refine V.aload_n 0 dX12_least_40 rfl rfl ?_
      refine V.iconst (v := -1) dX12_least_41 rfl ?_
      refine V.putI fl_X12_415 rfl (tyX12_ok 42 (by decide)) rfl rfl sh_251 rfl km_251 dX12_least_42 ?_
      refine V.aload_n 0 dX12_least_45 rfl rfl ?_
      refine V.iconst (v := 3) dX12_least_46 rfl ?_
      refine V.iconst (v := 0) dX12_least_47 rfl ?_
      refine V.iconst (v := 0) dX12_least_48 rfl ?_
      obtain ⟨r14, h16, hc15, hF⟩ := bd_s hF
      refine V.callVv mf_X12_goLeast ml_X12_418 sh_251 (s_X12_goLeast 9 _ _ _ _ _ _ hc15) (by decide) rfl rfl (Nat.le_of_ble_eq_true rfl) dX12_least_49 ?_
      refine V.iload_n 1 dX12_least_52 rfl rfl ?_
      refine V.if_ne (tgt := 63) dX12_least_53 rfl (fun c => ?_) (fun c => ?_)
      · replace hF := iq c hF
        refine V.aload_n 0 dX12_least_63 rfl rfl ?_
        refine V.getI fl_X12_415 sh_251 rfl km_251 dX12_least_64 ?_
        cases hF
        exact V.iret dX12_least_67
      · replace hF := ip c hF
        refine V.aload_n 0 dX12_least_56 rfl rfl ?_
        refine V.getI fl_X12_412 sh_251 rfl km_251 dX12_least_57 ?_
        refine V.goto (tgt := 67) dX12_least_60 rfl ?_
        cases hF
        exact V.iret dX12_least_67
    · replace hF := iq c hF
      refine V.iconst (v := -1) dX12_least_22 rfl ?_
      cases hF
      exact V.iret dX12_least_23
/-! MonsterCotModel.best -/
theorem dX12_best_0 : decode cX12_best 0 = .ok (.aload_n 0, 1) := by decide +kernel
theorem dX12_best_1 : decode cX12_best 1 = .ok (.iconst 0, 1) := by decide +kernel
theorem dX12_best_2 : decode cX12_best 2 = .ok (.putfield 93, 3) := by decide +kernel
theorem dX12_best_5 : decode cX12_best 5 = .ok (.aload_n 0, 1) := by decide +kernel
theorem dX12_best_6 : decode cX12_best 6 = .ok (.getfield 291, 3) := by decide +kernel
theorem dX12_best_9 : decode cX12_best 9 = .ok (.ifCond .eq 25, 3) := by decide +kernel
theorem dX12_best_12 : decode cX12_best 12 = .ok (.iload_n 1, 1) := by decide +kernel
theorem dX12_best_13 : decode cX12_best 13 = .ok (.i2l, 1) := by decide +kernel
theorem dX12_best_14 : decode cX12_best 14 = .ok (.lconst 1, 1) := by decide +kernel
theorem dX12_best_15 : decode cX12_best 15 = .ok (.ldc2_w 350, 3) := by decide +kernel
theorem dX12_best_18 : decode cX12_best 18 = .ok (.invokestatic 214, 3) := by decide +kernel
theorem dX12_best_21 : decode cX12_best 21 = .ok (.ifCond .eq 13, 3) := by decide +kernel
theorem dX12_best_24 : decode cX12_best 24 = .ok (.iload_n 2, 1) := by decide +kernel
theorem dX12_best_25 : decode cX12_best 25 = .ok (.i2l, 1) := by decide +kernel
theorem dX12_best_26 : decode cX12_best 26 = .ok (.lconst 0, 1) := by decide +kernel
theorem dX12_best_27 : decode cX12_best 27 = .ok (.lconst 1, 1) := by decide +kernel
theorem dX12_best_28 : decode cX12_best 28 = .ok (.invokestatic 214, 3) := by decide +kernel
theorem dX12_best_31 : decode cX12_best 31 = .ok (.ifCond .ne 5, 3) := by decide +kernel
theorem dX12_best_34 : decode cX12_best 34 = .ok (.iconst (-1), 1) := by decide +kernel
theorem dX12_best_35 : decode cX12_best 35 = .ok (.ireturn, 1) := by decide +kernel
theorem dX12_best_36 : decode cX12_best 36 = .ok (.iconst (-1), 1) := by decide +kernel
theorem dX12_best_37 : decode cX12_best 37 = .ok (.istore_n 3, 1) := by decide +kernel
theorem dX12_best_38 : decode cX12_best 38 = .ok (.iconst 0, 1) := by decide +kernel
theorem dX12_best_39 : decode cX12_best 39 = .ok (.istore 4, 2) := by decide +kernel
theorem dX12_best_41 : decode cX12_best 41 = .ok (.iconst 0, 1) := by decide +kernel
theorem dX12_best_42 : decode cX12_best 42 = .ok (.istore 5, 2) := by decide +kernel
theorem dX12_best_44 : decode cX12_best 44 = .ok (.iload 5, 2) := by decide +kernel
theorem dX12_best_46 : decode cX12_best 46 = .ok (.aload_n 0, 1) := by decide +kernel
theorem dX12_best_47 : decode cX12_best 47 = .ok (.getfield 288, 3) := by decide +kernel
theorem dX12_best_50 : decode cX12_best 50 = .ok (.if_icmp .ge 82, 3) := by decide +kernel
theorem dX12_best_53 : decode cX12_best 53 = .ok (.aload_n 0, 1) := by decide +kernel
theorem dX12_best_54 : decode cX12_best 54 = .ok (.aload_n 0, 1) := by decide +kernel
theorem dX12_best_55 : decode cX12_best 55 = .ok (.getfield 61, 3) := by decide +kernel
theorem dX12_best_58 : decode cX12_best 58 = .ok (.iload 5, 2) := by decide +kernel
theorem dX12_best_60 : decode cX12_best 60 = .ok (.iload_n 1, 1) := by decide +kernel
theorem dX12_best_61 : decode cX12_best 61 = .ok (.iconst 0, 1) := by decide +kernel
theorem dX12_best_62 : decode cX12_best 62 = .ok (.invokevirtual 359, 3) := by decide +kernel
theorem dX12_best_65 : decode cX12_best 65 = .ok (.ifCond .ne 6, 3) := by decide +kernel
theorem dX12_best_68 : decode cX12_best 68 = .ok (.goto 58, 3) := by decide +kernel
theorem dX12_best_71 : decode cX12_best 71 = .ok (.aload_n 0, 1) := by decide +kernel
theorem dX12_best_72 : decode cX12_best 72 = .ok (.getfield 61, 3) := by decide +kernel
theorem dX12_best_75 : decode cX12_best 75 = .ok (.aload_n 0, 1) := by decide +kernel
theorem dX12_best_76 : decode cX12_best 76 = .ok (.getfield 64, 3) := by decide +kernel
theorem dX12_best_79 : decode cX12_best 79 = .ok (.invokestatic 401, 3) := by decide +kernel
theorem dX12_best_82 : decode cX12_best 82 = .ok (.aload_n 0, 1) := by decide +kernel
theorem dX12_best_83 : decode cX12_best 83 = .ok (.aload_n 0, 1) := by decide +kernel
theorem dX12_best_84 : decode cX12_best 84 = .ok (.getfield 64, 3) := by decide +kernel
theorem dX12_best_87 : decode cX12_best 87 = .ok (.iload 5, 2) := by decide +kernel
theorem dX12_best_89 : decode cX12_best 89 = .ok (.iload_n 1, 1) := by decide +kernel
theorem dX12_best_90 : decode cX12_best 90 = .ok (.iconst 0, 1) := by decide +kernel
theorem dX12_best_91 : decode cX12_best 91 = .ok (.invokevirtual 365, 3) := by decide +kernel
theorem dX12_best_94 : decode cX12_best 94 = .ok (.iload_n 3, 1) := by decide +kernel
theorem dX12_best_95 : decode cX12_best 95 = .ok (.iconst (-1), 1) := by decide +kernel
theorem dX12_best_96 : decode cX12_best 96 = .ok (.if_icmp .eq 18, 3) := by decide +kernel
theorem dX12_best_99 : decode cX12_best 99 = .ok (.aload_n 0, 1) := by decide +kernel
theorem dX12_best_100 : decode cX12_best 100 = .ok (.getfield 64, 3) := by decide +kernel
theorem dX12_best_103 : decode cX12_best 103 = .ok (.bipush 22, 2) := by decide +kernel
theorem dX12_best_105 : decode cX12_best 105 = .ok (.iaload, 1) := by decide +kernel
theorem dX12_best_106 : decode cX12_best 106 = .ok (.iload 4, 2) := by decide +kernel
theorem dX12_best_108 : decode cX12_best 108 = .ok (.if_icmp .gt 6, 3) := by decide +kernel
theorem dX12_best_111 : decode cX12_best 111 = .ok (.goto 15, 3) := by decide +kernel
theorem dX12_best_114 : decode cX12_best 114 = .ok (.iload 5, 2) := by decide +kernel
theorem dX12_best_116 : decode cX12_best 116 = .ok (.istore_n 3, 1) := by decide +kernel
theorem dX12_best_117 : decode cX12_best 117 = .ok (.aload_n 0, 1) := by decide +kernel
theorem dX12_best_118 : decode cX12_best 118 = .ok (.getfield 64, 3) := by decide +kernel
theorem dX12_best_121 : decode cX12_best 121 = .ok (.bipush 22, 2) := by decide +kernel
theorem dX12_best_123 : decode cX12_best 123 = .ok (.iaload, 1) := by decide +kernel
theorem dX12_best_124 : decode cX12_best 124 = .ok (.istore 4, 2) := by decide +kernel
theorem dX12_best_126 : decode cX12_best 126 = .ok (.iinc 5 1, 3) := by decide +kernel
theorem dX12_best_129 : decode cX12_best 129 = .ok (.goto (-85), 3) := by decide +kernel
theorem dX12_best_132 : decode cX12_best 132 = .ok (.iload_n 3, 1) := by decide +kernel
theorem dX12_best_133 : decode cX12_best 133 = .ok (.iconst (-1), 1) := by decide +kernel
theorem dX12_best_134 : decode cX12_best 134 = .ok (.if_icmp .eq 7, 3) := by decide +kernel
theorem dX12_best_137 : decode cX12_best 137 = .ok (.iload_n 2, 1) := by decide +kernel
theorem dX12_best_138 : decode cX12_best 138 = .ok (.ifCond .ne 7, 3) := by decide +kernel
theorem dX12_best_141 : decode cX12_best 141 = .ok (.iload_n 3, 1) := by decide +kernel
theorem dX12_best_142 : decode cX12_best 142 = .ok (.goto 5, 3) := by decide +kernel
theorem dX12_best_145 : decode cX12_best 145 = .ok (.iload 4, 2) := by decide +kernel
theorem dX12_best_147 : decode cX12_best 147 = .ok (.ireturn, 1) := by decide +kernel
def X12_best_126 (n : Nat) (K44 : Int32 → Int32 → Int32 → Int32 → Int32 → Mm → Option (Int32 × Mm)) (x1 : Int32) (x2 : Int32) (x3 : Int32) (x4 : Int32) (x5 : Int32) (h : Mm) : Option (Int32 × Mm) := (K44 x1 x2 x3 x4 (x5 + (1)) h)
set_option maxRecDepth 100000 in
set_option maxHeartbeats 4000000 in
theorem v_X12_best_126 {X : WX} {G : GX} {o : Mm} {n : Nat} {K44 : Int32 → Int32 → Int32 → Int32 → Int32 → Mm → Option (Int32 × Mm)} {rv : Int32} {hz : Mm} (hK44 : ∀ (x1 : Int32) (x2 : Int32) (x3 : Int32) (x4 : Int32) (x5 : Int32) (h : Mm), K44 x1 x2 x3 x4 x5 h = some (rv, hz) → V X G RX12 cX12_best 6 (some .int) 92 0 0 (QR X G false o (some (.int rv)) hz) false o 44 [(0, .ref (xa X 251)), (1, .int x1), (2, .int x2), (3, .int x3), (4, .int x4), (5, .int x5)] [] h) {x1 : Int32} {x2 : Int32} {x3 : Int32} {x4 : Int32} {x5 : Int32} {h : Mm} (hF : X12_best_126 n K44 x1 x2 x3 x4 x5 h = some (rv, hz)) : V X G RX12 cX12_best 6 (some .int) 92 0 0 (QR X G false o (some (.int rv)) hz) false o 126 [(0, .ref (xa X 251)), (1, .int x1), (2, .int x2), (3, .int x3), (4, .int x4), (5, .int x5)] [] h := by
  unfold X12_best_126 at hF
  refine V.iinc (v := (x5 + (1))) 5 [(5, _), (0, _), (1, _), (2, _), (3, _), (4, _)] dX12_best_126 rfl rfl (by decide) rfl ?_
  refine V.goto (tgt := 44) dX12_best_129 rfl ?_
  exact V.sub [1, 2, 3, 4, 5, 0] rfl (hK44 _ _ _ _ _ _ hF)
def X12_best_114 (n : Nat) (K44 : Int32 → Int32 → Int32 → Int32 → Int32 → Mm → Option (Int32 × Mm)) (x1 : Int32) (x2 : Int32) (x5 : Int32) (h : Mm) : Option (Int32 × Mm) := (if inB (22 : Int32) (aln 265) then (X12_best_126 n K44 x1 x2 x5 (h.1 265 (22 : Int32).toNatClampNeg) x5 h) else none)
set_option maxRecDepth 100000 in
set_option maxHeartbeats 4000000 in
theorem v_X12_best_114 {X : WX} {G : GX} {o : Mm} {n : Nat} {K44 : Int32 → Int32 → Int32 → Int32 → Int32 → Mm → Option (Int32 × Mm)} {rv : Int32} {hz : Mm} (hK44 : ∀ (x1 : Int32) (x2 : Int32) (x3 : Int32) (x4 : Int32) (x5 : Int32) (h : Mm), K44 x1 x2 x3 x4 x5 h = some (rv, hz) → V X G RX12 cX12_best 6 (some .int) 92 0 0 (QR X G false o (some (.int rv)) hz) false o 44 [(0, .ref (xa X 251)), (1, .int x1), (2, .int x2), (3, .int x3), (4, .int x4), (5, .int x5)] [] h) {x1 : Int32} {x2 : Int32} {x5 : Int32} {h : Mm} (hF : X12_best_114 n K44 x1 x2 x5 h = some (rv, hz)) : V X G RX12 cX12_best 6 (some .int) 92 0 0 (QR X G false o (some (.int rv)) hz) false o 114 [(0, .ref (xa X 251)), (1, .int x1), (2, .int x2), (5, .int x5)] [] h := by
  unfold X12_best_114 at hF
  refine V.iload 3 dX12_best_114 rfl ?_
  refine V.istore_n [(3, _), (0, _), (1, _), (2, _), (5, _)] dX12_best_116 rfl (by decide) rfl ?_
  refine V.aload_n 1 dX12_best_117 rfl rfl ?_
  refine V.getR (v := 265) fl_X12_64 sh_251 rfl fx_251_33 (by decide) dX12_best_118 ?_
  refine V.bipush (v := 22) dX12_best_121 (by decide) ?_
  obtain ⟨hk, hF⟩ := ck hF
  refine V.iald io_265 hk dX12_best_123 ?_
  refine V.istore [(4, _), (3, _), (0, _), (1, _), (2, _), (5, _)] dX12_best_124 (by decide) rfl ?_
  exact V.sub [2, 3, 4, 1, 0, 5] rfl (v_X12_best_126 hK44 hF)
def X12_best_141 (n : Nat) (x3 : Int32) (h : Mm) : Option (Int32 × Mm) := (some (x3, h))
set_option maxRecDepth 100000 in
set_option maxHeartbeats 4000000 in
theorem v_X12_best_141 {X : WX} {G : GX} {o : Mm} {n : Nat} {rv : Int32} {hz : Mm} {x3 : Int32} {h : Mm} (hF : X12_best_141 n x3 h = some (rv, hz)) : V X G RX12 cX12_best 6 (some .int) 92 0 0 (QR X G false o (some (.int rv)) hz) false o 141 [(3, .int x3)] [] h := by
  unfold X12_best_141 at hF
  refine V.iload_n 0 dX12_best_141 rfl rfl ?_
  refine V.goto (tgt := 147) dX12_best_142 rfl ?_
  cases hF
  exact V.iret dX12_best_147
def X12_best_44 (n : Nat) : Nat → Int32 → Int32 → Int32 → Int32 → Int32 → Mm → Option (Int32 × Mm)
  | 0, _, _, _, _, _, _ => none
  | f + 1, x1, x2, x3, x4, x5, h => (if (h.1 251 26) ≤ x5 then (if x3 = (-1 : Int32) then (X12_best_141 n x3 h) else (if x2 = 0 then (X12_best_141 n x3 h) else (some (x4, h)))) else (bp (X12_mayRead 264 x5 x1 false h) (fun r49 => (if r49 = true then (bd (X12_copy n 264 265 h) (fun _ h53 => (bd (X12_reads n 265 x5 x1 false h53) (fun _ h56 => (if x3 = (-1 : Int32) then (X12_best_114 n (X12_best_44 n f) x1 x2 x5 h56) else (if inB (22 : Int32) (aln 265) then (if x4 < (h56.1 265 (22 : Int32).toNatClampNeg) then (X12_best_114 n (X12_best_44 n f) x1 x2 x5 h56) else (X12_best_126 n (X12_best_44 n f) x1 x2 x3 x4 x5 h56)) else none)))))) else (X12_best_126 n (X12_best_44 n f) x1 x2 x3 x4 x5 h)))))
set_option maxRecDepth 100000 in
set_option maxHeartbeats 4000000 in
theorem v_X12_best_44 {X : WX} {G : GX} {o : Mm} {n : Nat} {rv : Int32} {hz : Mm} : ∀ (f : Nat) (x1 : Int32) (x2 : Int32) (x3 : Int32) (x4 : Int32) (x5 : Int32) (h : Mm), X12_best_44 n f x1 x2 x3 x4 x5 h = some (rv, hz) → V X G RX12 cX12_best 6 (some .int) 92 0 0 (QR X G false o (some (.int rv)) hz) false o 44 [(0, .ref (xa X 251)), (1, .int x1), (2, .int x2), (3, .int x3), (4, .int x4), (5, .int x5)] [] h := by
  intro f
  induction f with
  | zero => intro x1 x2 x3 x4 x5 h hF; exact nomatch (show (none : Option (Int32 × Mm)) = some (rv, hz) from hF)
  | succ f ih =>
    intro x1 x2 x3 x4 x5 h hF
    unfold X12_best_44 at hF
    refine V.iload 5 dX12_best_44 rfl ?_
    refine V.aload_n 0 dX12_best_46 rfl rfl ?_
    refine V.getI fl_X12_288 sh_251 rfl km_251 dX12_best_47 ?_
    refine V.icmp_ge (tgt := 132) dX12_best_50 rfl (fun c => ?_) (fun c => ?_)
    · replace hF := ip c hF
      refine V.iload_n 3 dX12_best_132 rfl rfl ?_
      refine V.iconst (v := -1) dX12_best_133 rfl ?_
      refine V.icmp_eq (tgt := 141) dX12_best_134 rfl (fun c => ?_) (fun c => ?_)
      · replace hF := ip c hF
        exact V.sub [3] rfl (v_X12_best_141 hF)
      · replace hF := iq c hF
        refine V.iload_n 2 dX12_best_137 rfl rfl ?_
        refine V.if_ne (tgt := 145) dX12_best_138 rfl (fun c => ?_) (fun c => ?_)
        · replace hF := iq c hF
          refine V.iload 4 dX12_best_145 rfl ?_
          cases hF
          exact V.iret dX12_best_147
        · replace hF := ip c hF
          exact V.sub [3] rfl (v_X12_best_141 hF)
    · replace hF := iq c hF
      refine V.aload_n 0 dX12_best_53 rfl rfl ?_
      refine V.aload_n 0 dX12_best_54 rfl rfl ?_
      refine V.getR (v := 264) fl_X12_61 sh_251 rfl fx_251_32 (by decide) dX12_best_55 ?_
      refine V.iload 5 dX12_best_58 rfl ?_
      refine V.iload_n 1 dX12_best_60 rfl rfl ?_
      refine V.iconst (v := 0) dX12_best_61 rfl ?_
      obtain ⟨r49, hc50, hF⟩ := bp_s hF
      refine V.callVi mf_X12_mayRead ml_X12_359 sh_251 (s_X12_mayRead io_264 hc50) (by decide) rfl rfl (Nat.le_of_ble_eq_true rfl) dX12_best_62 ?_
      refine V.ifz_ne (tgt := 71) dX12_best_65 rfl (fun c => ?_) (fun c => ?_)
      · replace hF := ip c hF
        refine V.aload_n 0 dX12_best_71 rfl rfl ?_
        refine V.getR (v := 264) fl_X12_61 sh_251 rfl fx_251_32 (by decide) dX12_best_72 ?_
        refine V.aload_n 0 dX12_best_75 rfl rfl ?_
        refine V.getR (v := 265) fl_X12_64 sh_251 rfl fx_251_33 (by decide) dX12_best_76 ?_
        obtain ⟨r51, h53, hc52, hF⟩ := bd_s hF
        refine V.callSv mf_X12_copy ml_X12_401 (s_X12_copy io_264 io_265 hc52) (by decide) rfl rfl (Nat.le_of_ble_eq_true rfl) dX12_best_79 ?_
        refine V.aload_n 0 dX12_best_82 rfl rfl ?_
        refine V.aload_n 0 dX12_best_83 rfl rfl ?_
        refine V.getR (v := 265) fl_X12_64 sh_251 rfl fx_251_33 (by decide) dX12_best_84 ?_
        refine V.iload 5 dX12_best_87 rfl ?_
        refine V.iload_n 1 dX12_best_89 rfl rfl ?_
        refine V.iconst (v := 0) dX12_best_90 rfl ?_
        obtain ⟨r54, h56, hc55, hF⟩ := bd_s hF
        refine V.callVv mf_X12_reads ml_X12_365 sh_251 (s_X12_reads io_265 hc55) (by decide) rfl rfl (Nat.le_of_ble_eq_true rfl) dX12_best_91 ?_
        refine V.iload_n 3 dX12_best_94 rfl rfl ?_
        refine V.iconst (v := -1) dX12_best_95 rfl ?_
        refine V.icmp_eq (tgt := 114) dX12_best_96 rfl (fun c => ?_) (fun c => ?_)
        · replace hF := ip c hF
          exact V.sub [0, 1, 2, 5] rfl (v_X12_best_114 ih hF)
        · replace hF := iq c hF
          refine V.aload_n 0 dX12_best_99 rfl rfl ?_
          refine V.getR (v := 265) fl_X12_64 sh_251 rfl fx_251_33 (by decide) dX12_best_100 ?_
          refine V.bipush (v := 22) dX12_best_103 (by decide) ?_
          obtain ⟨hk, hF⟩ := ck hF
          refine V.iald io_265 hk dX12_best_105 ?_
          refine V.iload 4 dX12_best_106 rfl ?_
          refine V.icmp_gt (tgt := 114) dX12_best_108 rfl (fun c => ?_) (fun c => ?_)
          · replace hF := ip c hF
            exact V.sub [0, 1, 2, 5] rfl (v_X12_best_114 ih hF)
          · replace hF := iq c hF
            refine V.goto (tgt := 126) dX12_best_111 rfl ?_
            exact (v_X12_best_126 ih hF)
      · replace hF := iq c hF
        refine V.goto (tgt := 126) dX12_best_68 rfl ?_
        exact (v_X12_best_126 ih hF)
def X12_best (n : Nat) (x1 : Int32) (x2 : Int32) (h : Mm) : Option (Int32 × Mm) := (if ((wI h 251 0 (0 : Int32)).1 251 27) = 0 then (some ((-1 : Int32), (wI h 251 0 (0 : Int32)))) else (bp (X12_isIn x1.toInt64 (1 : Int64) (9 : Int64) (wI h 251 0 (0 : Int32))) (fun r57 => (if r57 = true then (bp (X12_isIn x2.toInt64 (0 : Int64) (1 : Int64) (wI h 251 0 (0 : Int32))) (fun r59 => (if r59 = true then (X12_best_44 n n x1 x2 (-1 : Int32) (0 : Int32) (0 : Int32) (wI h 251 0 (0 : Int32))) else (some ((-1 : Int32), (wI h 251 0 (0 : Int32))))))) else (some ((-1 : Int32), (wI h 251 0 (0 : Int32))))))))
set_option maxRecDepth 100000 in
set_option maxHeartbeats 4000000 in
theorem s_X12_best {X : WX} {o : Mm} {n : Nat} {x1 : Int32} {x2 : Int32} {rv : Int32} {hz : Mm} {h : Mm} (hF : X12_best n x1 x2 h = some (rv, hz)) : Sat X yX12_best cX12_best 6 (some .int) 92 [.ref (xa X 251), .int x1, .int x2] false o h (some (.int rv)) hz := by
  unfold X12_best at hF
  refine Sat.mk (own := RX12) rfl (by decide +kernel) (Nat.le_of_ble_eq_true rfl) (fun G => ?_)
  refine V.sub (lv2 := [(0, _), (1, _), (2, _)]) [0, 1, 2] rfl ?_
  refine V.aload_n 0 dX12_best_0 rfl rfl ?_
  refine V.iconst (v := 0) dX12_best_1 rfl ?_
  refine V.putI fl_X12_93 rfl (tyX12_ok 0 (by decide)) rfl rfl sh_251 rfl km_251 dX12_best_2 ?_
  refine V.aload_n 0 dX12_best_5 rfl rfl ?_
  refine V.getI fl_X12_291 sh_251 rfl km_251 dX12_best_6 ?_
  refine V.if_eq (tgt := 34) dX12_best_9 rfl (fun c => ?_) (fun c => ?_)
  · replace hF := ip c hF
    refine V.iconst (v := -1) dX12_best_34 rfl ?_
    cases hF
    exact V.iret dX12_best_35
  · replace hF := iq c hF
    refine V.iload_n 1 dX12_best_12 rfl rfl ?_
    refine V.i2l dX12_best_13 ?_
    refine V.lconst (v := 1) dX12_best_14 rfl ?_
    refine V.ldc2 (v := 9) dX12_best_15 kc_X12_350 ?_
    obtain ⟨r57, hc58, hF⟩ := bp_s hF
    refine V.callSi mf_X12_isIn ml_X12_214 (s_X12_isIn hc58) (by decide) rfl rfl (Nat.le_of_ble_eq_true rfl) dX12_best_18 ?_
    refine V.ifz_eq (tgt := 34) dX12_best_21 rfl (fun c => ?_) (fun c => ?_)
    · replace hF := iq c hF
      refine V.iconst (v := -1) dX12_best_34 rfl ?_
      cases hF
      exact V.iret dX12_best_35
    · replace hF := ip c hF
      refine V.iload_n 2 dX12_best_24 rfl rfl ?_
      refine V.i2l dX12_best_25 ?_
      refine V.lconst (v := 0) dX12_best_26 rfl ?_
      refine V.lconst (v := 1) dX12_best_27 rfl ?_
      obtain ⟨r59, hc60, hF⟩ := bp_s hF
      refine V.callSi mf_X12_isIn ml_X12_214 (s_X12_isIn hc60) (by decide) rfl rfl (Nat.le_of_ble_eq_true rfl) dX12_best_28 ?_
      refine V.ifz_ne (tgt := 36) dX12_best_31 rfl (fun c => ?_) (fun c => ?_)
      · replace hF := ip c hF
        refine V.iconst (v := -1) dX12_best_36 rfl ?_
        refine V.istore_n [(3, _), (0, _), (1, _), (2, _)] dX12_best_37 rfl (by decide) rfl ?_
        refine V.iconst (v := 0) dX12_best_38 rfl ?_
        refine V.istore [(4, _), (3, _), (0, _), (1, _), (2, _)] dX12_best_39 (by decide) rfl ?_
        refine V.iconst (v := 0) dX12_best_41 rfl ?_
        refine V.istore [(5, _), (4, _), (3, _), (0, _), (1, _), (2, _)] dX12_best_42 (by decide) rfl ?_
        exact V.sub [3, 4, 5, 2, 1, 0] rfl (v_X12_best_44 n _ _ _ _ _ _ hF)
      · replace hF := iq c hF
        refine V.iconst (v := -1) dX12_best_34 rfl ?_
        cases hF
        exact V.iret dX12_best_35
/-! MonsterCotModel.goRoster -/
theorem dX12_goRoster_0 : decode cX12_goRoster 0 = .ok (.iload_n 2, 1) := by decide +kernel
theorem dX12_goRoster_1 : decode cX12_goRoster 1 = .ok (.ifCond .ne 24, 3) := by decide +kernel
theorem dX12_goRoster_4 : decode cX12_goRoster 4 = .ok (.iload_n 3, 1) := by decide +kernel
theorem dX12_goRoster_5 : decode cX12_goRoster 5 = .ok (.aload_n 0, 1) := by decide +kernel
theorem dX12_goRoster_6 : decode cX12_goRoster 6 = .ok (.getfield 422, 3) := by decide +kernel
theorem dX12_goRoster_9 : decode cX12_goRoster 9 = .ok (.if_icmp .gt 4, 3) := by decide +kernel
theorem dX12_goRoster_12 : decode cX12_goRoster 12 = .ok (.return_, 1) := by decide +kernel
theorem dX12_goRoster_13 : decode cX12_goRoster 13 = .ok (.aload_n 0, 1) := by decide +kernel
theorem dX12_goRoster_14 : decode cX12_goRoster 14 = .ok (.iload_n 3, 1) := by decide +kernel
theorem dX12_goRoster_15 : decode cX12_goRoster 15 = .ok (.putfield 422, 3) := by decide +kernel
theorem dX12_goRoster_18 : decode cX12_goRoster 18 = .ok (.aload_n 0, 1) := by decide +kernel
theorem dX12_goRoster_19 : decode cX12_goRoster 19 = .ok (.iload 4, 2) := by decide +kernel
theorem dX12_goRoster_21 : decode cX12_goRoster 21 = .ok (.putfield 425, 3) := by decide +kernel
theorem dX12_goRoster_24 : decode cX12_goRoster 24 = .ok (.return_, 1) := by decide +kernel
theorem dX12_goRoster_25 : decode cX12_goRoster 25 = .ok (.iload_n 2, 1) := by decide +kernel
theorem dX12_goRoster_26 : decode cX12_goRoster 26 = .ok (.invokestatic 428, 3) := by decide +kernel
theorem dX12_goRoster_29 : decode cX12_goRoster 29 = .ok (.istore 5, 2) := by decide +kernel
theorem dX12_goRoster_31 : decode cX12_goRoster 31 = .ok (.iconst 0, 1) := by decide +kernel
theorem dX12_goRoster_32 : decode cX12_goRoster 32 = .ok (.istore 6, 2) := by decide +kernel
theorem dX12_goRoster_34 : decode cX12_goRoster 34 = .ok (.iload 6, 2) := by decide +kernel
theorem dX12_goRoster_36 : decode cX12_goRoster 36 = .ok (.bipush 30, 2) := by decide +kernel
theorem dX12_goRoster_38 : decode cX12_goRoster 38 = .ok (.if_icmp .gt 29, 3) := by decide +kernel
theorem dX12_goRoster_41 : decode cX12_goRoster 41 = .ok (.aload_n 0, 1) := by decide +kernel
theorem dX12_goRoster_42 : decode cX12_goRoster 42 = .ok (.getfield 81, 3) := by decide +kernel
theorem dX12_goRoster_45 : decode cX12_goRoster 45 = .ok (.bipush 31, 2) := by decide +kernel
theorem dX12_goRoster_47 : decode cX12_goRoster 47 = .ok (.iload 5, 2) := by decide +kernel
theorem dX12_goRoster_49 : decode cX12_goRoster 49 = .ok (.imul, 1) := by decide +kernel
theorem dX12_goRoster_50 : decode cX12_goRoster 50 = .ok (.iload 6, 2) := by decide +kernel
theorem dX12_goRoster_52 : decode cX12_goRoster 52 = .ok (.iadd, 1) := by decide +kernel
theorem dX12_goRoster_53 : decode cX12_goRoster 53 = .ok (.aload_n 0, 1) := by decide +kernel
theorem dX12_goRoster_54 : decode cX12_goRoster 54 = .ok (.getfield 64, 3) := by decide +kernel
theorem dX12_goRoster_57 : decode cX12_goRoster 57 = .ok (.iload 6, 2) := by decide +kernel
theorem dX12_goRoster_59 : decode cX12_goRoster 59 = .ok (.iaload, 1) := by decide +kernel
theorem dX12_goRoster_60 : decode cX12_goRoster 60 = .ok (.iastore, 1) := by decide +kernel
theorem dX12_goRoster_61 : decode cX12_goRoster 61 = .ok (.iinc 6 1, 3) := by decide +kernel
theorem dX12_goRoster_64 : decode cX12_goRoster 64 = .ok (.goto (-30), 3) := by decide +kernel
theorem dX12_goRoster_67 : decode cX12_goRoster 67 = .ok (.iconst 0, 1) := by decide +kernel
theorem dX12_goRoster_68 : decode cX12_goRoster 68 = .ok (.istore 6, 2) := by decide +kernel
theorem dX12_goRoster_70 : decode cX12_goRoster 70 = .ok (.iload 6, 2) := by decide +kernel
theorem dX12_goRoster_72 : decode cX12_goRoster 72 = .ok (.aload_n 0, 1) := by decide +kernel
theorem dX12_goRoster_73 : decode cX12_goRoster 73 = .ok (.getfield 291, 3) := by decide +kernel
theorem dX12_goRoster_76 : decode cX12_goRoster 76 = .ok (.if_icmp .ge 134, 3) := by decide +kernel
theorem dX12_goRoster_79 : decode cX12_goRoster 79 = .ok (.iload_n 2, 1) := by decide +kernel
theorem dX12_goRoster_80 : decode cX12_goRoster 80 = .ok (.iload 6, 2) := by decide +kernel
theorem dX12_goRoster_82 : decode cX12_goRoster 82 = .ok (.invokestatic 226, 3) := by decide +kernel
theorem dX12_goRoster_85 : decode cX12_goRoster 85 = .ok (.ifCond .ne 6, 3) := by decide +kernel
theorem dX12_goRoster_88 : decode cX12_goRoster 88 = .ok (.goto 116, 3) := by decide +kernel
theorem dX12_goRoster_91 : decode cX12_goRoster 91 = .ok (.aload_n 0, 1) := by decide +kernel
theorem dX12_goRoster_92 : decode cX12_goRoster 92 = .ok (.getfield 64, 3) := by decide +kernel
theorem dX12_goRoster_95 : decode cX12_goRoster 95 = .ok (.bipush 23, 2) := by decide +kernel
theorem dX12_goRoster_97 : decode cX12_goRoster 97 = .ok (.iload 6, 2) := by decide +kernel
theorem dX12_goRoster_99 : decode cX12_goRoster 99 = .ok (.iastore, 1) := by decide +kernel
theorem dX12_goRoster_100 : decode cX12_goRoster 100 = .ok (.aload_n 0, 1) := by decide +kernel
theorem dX12_goRoster_101 : decode cX12_goRoster 101 = .ok (.aload_n 0, 1) := by decide +kernel
theorem dX12_goRoster_102 : decode cX12_goRoster 102 = .ok (.getfield 64, 3) := by decide +kernel
theorem dX12_goRoster_105 : decode cX12_goRoster 105 = .ok (.iload_n 1, 1) := by decide +kernel
theorem dX12_goRoster_106 : decode cX12_goRoster 106 = .ok (.aload_n 0, 1) := by decide +kernel
theorem dX12_goRoster_107 : decode cX12_goRoster 107 = .ok (.iload_n 1, 1) := by decide +kernel
theorem dX12_goRoster_108 : decode cX12_goRoster 108 = .ok (.invokevirtual 322, 3) := by decide +kernel
theorem dX12_goRoster_111 : decode cX12_goRoster 111 = .ok (.iconst 0, 1) := by decide +kernel
theorem dX12_goRoster_112 : decode cX12_goRoster 112 = .ok (.invokevirtual 359, 3) := by decide +kernel
theorem dX12_goRoster_115 : decode cX12_goRoster 115 = .ok (.ifCond .eq 18, 3) := by decide +kernel
theorem dX12_goRoster_118 : decode cX12_goRoster 118 = .ok (.aload_n 0, 1) := by decide +kernel
theorem dX12_goRoster_119 : decode cX12_goRoster 119 = .ok (.aload_n 0, 1) := by decide +kernel
theorem dX12_goRoster_120 : decode cX12_goRoster 120 = .ok (.getfield 64, 3) := by decide +kernel
theorem dX12_goRoster_123 : decode cX12_goRoster 123 = .ok (.iload_n 1, 1) := by decide +kernel
theorem dX12_goRoster_124 : decode cX12_goRoster 124 = .ok (.aload_n 0, 1) := by decide +kernel
theorem dX12_goRoster_125 : decode cX12_goRoster 125 = .ok (.iload_n 1, 1) := by decide +kernel
theorem dX12_goRoster_126 : decode cX12_goRoster 126 = .ok (.invokevirtual 322, 3) := by decide +kernel
theorem dX12_goRoster_129 : decode cX12_goRoster 129 = .ok (.iconst 0, 1) := by decide +kernel
theorem dX12_goRoster_130 : decode cX12_goRoster 130 = .ok (.invokevirtual 365, 3) := by decide +kernel
theorem dX12_goRoster_133 : decode cX12_goRoster 133 = .ok (.aload_n 0, 1) := by decide +kernel
theorem dX12_goRoster_134 : decode cX12_goRoster 134 = .ok (.aload_n 0, 1) := by decide +kernel
theorem dX12_goRoster_135 : decode cX12_goRoster 135 = .ok (.getfield 64, 3) := by decide +kernel
theorem dX12_goRoster_138 : decode cX12_goRoster 138 = .ok (.invokevirtual 377, 3) := by decide +kernel
theorem dX12_goRoster_141 : decode cX12_goRoster 141 = .ok (.istore 7, 2) := by decide +kernel
theorem dX12_goRoster_143 : decode cX12_goRoster 143 = .ok (.aload_n 0, 1) := by decide +kernel
theorem dX12_goRoster_144 : decode cX12_goRoster 144 = .ok (.iload_n 1, 1) := by decide +kernel
theorem dX12_goRoster_145 : decode cX12_goRoster 145 = .ok (.iload_n 2, 1) := by decide +kernel
theorem dX12_goRoster_146 : decode cX12_goRoster 146 = .ok (.iconst 1, 1) := by decide +kernel
theorem dX12_goRoster_147 : decode cX12_goRoster 147 = .ok (.iload 6, 2) := by decide +kernel
theorem dX12_goRoster_149 : decode cX12_goRoster 149 = .ok (.ishl, 1) := by decide +kernel
theorem dX12_goRoster_150 : decode cX12_goRoster 150 = .ok (.iconst (-1), 1) := by decide +kernel
theorem dX12_goRoster_151 : decode cX12_goRoster 151 = .ok (.ixor, 1) := by decide +kernel
theorem dX12_goRoster_152 : decode cX12_goRoster 152 = .ok (.iand, 1) := by decide +kernel
theorem dX12_goRoster_153 : decode cX12_goRoster 153 = .ok (.iload_n 3, 1) := by decide +kernel
theorem dX12_goRoster_154 : decode cX12_goRoster 154 = .ok (.iload 7, 2) := by decide +kernel
theorem dX12_goRoster_156 : decode cX12_goRoster 156 = .ok (.iadd, 1) := by decide +kernel
theorem dX12_goRoster_157 : decode cX12_goRoster 157 = .ok (.bipush 10, 2) := by decide +kernel
theorem dX12_goRoster_159 : decode cX12_goRoster 159 = .ok (.iload 4, 2) := by decide +kernel
theorem dX12_goRoster_161 : decode cX12_goRoster 161 = .ok (.imul, 1) := by decide +kernel
theorem dX12_goRoster_162 : decode cX12_goRoster 162 = .ok (.iload 6, 2) := by decide +kernel
theorem dX12_goRoster_164 : decode cX12_goRoster 164 = .ok (.iadd, 1) := by decide +kernel
theorem dX12_goRoster_165 : decode cX12_goRoster 165 = .ok (.invokevirtual 433, 3) := by decide +kernel
theorem dX12_goRoster_168 : decode cX12_goRoster 168 = .ok (.iconst 0, 1) := by decide +kernel
theorem dX12_goRoster_169 : decode cX12_goRoster 169 = .ok (.istore 8, 2) := by decide +kernel
theorem dX12_goRoster_171 : decode cX12_goRoster 171 = .ok (.iload 8, 2) := by decide +kernel
theorem dX12_goRoster_173 : decode cX12_goRoster 173 = .ok (.bipush 30, 2) := by decide +kernel
theorem dX12_goRoster_175 : decode cX12_goRoster 175 = .ok (.if_icmp .gt 29, 3) := by decide +kernel
theorem dX12_goRoster_178 : decode cX12_goRoster 178 = .ok (.aload_n 0, 1) := by decide +kernel
theorem dX12_goRoster_179 : decode cX12_goRoster 179 = .ok (.getfield 64, 3) := by decide +kernel
theorem dX12_goRoster_182 : decode cX12_goRoster 182 = .ok (.iload 8, 2) := by decide +kernel
theorem dX12_goRoster_184 : decode cX12_goRoster 184 = .ok (.aload_n 0, 1) := by decide +kernel
theorem dX12_goRoster_185 : decode cX12_goRoster 185 = .ok (.getfield 81, 3) := by decide +kernel
theorem dX12_goRoster_188 : decode cX12_goRoster 188 = .ok (.bipush 31, 2) := by decide +kernel
theorem dX12_goRoster_190 : decode cX12_goRoster 190 = .ok (.iload 5, 2) := by decide +kernel
theorem dX12_goRoster_192 : decode cX12_goRoster 192 = .ok (.imul, 1) := by decide +kernel
theorem dX12_goRoster_193 : decode cX12_goRoster 193 = .ok (.iload 8, 2) := by decide +kernel
theorem dX12_goRoster_195 : decode cX12_goRoster 195 = .ok (.iadd, 1) := by decide +kernel
theorem dX12_goRoster_196 : decode cX12_goRoster 196 = .ok (.iaload, 1) := by decide +kernel
theorem dX12_goRoster_197 : decode cX12_goRoster 197 = .ok (.iastore, 1) := by decide +kernel
theorem dX12_goRoster_198 : decode cX12_goRoster 198 = .ok (.iinc 8 1, 3) := by decide +kernel
theorem dX12_goRoster_201 : decode cX12_goRoster 201 = .ok (.goto (-30), 3) := by decide +kernel
theorem dX12_goRoster_204 : decode cX12_goRoster 204 = .ok (.iinc 6 1, 3) := by decide +kernel
theorem dX12_goRoster_207 : decode cX12_goRoster 207 = .ok (.goto (-137), 3) := by decide +kernel
theorem dX12_goRoster_210 : decode cX12_goRoster 210 = .ok (.return_, 1) := by decide +kernel
def X12_goRoster_204 (n : Nat) (rf : Int32 → Int32 → Int32 → Int32 → Mm → Option (Unit × Mm)) (K70 : Int32 → Int32 → Int32 → Int32 → Int32 → Int32 → Mm → Option (Unit × Mm)) (x1 : Int32) (x2 : Int32) (x3 : Int32) (x4 : Int32) (x5 : Int32) (x6 : Int32) (h : Mm) : Option (Unit × Mm) := (K70 x1 x2 x3 x4 x5 (x6 + (1)) h)
set_option maxRecDepth 100000 in
set_option maxHeartbeats 4000000 in
theorem v_X12_goRoster_204 {X : WX} {G : GX} {o : Mm} {n : Nat} {rf : Int32 → Int32 → Int32 → Int32 → Mm → Option (Unit × Mm)} {dr : Nat} (hdr : 93 ≤ dr) (hrf : ∀ (x1 : Int32) (x2 : Int32) (x3 : Int32) (x4 : Int32)  (h : Mm) (r : Unit) (h2 : Mm), rf x1 x2 x3 x4 h = some (r, h2) → Sat X yX12_goRoster cX12_goRoster 9 (none) dr [.ref (xa X 251), .int x1, .int x2, .int x3, .int x4] false o h none h2) {DD : Nat} (hDD : dr + 1 ≤ DD) {K70 : Int32 → Int32 → Int32 → Int32 → Int32 → Int32 → Mm → Option (Unit × Mm)} {rv : Unit} {hz : Mm} (hK70 : ∀ (x1 : Int32) (x2 : Int32) (x3 : Int32) (x4 : Int32) (x5 : Int32) (x6 : Int32) (h : Mm), K70 x1 x2 x3 x4 x5 x6 h = some (rv, hz) → V X G RX12 cX12_goRoster 9 (none) DD 0 0 (QR X G false o none hz) false o 70 [(0, .ref (xa X 251)), (1, .int x1), (2, .int x2), (3, .int x3), (4, .int x4), (5, .int x5), (6, .int x6)] [] h) {x1 : Int32} {x2 : Int32} {x3 : Int32} {x4 : Int32} {x5 : Int32} {x6 : Int32} {h : Mm} (hF : X12_goRoster_204 n rf K70 x1 x2 x3 x4 x5 x6 h = some (rv, hz)) : V X G RX12 cX12_goRoster 9 (none) DD 0 0 (QR X G false o none hz) false o 204 [(0, .ref (xa X 251)), (1, .int x1), (2, .int x2), (3, .int x3), (4, .int x4), (5, .int x5), (6, .int x6)] [] h := by
  unfold X12_goRoster_204 at hF
  refine V.iinc (v := (x6 + (1))) 6 [(6, _), (0, _), (1, _), (2, _), (3, _), (4, _), (5, _)] dX12_goRoster_204 rfl rfl (by decide) rfl ?_
  refine V.goto (tgt := 70) dX12_goRoster_207 rfl ?_
  exact V.sub [1, 2, 3, 4, 5, 6, 0] rfl (hK70 _ _ _ _ _ _ _ hF)
def X12_goRoster_171 (n : Nat) (rf : Int32 → Int32 → Int32 → Int32 → Mm → Option (Unit × Mm)) (K70 : Int32 → Int32 → Int32 → Int32 → Int32 → Int32 → Mm → Option (Unit × Mm)) : Nat → Int32 → Int32 → Int32 → Int32 → Int32 → Int32 → Int32 → Mm → Option (Unit × Mm)
  | 0, _, _, _, _, _, _, _, _ => none
  | f + 1, x1, x2, x3, x4, x5, x6, x8, h => (if (30 : Int32) < x8 then (X12_goRoster_204 n rf K70 x1 x2 x3 x4 x5 x6 h) else (if inB (((31 : Int32) * x5) + x8) (aln 269) then (if inB x8 (aln 265) then ((X12_goRoster_171 n rf K70 f) x1 x2 x3 x4 x5 x6 (x8 + (1)) (wI h 265 x8.toNatClampNeg (h.1 269 (((31 : Int32) * x5) + x8).toNatClampNeg))) else none) else none))
set_option maxRecDepth 100000 in
set_option maxHeartbeats 4000000 in
theorem v_X12_goRoster_171 {X : WX} {G : GX} {o : Mm} {n : Nat} {rf : Int32 → Int32 → Int32 → Int32 → Mm → Option (Unit × Mm)} {dr : Nat} (hdr : 93 ≤ dr) (hrf : ∀ (x1 : Int32) (x2 : Int32) (x3 : Int32) (x4 : Int32)  (h : Mm) (r : Unit) (h2 : Mm), rf x1 x2 x3 x4 h = some (r, h2) → Sat X yX12_goRoster cX12_goRoster 9 (none) dr [.ref (xa X 251), .int x1, .int x2, .int x3, .int x4] false o h none h2) {DD : Nat} (hDD : dr + 1 ≤ DD) {K70 : Int32 → Int32 → Int32 → Int32 → Int32 → Int32 → Mm → Option (Unit × Mm)} {rv : Unit} {hz : Mm} (hK70 : ∀ (x1 : Int32) (x2 : Int32) (x3 : Int32) (x4 : Int32) (x5 : Int32) (x6 : Int32) (h : Mm), K70 x1 x2 x3 x4 x5 x6 h = some (rv, hz) → V X G RX12 cX12_goRoster 9 (none) DD 0 0 (QR X G false o none hz) false o 70 [(0, .ref (xa X 251)), (1, .int x1), (2, .int x2), (3, .int x3), (4, .int x4), (5, .int x5), (6, .int x6)] [] h) : ∀ (f : Nat) (x1 : Int32) (x2 : Int32) (x3 : Int32) (x4 : Int32) (x5 : Int32) (x6 : Int32) (x8 : Int32) (h : Mm), X12_goRoster_171 n rf K70 f x1 x2 x3 x4 x5 x6 x8 h = some (rv, hz) → V X G RX12 cX12_goRoster 9 (none) DD 0 0 (QR X G false o none hz) false o 171 [(0, .ref (xa X 251)), (1, .int x1), (2, .int x2), (3, .int x3), (4, .int x4), (5, .int x5), (6, .int x6), (8, .int x8)] [] h := by
  intro f
  induction f with
  | zero => intro x1 x2 x3 x4 x5 x6 x8 h hF; exact nomatch (show (none : Option (Unit × Mm)) = some (rv, hz) from hF)
  | succ f ih =>
    intro x1 x2 x3 x4 x5 x6 x8 h hF
    unfold X12_goRoster_171 at hF
    refine V.iload 7 dX12_goRoster_171 rfl ?_
    refine V.bipush (v := 30) dX12_goRoster_173 (by decide) ?_
    refine V.icmp_gt (tgt := 204) dX12_goRoster_175 rfl (fun c => ?_) (fun c => ?_)
    · replace hF := ip c hF
      exact V.sub [0, 1, 2, 3, 4, 5, 6] rfl (v_X12_goRoster_204 hdr hrf hDD hK70 hF)
    · replace hF := iq c hF
      refine V.aload_n 0 dX12_goRoster_178 rfl rfl ?_
      refine V.getR (v := 265) fl_X12_64 sh_251 rfl fx_251_33 (by decide) dX12_goRoster_179 ?_
      refine V.iload 7 dX12_goRoster_182 rfl ?_
      refine V.aload_n 0 dX12_goRoster_184 rfl rfl ?_
      refine V.getR (v := 269) fl_X12_81 sh_251 rfl fx_251_43 (by decide) dX12_goRoster_185 ?_
      refine V.bipush (v := 31) dX12_goRoster_188 (by decide) ?_
      refine V.iload 5 dX12_goRoster_190 rfl ?_
      refine V.imul dX12_goRoster_192 ?_
      refine V.iload 7 dX12_goRoster_193 rfl ?_
      refine V.iadd dX12_goRoster_195 ?_
      obtain ⟨hk, hF⟩ := ck hF
      refine V.iald io_269 hk dX12_goRoster_196 ?_
      obtain ⟨hk, hF⟩ := ck hF
      refine V.iast io_265 hk dX12_goRoster_197 ?_
      refine V.iinc (v := (x8 + (1))) 7 [(8, _), (0, _), (1, _), (2, _), (3, _), (4, _), (5, _), (6, _)] dX12_goRoster_198 rfl rfl (by decide) rfl ?_
      refine V.goto (tgt := 171) dX12_goRoster_201 rfl ?_
      exact V.sub [1, 2, 3, 4, 5, 6, 7, 0] rfl (ih _ _ _ _ _ _ _ _ hF)
def X12_goRoster_133 (n : Nat) (rf : Int32 → Int32 → Int32 → Int32 → Mm → Option (Unit × Mm)) (K70 : Int32 → Int32 → Int32 → Int32 → Int32 → Int32 → Mm → Option (Unit × Mm)) (x1 : Int32) (x2 : Int32) (x3 : Int32) (x4 : Int32) (x5 : Int32) (x6 : Int32) (h : Mm) : Option (Unit × Mm) := (bd (X12_goNight n 265 h) (fun r73 h75 => (bd (rf x1 (x2 &&& (((1 : Int32) <<< (x6 &&& 31)) ^^^ (-1 : Int32))) (x3 + r73) (((10 : Int32) * x4) + x6) h75) (fun _ h78 => (X12_goRoster_171 n rf K70 n x1 x2 x3 x4 x5 x6 (0 : Int32) h78)))))
set_option maxRecDepth 100000 in
set_option maxHeartbeats 4000000 in
theorem v_X12_goRoster_133 {X : WX} {G : GX} {o : Mm} {n : Nat} {rf : Int32 → Int32 → Int32 → Int32 → Mm → Option (Unit × Mm)} {dr : Nat} (hdr : 93 ≤ dr) (hrf : ∀ (x1 : Int32) (x2 : Int32) (x3 : Int32) (x4 : Int32)  (h : Mm) (r : Unit) (h2 : Mm), rf x1 x2 x3 x4 h = some (r, h2) → Sat X yX12_goRoster cX12_goRoster 9 (none) dr [.ref (xa X 251), .int x1, .int x2, .int x3, .int x4] false o h none h2) {DD : Nat} (hDD : dr + 1 ≤ DD) {K70 : Int32 → Int32 → Int32 → Int32 → Int32 → Int32 → Mm → Option (Unit × Mm)} {rv : Unit} {hz : Mm} (hK70 : ∀ (x1 : Int32) (x2 : Int32) (x3 : Int32) (x4 : Int32) (x5 : Int32) (x6 : Int32) (h : Mm), K70 x1 x2 x3 x4 x5 x6 h = some (rv, hz) → V X G RX12 cX12_goRoster 9 (none) DD 0 0 (QR X G false o none hz) false o 70 [(0, .ref (xa X 251)), (1, .int x1), (2, .int x2), (3, .int x3), (4, .int x4), (5, .int x5), (6, .int x6)] [] h) {x1 : Int32} {x2 : Int32} {x3 : Int32} {x4 : Int32} {x5 : Int32} {x6 : Int32} {h : Mm} (hF : X12_goRoster_133 n rf K70 x1 x2 x3 x4 x5 x6 h = some (rv, hz)) : V X G RX12 cX12_goRoster 9 (none) DD 0 0 (QR X G false o none hz) false o 133 [(0, .ref (xa X 251)), (1, .int x1), (2, .int x2), (3, .int x3), (4, .int x4), (5, .int x5), (6, .int x6)] [] h := by
  unfold X12_goRoster_133 at hF
  refine V.aload_n 0 dX12_goRoster_133 rfl rfl ?_
  refine V.aload_n 0 dX12_goRoster_134 rfl rfl ?_
  refine V.getR (v := 265) fl_X12_64 sh_251 rfl fx_251_33 (by decide) dX12_goRoster_135 ?_
  obtain ⟨r73, h75, hc74, hF⟩ := bd_s hF
  refine V.callVi mf_X12_goNight ml_X12_377 sh_251 (s_X12_goNight io_265 hc74) (by omega) rfl rfl (Nat.le_of_ble_eq_true rfl) dX12_goRoster_138 ?_
  refine V.istore [(7, _), (0, _), (1, _), (2, _), (3, _), (4, _), (5, _), (6, _)] dX12_goRoster_141 (by decide) rfl ?_
  refine V.aload_n 1 dX12_goRoster_143 rfl rfl ?_
  refine V.iload_n 2 dX12_goRoster_144 rfl rfl ?_
  refine V.iload_n 3 dX12_goRoster_145 rfl rfl ?_
  refine V.iconst (v := 1) dX12_goRoster_146 rfl ?_
  refine V.iload 7 dX12_goRoster_147 rfl ?_
  refine V.ishl dX12_goRoster_149 ?_
  refine V.iconst (v := -1) dX12_goRoster_150 rfl ?_
  refine V.ixor dX12_goRoster_151 ?_
  refine V.iand dX12_goRoster_152 ?_
  refine V.iload_n 4 dX12_goRoster_153 rfl rfl ?_
  refine V.iload 0 dX12_goRoster_154 rfl ?_
  refine V.iadd dX12_goRoster_156 ?_
  refine V.bipush (v := 10) dX12_goRoster_157 (by decide) ?_
  refine V.iload 5 dX12_goRoster_159 rfl ?_
  refine V.imul dX12_goRoster_161 ?_
  refine V.iload 7 dX12_goRoster_162 rfl ?_
  refine V.iadd dX12_goRoster_164 ?_
  obtain ⟨r76, h78, hc77, hF⟩ := bd_s hF
  refine V.callVv mf_X12_goRoster ml_X12_433 sh_251 (hrf _ _ _ _ _ _ _ hc77) (by omega) rfl rfl (Nat.le_of_ble_eq_true rfl) dX12_goRoster_165 ?_
  refine V.iconst (v := 0) dX12_goRoster_168 rfl ?_
  refine V.istore [(8, _), (7, _), (0, _), (1, _), (2, _), (3, _), (4, _), (5, _), (6, _)] dX12_goRoster_169 (by decide) rfl ?_
  exact V.sub [2, 3, 4, 5, 6, 7, 8, 0] rfl (v_X12_goRoster_171 hdr hrf hDD hK70 n _ _ _ _ _ _ _ _ hF)
def X12_goRoster_70 (n : Nat) (rf : Int32 → Int32 → Int32 → Int32 → Mm → Option (Unit × Mm)) : Nat → Int32 → Int32 → Int32 → Int32 → Int32 → Int32 → Mm → Option (Unit × Mm)
  | 0, _, _, _, _, _, _, _ => none
  | f + 1, x1, x2, x3, x4, x5, x6, h => (if (h.1 251 27) ≤ x6 then (some ((), h)) else (bp (X12_has x2 x6 h) (fun r79 => (if r79 = true then (if inB (23 : Int32) (aln 265) then (bp (X12_pagesOf x1 (wI h 265 (23 : Int32).toNatClampNeg x6)) (fun r81 => (bp (X12_mayRead 265 x1 r81 false (wI h 265 (23 : Int32).toNatClampNeg x6)) (fun r83 => (if r83 = true then (bp (X12_pagesOf x1 (wI h 265 (23 : Int32).toNatClampNeg x6)) (fun r85 => (bd (X12_reads n 265 x1 r85 false (wI h 265 (23 : Int32).toNatClampNeg x6)) (fun _ h89 => (X12_goRoster_133 n rf (X12_goRoster_70 n rf f) x1 x2 x3 x4 x5 x6 h89))))) else (X12_goRoster_133 n rf (X12_goRoster_70 n rf f) x1 x2 x3 x4 x5 x6 (wI h 265 (23 : Int32).toNatClampNeg x6))))))) else none) else (X12_goRoster_204 n rf (X12_goRoster_70 n rf f) x1 x2 x3 x4 x5 x6 h)))))
set_option maxRecDepth 100000 in
set_option maxHeartbeats 4000000 in
theorem v_X12_goRoster_70 {X : WX} {G : GX} {o : Mm} {n : Nat} {rf : Int32 → Int32 → Int32 → Int32 → Mm → Option (Unit × Mm)} {dr : Nat} (hdr : 93 ≤ dr) (hrf : ∀ (x1 : Int32) (x2 : Int32) (x3 : Int32) (x4 : Int32)  (h : Mm) (r : Unit) (h2 : Mm), rf x1 x2 x3 x4 h = some (r, h2) → Sat X yX12_goRoster cX12_goRoster 9 (none) dr [.ref (xa X 251), .int x1, .int x2, .int x3, .int x4] false o h none h2) {DD : Nat} (hDD : dr + 1 ≤ DD) {rv : Unit} {hz : Mm} : ∀ (f : Nat) (x1 : Int32) (x2 : Int32) (x3 : Int32) (x4 : Int32) (x5 : Int32) (x6 : Int32) (h : Mm), X12_goRoster_70 n rf f x1 x2 x3 x4 x5 x6 h = some (rv, hz) → V X G RX12 cX12_goRoster 9 (none) DD 0 0 (QR X G false o none hz) false o 70 [(0, .ref (xa X 251)), (1, .int x1), (2, .int x2), (3, .int x3), (4, .int x4), (5, .int x5), (6, .int x6)] [] h := by
  intro f
  induction f with
  | zero => intro x1 x2 x3 x4 x5 x6 h hF; exact nomatch (show (none : Option (Unit × Mm)) = some (rv, hz) from hF)
  | succ f ih =>
    intro x1 x2 x3 x4 x5 x6 h hF
    unfold X12_goRoster_70 at hF
    refine V.iload 6 dX12_goRoster_70 rfl ?_
    refine V.aload_n 0 dX12_goRoster_72 rfl rfl ?_
    refine V.getI fl_X12_291 sh_251 rfl km_251 dX12_goRoster_73 ?_
    refine V.icmp_ge (tgt := 210) dX12_goRoster_76 rfl (fun c => ?_) (fun c => ?_)
    · replace hF := ip c hF
      cases hF
      exact V.vret dX12_goRoster_210
    · replace hF := iq c hF
      refine V.iload_n 2 dX12_goRoster_79 rfl rfl ?_
      refine V.iload 6 dX12_goRoster_80 rfl ?_
      obtain ⟨r79, hc80, hF⟩ := bp_s hF
      refine V.callSi mf_X12_has ml_X12_226 (s_X12_has hc80) (by omega) rfl rfl (Nat.le_of_ble_eq_true rfl) dX12_goRoster_82 ?_
      refine V.ifz_ne (tgt := 91) dX12_goRoster_85 rfl (fun c => ?_) (fun c => ?_)
      · replace hF := ip c hF
        refine V.aload_n 0 dX12_goRoster_91 rfl rfl ?_
        refine V.getR (v := 265) fl_X12_64 sh_251 rfl fx_251_33 (by decide) dX12_goRoster_92 ?_
        refine V.bipush (v := 23) dX12_goRoster_95 (by decide) ?_
        refine V.iload 6 dX12_goRoster_97 rfl ?_
        obtain ⟨hk, hF⟩ := ck hF
        refine V.iast io_265 hk dX12_goRoster_99 ?_
        refine V.aload_n 0 dX12_goRoster_100 rfl rfl ?_
        refine V.aload_n 0 dX12_goRoster_101 rfl rfl ?_
        refine V.getR (v := 265) fl_X12_64 sh_251 rfl fx_251_33 (by decide) dX12_goRoster_102 ?_
        refine V.iload_n 1 dX12_goRoster_105 rfl rfl ?_
        refine V.aload_n 0 dX12_goRoster_106 rfl rfl ?_
        refine V.iload_n 1 dX12_goRoster_107 rfl rfl ?_
        obtain ⟨r81, hc82, hF⟩ := bp_s hF
        refine V.callVi mf_X12_pagesOf ml_X12_322 sh_251 (s_X12_pagesOf hc82) (by omega) rfl rfl (Nat.le_of_ble_eq_true rfl) dX12_goRoster_108 ?_
        refine V.iconst (v := 0) dX12_goRoster_111 rfl ?_
        obtain ⟨r83, hc84, hF⟩ := bp_s hF
        refine V.callVi mf_X12_mayRead ml_X12_359 sh_251 (s_X12_mayRead io_265 hc84) (by omega) rfl rfl (Nat.le_of_ble_eq_true rfl) dX12_goRoster_112 ?_
        refine V.ifz_eq (tgt := 133) dX12_goRoster_115 rfl (fun c => ?_) (fun c => ?_)
        · replace hF := iq c hF
          exact (v_X12_goRoster_133 hdr hrf hDD ih hF)
        · replace hF := ip c hF
          refine V.aload_n 0 dX12_goRoster_118 rfl rfl ?_
          refine V.aload_n 0 dX12_goRoster_119 rfl rfl ?_
          refine V.getR (v := 265) fl_X12_64 sh_251 rfl fx_251_33 (by decide) dX12_goRoster_120 ?_
          refine V.iload_n 1 dX12_goRoster_123 rfl rfl ?_
          refine V.aload_n 0 dX12_goRoster_124 rfl rfl ?_
          refine V.iload_n 1 dX12_goRoster_125 rfl rfl ?_
          obtain ⟨r85, hc86, hF⟩ := bp_s hF
          refine V.callVi mf_X12_pagesOf ml_X12_322 sh_251 (s_X12_pagesOf hc86) (by omega) rfl rfl (Nat.le_of_ble_eq_true rfl) dX12_goRoster_126 ?_
          refine V.iconst (v := 0) dX12_goRoster_129 rfl ?_
          obtain ⟨r87, h89, hc88, hF⟩ := bd_s hF
          refine V.callVv mf_X12_reads ml_X12_365 sh_251 (s_X12_reads io_265 hc88) (by omega) rfl rfl (Nat.le_of_ble_eq_true rfl) dX12_goRoster_130 ?_
          exact (v_X12_goRoster_133 hdr hrf hDD ih hF)
      · replace hF := iq c hF
        refine V.goto (tgt := 204) dX12_goRoster_88 rfl ?_
        exact (v_X12_goRoster_204 hdr hrf hDD ih hF)
def X12_goRoster_34 (n : Nat) (rf : Int32 → Int32 → Int32 → Int32 → Mm → Option (Unit × Mm)) : Nat → Int32 → Int32 → Int32 → Int32 → Int32 → Int32 → Mm → Option (Unit × Mm)
  | 0, _, _, _, _, _, _, _ => none
  | f + 1, x1, x2, x3, x4, x5, x6, h => (if (30 : Int32) < x6 then (X12_goRoster_70 n rf n x1 x2 x3 x4 x5 (0 : Int32) h) else (if inB x6 (aln 265) then (if inB (((31 : Int32) * x5) + x6) (aln 269) then ((X12_goRoster_34 n rf f) x1 x2 x3 x4 x5 (x6 + (1)) (wI h 269 (((31 : Int32) * x5) + x6).toNatClampNeg (h.1 265 x6.toNatClampNeg))) else none) else none))
set_option maxRecDepth 100000 in
set_option maxHeartbeats 4000000 in
theorem v_X12_goRoster_34 {X : WX} {G : GX} {o : Mm} {n : Nat} {rf : Int32 → Int32 → Int32 → Int32 → Mm → Option (Unit × Mm)} {dr : Nat} (hdr : 93 ≤ dr) (hrf : ∀ (x1 : Int32) (x2 : Int32) (x3 : Int32) (x4 : Int32)  (h : Mm) (r : Unit) (h2 : Mm), rf x1 x2 x3 x4 h = some (r, h2) → Sat X yX12_goRoster cX12_goRoster 9 (none) dr [.ref (xa X 251), .int x1, .int x2, .int x3, .int x4] false o h none h2) {DD : Nat} (hDD : dr + 1 ≤ DD) {rv : Unit} {hz : Mm} : ∀ (f : Nat) (x1 : Int32) (x2 : Int32) (x3 : Int32) (x4 : Int32) (x5 : Int32) (x6 : Int32) (h : Mm), X12_goRoster_34 n rf f x1 x2 x3 x4 x5 x6 h = some (rv, hz) → V X G RX12 cX12_goRoster 9 (none) DD 0 0 (QR X G false o none hz) false o 34 [(0, .ref (xa X 251)), (1, .int x1), (2, .int x2), (3, .int x3), (4, .int x4), (5, .int x5), (6, .int x6)] [] h := by
  intro f
  induction f with
  | zero => intro x1 x2 x3 x4 x5 x6 h hF; exact nomatch (show (none : Option (Unit × Mm)) = some (rv, hz) from hF)
  | succ f ih =>
    intro x1 x2 x3 x4 x5 x6 h hF
    unfold X12_goRoster_34 at hF
    refine V.iload 6 dX12_goRoster_34 rfl ?_
    refine V.bipush (v := 30) dX12_goRoster_36 (by decide) ?_
    refine V.icmp_gt (tgt := 67) dX12_goRoster_38 rfl (fun c => ?_) (fun c => ?_)
    · replace hF := ip c hF
      refine V.iconst (v := 0) dX12_goRoster_67 rfl ?_
      refine V.istore [(6, _), (0, _), (1, _), (2, _), (3, _), (4, _), (5, _)] dX12_goRoster_68 (by decide) rfl ?_
      exact V.sub [1, 2, 3, 4, 5, 6, 0] rfl (v_X12_goRoster_70 hdr hrf hDD n _ _ _ _ _ _ _ hF)
    · replace hF := iq c hF
      refine V.aload_n 0 dX12_goRoster_41 rfl rfl ?_
      refine V.getR (v := 269) fl_X12_81 sh_251 rfl fx_251_43 (by decide) dX12_goRoster_42 ?_
      refine V.bipush (v := 31) dX12_goRoster_45 (by decide) ?_
      refine V.iload 5 dX12_goRoster_47 rfl ?_
      refine V.imul dX12_goRoster_49 ?_
      refine V.iload 6 dX12_goRoster_50 rfl ?_
      refine V.iadd dX12_goRoster_52 ?_
      refine V.aload_n 0 dX12_goRoster_53 rfl rfl ?_
      refine V.getR (v := 265) fl_X12_64 sh_251 rfl fx_251_33 (by decide) dX12_goRoster_54 ?_
      refine V.iload 6 dX12_goRoster_57 rfl ?_
      obtain ⟨hk, hF⟩ := ck hF
      refine V.iald io_265 hk dX12_goRoster_59 ?_
      obtain ⟨hk, hF⟩ := ck hF
      refine V.iast io_269 hk dX12_goRoster_60 ?_
      refine V.iinc (v := (x6 + (1))) 6 [(6, _), (0, _), (1, _), (2, _), (3, _), (4, _), (5, _)] dX12_goRoster_61 rfl rfl (by decide) rfl ?_
      refine V.goto (tgt := 34) dX12_goRoster_64 rfl ?_
      exact V.sub [1, 2, 3, 4, 5, 6, 0] rfl (ih _ _ _ _ _ _ _ hF)
def X12_goRoster_b (n : Nat) (rf : Int32 → Int32 → Int32 → Int32 → Mm → Option (Unit × Mm)) (x1 : Int32) (x2 : Int32) (x3 : Int32) (x4 : Int32) (h : Mm) : Option (Unit × Mm) := (if x2 = 0 then (if (h.1 251 45) < x3 then (some ((), (wI (wI h 251 45 x3) 251 44 x4))) else (some ((), h))) else (bp (J6_bitCount_0f7a4 x2 h) (fun r90 => (X12_goRoster_34 n rf n x1 x2 x3 x4 r90 (0 : Int32) h))))
set_option maxRecDepth 100000 in
set_option maxHeartbeats 4000000 in
theorem s_X12_goRoster_b {X : WX} {o : Mm} {n : Nat} {rf : Int32 → Int32 → Int32 → Int32 → Mm → Option (Unit × Mm)} {dr : Nat} (hdr : 93 ≤ dr) (hrf : ∀ (x1 : Int32) (x2 : Int32) (x3 : Int32) (x4 : Int32)  (h : Mm) (r : Unit) (h2 : Mm), rf x1 x2 x3 x4 h = some (r, h2) → Sat X yX12_goRoster cX12_goRoster 9 (none) dr [.ref (xa X 251), .int x1, .int x2, .int x3, .int x4] false o h none h2) {DD : Nat} (hDD : dr + 1 ≤ DD) {x1 : Int32} {x2 : Int32} {x3 : Int32} {x4 : Int32} {rv : Unit} {hz : Mm} {h : Mm} (hF : X12_goRoster_b n rf x1 x2 x3 x4 h = some (rv, hz)) : Sat X yX12_goRoster cX12_goRoster 9 (none) DD [.ref (xa X 251), .int x1, .int x2, .int x3, .int x4] false o h none hz := by
  unfold X12_goRoster_b at hF
  refine Sat.mk (own := RX12) rfl (by decide +kernel) (Nat.le_of_ble_eq_true rfl) (fun G => ?_)
  refine V.sub (lv2 := [(0, _), (1, _), (2, _), (3, _), (4, _)]) [0, 1, 2, 3, 4] rfl ?_
  refine V.iload_n 2 dX12_goRoster_0 rfl rfl ?_
  refine V.if_ne (tgt := 25) dX12_goRoster_1 rfl (fun c => ?_) (fun c => ?_)
  · replace hF := iq c hF
    refine V.iload_n 2 dX12_goRoster_25 rfl rfl ?_
    obtain ⟨r90, hc91, hF⟩ := bp_s hF
    refine V.callSi mf_J6_bitCount_0f7a4 ml_X12_428 (s_J6_bitCount_0f7a4 hc91) (by omega) rfl rfl (Nat.le_of_ble_eq_true rfl) dX12_goRoster_26 ?_
    refine V.istore [(5, _), (0, _), (1, _), (2, _), (3, _), (4, _)] dX12_goRoster_29 (by decide) rfl ?_
    refine V.iconst (v := 0) dX12_goRoster_31 rfl ?_
    refine V.istore [(6, _), (5, _), (0, _), (1, _), (2, _), (3, _), (4, _)] dX12_goRoster_32 (by decide) rfl ?_
    exact V.sub [2, 3, 4, 5, 6, 1, 0] rfl (v_X12_goRoster_34 hdr hrf hDD n _ _ _ _ _ _ _ hF)
  · replace hF := ip c hF
    refine V.iload_n 3 dX12_goRoster_4 rfl rfl ?_
    refine V.aload_n 0 dX12_goRoster_5 rfl rfl ?_
    refine V.getI fl_X12_422 sh_251 rfl km_251 dX12_goRoster_6 ?_
    refine V.icmp_gt (tgt := 13) dX12_goRoster_9 rfl (fun c => ?_) (fun c => ?_)
    · replace hF := ip c hF
      refine V.aload_n 0 dX12_goRoster_13 rfl rfl ?_
      refine V.iload_n 3 dX12_goRoster_14 rfl rfl ?_
      refine V.putI fl_X12_422 rfl (tyX12_ok 45 (by decide)) rfl rfl sh_251 rfl km_251 dX12_goRoster_15 ?_
      refine V.aload_n 0 dX12_goRoster_18 rfl rfl ?_
      refine V.iload 4 dX12_goRoster_19 rfl ?_
      refine V.putI fl_X12_425 rfl (tyX12_ok 44 (by decide)) rfl rfl sh_251 rfl km_251 dX12_goRoster_21 ?_
      cases hF
      exact V.vret dX12_goRoster_24
    · replace hF := iq c hF
      cases hF
      exact V.vret dX12_goRoster_12
def X12_goRoster (n : Nat) : Nat → Int32 → Int32 → Int32 → Int32 → Mm → Option (Unit × Mm)
  | 0, _, _, _, _, _ => none
  | e + 1, x1, x2, x3, x4, h => X12_goRoster_b n (X12_goRoster n e) x1 x2 x3 x4 h
set_option maxRecDepth 100000 in
set_option maxHeartbeats 4000000 in
theorem s_X12_goRoster {X : WX} {o : Mm} {n : Nat} : ∀ (e : Nat) (x1 : Int32) (x2 : Int32) (x3 : Int32) (x4 : Int32) (h : Mm) (rv : Unit) (hz : Mm), X12_goRoster n e x1 x2 x3 x4 h = some (rv, hz) → Sat X yX12_goRoster cX12_goRoster 9 (none) (93 + 2 * e) [.ref (xa X 251), .int x1, .int x2, .int x3, .int x4] false o h none hz := by
  intro e
  induction e with
  | zero => intro x1 x2 x3 x4 h rv hz hF; exact nomatch (show (none : Option (Unit × Mm)) = some (rv, hz) from hF)
  | succ e ih => intro x1 x2 x3 x4 h rv hz hF; exact s_X12_goRoster_b (dr := 93 + 2 * e) (by omega) ih (by omega)  hF
/-! MonsterCotModel.roster -/
theorem dX12_roster_0 : decode cX12_roster 0 = .ok (.aload_n 0, 1) := by decide +kernel
theorem dX12_roster_1 : decode cX12_roster 1 = .ok (.iconst 0, 1) := by decide +kernel
theorem dX12_roster_2 : decode cX12_roster 2 = .ok (.putfield 93, 3) := by decide +kernel
theorem dX12_roster_5 : decode cX12_roster 5 = .ok (.aload_n 0, 1) := by decide +kernel
theorem dX12_roster_6 : decode cX12_roster 6 = .ok (.iload_n 1, 1) := by decide +kernel
theorem dX12_roster_7 : decode cX12_roster 7 = .ok (.invokevirtual 319, 3) := by decide +kernel
theorem dX12_roster_10 : decode cX12_roster 10 = .ok (.ifCond .eq 13, 3) := by decide +kernel
theorem dX12_roster_13 : decode cX12_roster 13 = .ok (.iload_n 2, 1) := by decide +kernel
theorem dX12_roster_14 : decode cX12_roster 14 = .ok (.i2l, 1) := by decide +kernel
theorem dX12_roster_15 : decode cX12_roster 15 = .ok (.lconst 0, 1) := by decide +kernel
theorem dX12_roster_16 : decode cX12_roster 16 = .ok (.lconst 1, 1) := by decide +kernel
theorem dX12_roster_17 : decode cX12_roster 17 = .ok (.invokestatic 214, 3) := by decide +kernel
theorem dX12_roster_20 : decode cX12_roster 20 = .ok (.ifCond .ne 5, 3) := by decide +kernel
theorem dX12_roster_23 : decode cX12_roster 23 = .ok (.iconst (-1), 1) := by decide +kernel
theorem dX12_roster_24 : decode cX12_roster 24 = .ok (.ireturn, 1) := by decide +kernel
theorem dX12_roster_25 : decode cX12_roster 25 = .ok (.aload_n 0, 1) := by decide +kernel
theorem dX12_roster_26 : decode cX12_roster 26 = .ok (.getfield 61, 3) := by decide +kernel
theorem dX12_roster_29 : decode cX12_roster 29 = .ok (.aload_n 0, 1) := by decide +kernel
theorem dX12_roster_30 : decode cX12_roster 30 = .ok (.getfield 64, 3) := by decide +kernel
theorem dX12_roster_33 : decode cX12_roster 33 = .ok (.invokestatic 401, 3) := by decide +kernel
theorem dX12_roster_36 : decode cX12_roster 36 = .ok (.aload_n 0, 1) := by decide +kernel
theorem dX12_roster_37 : decode cX12_roster 37 = .ok (.iconst (-1), 1) := by decide +kernel
theorem dX12_roster_38 : decode cX12_roster 38 = .ok (.putfield 425, 3) := by decide +kernel
theorem dX12_roster_41 : decode cX12_roster 41 = .ok (.aload_n 0, 1) := by decide +kernel
theorem dX12_roster_42 : decode cX12_roster 42 = .ok (.iconst (-1), 1) := by decide +kernel
theorem dX12_roster_43 : decode cX12_roster 43 = .ok (.putfield 422, 3) := by decide +kernel
theorem dX12_roster_46 : decode cX12_roster 46 = .ok (.aload_n 0, 1) := by decide +kernel
theorem dX12_roster_47 : decode cX12_roster 47 = .ok (.iload_n 1, 1) := by decide +kernel
theorem dX12_roster_48 : decode cX12_roster 48 = .ok (.iconst 1, 1) := by decide +kernel
theorem dX12_roster_49 : decode cX12_roster 49 = .ok (.aload_n 0, 1) := by decide +kernel
theorem dX12_roster_50 : decode cX12_roster 50 = .ok (.getfield 291, 3) := by decide +kernel
theorem dX12_roster_53 : decode cX12_roster 53 = .ok (.ishl, 1) := by decide +kernel
theorem dX12_roster_54 : decode cX12_roster 54 = .ok (.iconst 1, 1) := by decide +kernel
theorem dX12_roster_55 : decode cX12_roster 55 = .ok (.isub, 1) := by decide +kernel
theorem dX12_roster_56 : decode cX12_roster 56 = .ok (.iconst 0, 1) := by decide +kernel
theorem dX12_roster_57 : decode cX12_roster 57 = .ok (.iconst 0, 1) := by decide +kernel
theorem dX12_roster_58 : decode cX12_roster 58 = .ok (.invokevirtual 433, 3) := by decide +kernel
theorem dX12_roster_61 : decode cX12_roster 61 = .ok (.iload_n 2, 1) := by decide +kernel
theorem dX12_roster_62 : decode cX12_roster 62 = .ok (.ifCond .ne 10, 3) := by decide +kernel
theorem dX12_roster_65 : decode cX12_roster 65 = .ok (.aload_n 0, 1) := by decide +kernel
theorem dX12_roster_66 : decode cX12_roster 66 = .ok (.getfield 425, 3) := by decide +kernel
theorem dX12_roster_69 : decode cX12_roster 69 = .ok (.goto 7, 3) := by decide +kernel
theorem dX12_roster_72 : decode cX12_roster 72 = .ok (.aload_n 0, 1) := by decide +kernel
theorem dX12_roster_73 : decode cX12_roster 73 = .ok (.getfield 422, 3) := by decide +kernel
theorem dX12_roster_76 : decode cX12_roster 76 = .ok (.ireturn, 1) := by decide +kernel
def X12_roster (n : Nat) (x1 : Int32) (x2 : Int32) (h : Mm) : Option (Int32 × Mm) := (bp (X12_isBook x1 (wI h 251 0 (0 : Int32))) (fun r11 => (if r11 = true then (bp (X12_isIn x2.toInt64 (0 : Int64) (1 : Int64) (wI h 251 0 (0 : Int32))) (fun r13 => (if r13 = true then (bd (X12_copy n 264 265 (wI h 251 0 (0 : Int32))) (fun _ h17 => (bd (X12_goRoster n 9 x1 (((1 : Int32) <<< (((wI (wI h17 251 44 (-1 : Int32)) 251 45 (-1 : Int32)).1 251 27) &&& 31)) - (1 : Int32)) (0 : Int32) (0 : Int32) (wI (wI h17 251 44 (-1 : Int32)) 251 45 (-1 : Int32))) (fun _ h20 => (if x2 = 0 then (some ((h20.1 251 44), h20)) else (some ((h20.1 251 45), h20))))))) else (some ((-1 : Int32), (wI h 251 0 (0 : Int32))))))) else (some ((-1 : Int32), (wI h 251 0 (0 : Int32)))))))
set_option maxRecDepth 100000 in
set_option maxHeartbeats 4000000 in
theorem s_X12_roster {X : WX} {o : Mm} {n : Nat} {x1 : Int32} {x2 : Int32} {rv : Int32} {hz : Mm} {h : Mm} (hF : X12_roster n x1 x2 h = some (rv, hz)) : Sat X yX12_roster cX12_roster 3 (some .int) 112 [.ref (xa X 251), .int x1, .int x2] false o h (some (.int rv)) hz := by
  unfold X12_roster at hF
  refine Sat.mk (own := RX12) rfl (by decide +kernel) (Nat.le_of_ble_eq_true rfl) (fun G => ?_)
  refine V.sub (lv2 := [(0, _), (1, _), (2, _)]) [0, 1, 2] rfl ?_
  refine V.aload_n 0 dX12_roster_0 rfl rfl ?_
  refine V.iconst (v := 0) dX12_roster_1 rfl ?_
  refine V.putI fl_X12_93 rfl (tyX12_ok 0 (by decide)) rfl rfl sh_251 rfl km_251 dX12_roster_2 ?_
  refine V.aload_n 0 dX12_roster_5 rfl rfl ?_
  refine V.iload_n 1 dX12_roster_6 rfl rfl ?_
  obtain ⟨r11, hc12, hF⟩ := bp_s hF
  refine V.callVi mf_X12_isBook ml_X12_319 sh_251 (s_X12_isBook hc12) (by decide) rfl rfl (Nat.le_of_ble_eq_true rfl) dX12_roster_7 ?_
  refine V.ifz_eq (tgt := 23) dX12_roster_10 rfl (fun c => ?_) (fun c => ?_)
  · replace hF := iq c hF
    refine V.iconst (v := -1) dX12_roster_23 rfl ?_
    cases hF
    exact V.iret dX12_roster_24
  · replace hF := ip c hF
    refine V.iload_n 2 dX12_roster_13 rfl rfl ?_
    refine V.i2l dX12_roster_14 ?_
    refine V.lconst (v := 0) dX12_roster_15 rfl ?_
    refine V.lconst (v := 1) dX12_roster_16 rfl ?_
    obtain ⟨r13, hc14, hF⟩ := bp_s hF
    refine V.callSi mf_X12_isIn ml_X12_214 (s_X12_isIn hc14) (by decide) rfl rfl (Nat.le_of_ble_eq_true rfl) dX12_roster_17 ?_
    refine V.ifz_ne (tgt := 25) dX12_roster_20 rfl (fun c => ?_) (fun c => ?_)
    · replace hF := ip c hF
      refine V.aload_n 0 dX12_roster_25 rfl rfl ?_
      refine V.getR (v := 264) fl_X12_61 sh_251 rfl fx_251_32 (by decide) dX12_roster_26 ?_
      refine V.aload_n 0 dX12_roster_29 rfl rfl ?_
      refine V.getR (v := 265) fl_X12_64 sh_251 rfl fx_251_33 (by decide) dX12_roster_30 ?_
      obtain ⟨r15, h17, hc16, hF⟩ := bd_s hF
      refine V.callSv mf_X12_copy ml_X12_401 (s_X12_copy io_264 io_265 hc16) (by decide) rfl rfl (Nat.le_of_ble_eq_true rfl) dX12_roster_33 ?_
      refine V.aload_n 0 dX12_roster_36 rfl rfl ?_
      refine V.iconst (v := -1) dX12_roster_37 rfl ?_
      refine V.putI fl_X12_425 rfl (tyX12_ok 44 (by decide)) rfl rfl sh_251 rfl km_251 dX12_roster_38 ?_
      refine V.aload_n 0 dX12_roster_41 rfl rfl ?_
      refine V.iconst (v := -1) dX12_roster_42 rfl ?_
      refine V.putI fl_X12_422 rfl (tyX12_ok 45 (by decide)) rfl rfl sh_251 rfl km_251 dX12_roster_43 ?_
      refine V.aload_n 0 dX12_roster_46 rfl rfl ?_
      refine V.iload_n 1 dX12_roster_47 rfl rfl ?_
      refine V.iconst (v := 1) dX12_roster_48 rfl ?_
      refine V.aload_n 0 dX12_roster_49 rfl rfl ?_
      refine V.getI fl_X12_291 sh_251 rfl km_251 dX12_roster_50 ?_
      refine V.ishl dX12_roster_53 ?_
      refine V.iconst (v := 1) dX12_roster_54 rfl ?_
      refine V.isub dX12_roster_55 ?_
      refine V.iconst (v := 0) dX12_roster_56 rfl ?_
      refine V.iconst (v := 0) dX12_roster_57 rfl ?_
      obtain ⟨r18, h20, hc19, hF⟩ := bd_s hF
      refine V.callVv mf_X12_goRoster ml_X12_433 sh_251 (s_X12_goRoster 9 _ _ _ _ _ _ _ hc19) (by decide) rfl rfl (Nat.le_of_ble_eq_true rfl) dX12_roster_58 ?_
      refine V.iload_n 2 dX12_roster_61 rfl rfl ?_
      refine V.if_ne (tgt := 72) dX12_roster_62 rfl (fun c => ?_) (fun c => ?_)
      · replace hF := iq c hF
        refine V.aload_n 0 dX12_roster_72 rfl rfl ?_
        refine V.getI fl_X12_422 sh_251 rfl km_251 dX12_roster_73 ?_
        cases hF
        exact V.iret dX12_roster_76
      · replace hF := ip c hF
        refine V.aload_n 0 dX12_roster_65 rfl rfl ?_
        refine V.getI fl_X12_425 sh_251 rfl km_251 dX12_roster_66 ?_
        refine V.goto (tgt := 76) dX12_roster_69 rfl ?_
        cases hF
        exact V.iret dX12_roster_76
    · replace hF := iq c hF
      refine V.iconst (v := -1) dX12_roster_23 rfl ?_
      cases hF
      exact V.iret dX12_roster_24
/-! MonsterCotModel.seen -/
theorem dX12_seen_0 : decode cX12_seen 0 = .ok (.aload_n 0, 1) := by decide +kernel
theorem dX12_seen_1 : decode cX12_seen 1 = .ok (.iconst 0, 1) := by decide +kernel
theorem dX12_seen_2 : decode cX12_seen 2 = .ok (.putfield 93, 3) := by decide +kernel
theorem dX12_seen_5 : decode cX12_seen 5 = .ok (.aload_n 0, 1) := by decide +kernel
theorem dX12_seen_6 : decode cX12_seen 6 = .ok (.iload_n 1, 1) := by decide +kernel
theorem dX12_seen_7 : decode cX12_seen 7 = .ok (.invokevirtual 319, 3) := by decide +kernel
theorem dX12_seen_10 : decode cX12_seen 10 = .ok (.ifCond .eq 48, 3) := by decide +kernel
theorem dX12_seen_13 : decode cX12_seen 13 = .ok (.aload_n 0, 1) := by decide +kernel
theorem dX12_seen_14 : decode cX12_seen 14 = .ok (.iload_n 3, 1) := by decide +kernel
theorem dX12_seen_15 : decode cX12_seen 15 = .ok (.invokevirtual 337, 3) := by decide +kernel
theorem dX12_seen_18 : decode cX12_seen 18 = .ok (.ifCond .eq 40, 3) := by decide +kernel
theorem dX12_seen_21 : decode cX12_seen 21 = .ok (.iload_n 2, 1) := by decide +kernel
theorem dX12_seen_22 : decode cX12_seen 22 = .ok (.i2l, 1) := by decide +kernel
theorem dX12_seen_23 : decode cX12_seen 23 = .ok (.lconst 1, 1) := by decide +kernel
theorem dX12_seen_24 : decode cX12_seen 24 = .ok (.aload_n 0, 1) := by decide +kernel
theorem dX12_seen_25 : decode cX12_seen 25 = .ok (.iload_n 1, 1) := by decide +kernel
theorem dX12_seen_26 : decode cX12_seen 26 = .ok (.invokevirtual 322, 3) := by decide +kernel
theorem dX12_seen_29 : decode cX12_seen 29 = .ok (.i2l, 1) := by decide +kernel
theorem dX12_seen_30 : decode cX12_seen 30 = .ok (.invokestatic 214, 3) := by decide +kernel
theorem dX12_seen_33 : decode cX12_seen 33 = .ok (.ifCond .eq 25, 3) := by decide +kernel
theorem dX12_seen_36 : decode cX12_seen 36 = .ok (.iload 4, 2) := by decide +kernel
theorem dX12_seen_38 : decode cX12_seen 38 = .ok (.i2l, 1) := by decide +kernel
theorem dX12_seen_39 : decode cX12_seen 39 = .ok (.lconst 0, 1) := by decide +kernel
theorem dX12_seen_40 : decode cX12_seen 40 = .ok (.ldc2_w 437, 3) := by decide +kernel
theorem dX12_seen_43 : decode cX12_seen 43 = .ok (.invokestatic 214, 3) := by decide +kernel
theorem dX12_seen_46 : decode cX12_seen 46 = .ok (.ifCond .eq 12, 3) := by decide +kernel
theorem dX12_seen_49 : decode cX12_seen 49 = .ok (.aload_n 0, 1) := by decide +kernel
theorem dX12_seen_50 : decode cX12_seen 50 = .ok (.getfield 294, 3) := by decide +kernel
theorem dX12_seen_53 : decode cX12_seen 53 = .ok (.bipush 10, 2) := by decide +kernel
theorem dX12_seen_55 : decode cX12_seen 55 = .ok (.if_icmp .ne 5, 3) := by decide +kernel
theorem dX12_seen_58 : decode cX12_seen 58 = .ok (.iconst (-1), 1) := by decide +kernel
theorem dX12_seen_59 : decode cX12_seen 59 = .ok (.ireturn, 1) := by decide +kernel
theorem dX12_seen_60 : decode cX12_seen 60 = .ok (.iconst 5, 1) := by decide +kernel
theorem dX12_seen_61 : decode cX12_seen 61 = .ok (.aload_n 0, 1) := by decide +kernel
theorem dX12_seen_62 : decode cX12_seen 62 = .ok (.getfield 294, 3) := by decide +kernel
theorem dX12_seen_65 : decode cX12_seen 65 = .ok (.imul, 1) := by decide +kernel
theorem dX12_seen_66 : decode cX12_seen 66 = .ok (.istore 6, 2) := by decide +kernel
theorem dX12_seen_68 : decode cX12_seen 68 = .ok (.aload_n 0, 1) := by decide +kernel
theorem dX12_seen_69 : decode cX12_seen 69 = .ok (.getfield 84, 3) := by decide +kernel
theorem dX12_seen_72 : decode cX12_seen 72 = .ok (.iload 6, 2) := by decide +kernel
theorem dX12_seen_74 : decode cX12_seen 74 = .ok (.iload_n 1, 1) := by decide +kernel
theorem dX12_seen_75 : decode cX12_seen 75 = .ok (.iastore, 1) := by decide +kernel
theorem dX12_seen_76 : decode cX12_seen 76 = .ok (.aload_n 0, 1) := by decide +kernel
theorem dX12_seen_77 : decode cX12_seen 77 = .ok (.getfield 84, 3) := by decide +kernel
theorem dX12_seen_80 : decode cX12_seen 80 = .ok (.iload 6, 2) := by decide +kernel
theorem dX12_seen_82 : decode cX12_seen 82 = .ok (.iconst 1, 1) := by decide +kernel
theorem dX12_seen_83 : decode cX12_seen 83 = .ok (.iadd, 1) := by decide +kernel
theorem dX12_seen_84 : decode cX12_seen 84 = .ok (.iload_n 2, 1) := by decide +kernel
theorem dX12_seen_85 : decode cX12_seen 85 = .ok (.iastore, 1) := by decide +kernel
theorem dX12_seen_86 : decode cX12_seen 86 = .ok (.aload_n 0, 1) := by decide +kernel
theorem dX12_seen_87 : decode cX12_seen 87 = .ok (.getfield 84, 3) := by decide +kernel
theorem dX12_seen_90 : decode cX12_seen 90 = .ok (.iload 6, 2) := by decide +kernel
theorem dX12_seen_92 : decode cX12_seen 92 = .ok (.iconst 2, 1) := by decide +kernel
theorem dX12_seen_93 : decode cX12_seen 93 = .ok (.iadd, 1) := by decide +kernel
theorem dX12_seen_94 : decode cX12_seen 94 = .ok (.iload_n 3, 1) := by decide +kernel
theorem dX12_seen_95 : decode cX12_seen 95 = .ok (.iastore, 1) := by decide +kernel
theorem dX12_seen_96 : decode cX12_seen 96 = .ok (.aload_n 0, 1) := by decide +kernel
theorem dX12_seen_97 : decode cX12_seen 97 = .ok (.getfield 84, 3) := by decide +kernel
theorem dX12_seen_100 : decode cX12_seen 100 = .ok (.iload 6, 2) := by decide +kernel
theorem dX12_seen_102 : decode cX12_seen 102 = .ok (.iconst 3, 1) := by decide +kernel
theorem dX12_seen_103 : decode cX12_seen 103 = .ok (.iadd, 1) := by decide +kernel
theorem dX12_seen_104 : decode cX12_seen 104 = .ok (.iload 4, 2) := by decide +kernel
theorem dX12_seen_106 : decode cX12_seen 106 = .ok (.iastore, 1) := by decide +kernel
theorem dX12_seen_107 : decode cX12_seen 107 = .ok (.aload_n 0, 1) := by decide +kernel
theorem dX12_seen_108 : decode cX12_seen 108 = .ok (.getfield 84, 3) := by decide +kernel
theorem dX12_seen_111 : decode cX12_seen 111 = .ok (.iload 6, 2) := by decide +kernel
theorem dX12_seen_113 : decode cX12_seen 113 = .ok (.iconst 4, 1) := by decide +kernel
theorem dX12_seen_114 : decode cX12_seen 114 = .ok (.iadd, 1) := by decide +kernel
theorem dX12_seen_115 : decode cX12_seen 115 = .ok (.iload 5, 2) := by decide +kernel
theorem dX12_seen_117 : decode cX12_seen 117 = .ok (.ifCond .eq 7, 3) := by decide +kernel
theorem dX12_seen_120 : decode cX12_seen 120 = .ok (.iconst 1, 1) := by decide +kernel
theorem dX12_seen_121 : decode cX12_seen 121 = .ok (.goto 4, 3) := by decide +kernel
theorem dX12_seen_124 : decode cX12_seen 124 = .ok (.iconst 0, 1) := by decide +kernel
theorem dX12_seen_125 : decode cX12_seen 125 = .ok (.iastore, 1) := by decide +kernel
theorem dX12_seen_126 : decode cX12_seen 126 = .ok (.aload_n 0, 1) := by decide +kernel
theorem dX12_seen_127 : decode cX12_seen 127 = .ok (.dup, 1) := by decide +kernel
theorem dX12_seen_128 : decode cX12_seen 128 = .ok (.getfield 294, 3) := by decide +kernel
theorem dX12_seen_131 : decode cX12_seen 131 = .ok (.iconst 1, 1) := by decide +kernel
theorem dX12_seen_132 : decode cX12_seen 132 = .ok (.iadd, 1) := by decide +kernel
theorem dX12_seen_133 : decode cX12_seen 133 = .ok (.putfield 294, 3) := by decide +kernel
theorem dX12_seen_136 : decode cX12_seen 136 = .ok (.aload_n 0, 1) := by decide +kernel
theorem dX12_seen_137 : decode cX12_seen 137 = .ok (.getfield 294, 3) := by decide +kernel
theorem dX12_seen_140 : decode cX12_seen 140 = .ok (.ireturn, 1) := by decide +kernel
def X12_seen_125 (s1 : Int32) (s2 : Bool) (h : Mm) : Option (Int32 × Mm) := (if inB s1 (aln 270) then (some (((wI (wI h 270 s1.toNatClampNeg (b2i s2)) 251 47 (((wI h 270 s1.toNatClampNeg (b2i s2)).1 251 47) + (1 : Int32))).1 251 47), (wI (wI h 270 s1.toNatClampNeg (b2i s2)) 251 47 (((wI h 270 s1.toNatClampNeg (b2i s2)).1 251 47) + (1 : Int32))))) else none)
set_option maxRecDepth 100000 in
set_option maxHeartbeats 4000000 in
theorem v_X12_seen_125 {X : WX} {G : GX} {o : Mm} {rv : Int32} {hz : Mm} {s1 : Int32} {s2 : Bool} {h : Mm} (hF : X12_seen_125  s1 s2 h = some (rv, hz)) : V X G RX12 cX12_seen 7 (some .int) 2 0 0 (QR X G false o (some (.int rv)) hz) false o 125 [(0, .ref (xa X 251))] [.int (b2i s2), .int s1, .ref (xa X 270)] h := by
  unfold X12_seen_125 at hF
  obtain ⟨hk, hF⟩ := ck hF
  refine V.iast io_270 hk dX12_seen_125 ?_
  refine V.aload_n 0 dX12_seen_126 rfl rfl ?_
  refine V.dup dX12_seen_127 rfl ?_
  refine V.getI fl_X12_294 sh_251 rfl km_251 dX12_seen_128 ?_
  refine V.iconst (v := 1) dX12_seen_131 rfl ?_
  refine V.iadd dX12_seen_132 ?_
  refine V.putI fl_X12_294 rfl (tyX12_ok 47 (by decide)) rfl rfl sh_251 rfl km_251 dX12_seen_133 ?_
  refine V.aload_n 0 dX12_seen_136 rfl rfl ?_
  refine V.getI fl_X12_294 sh_251 rfl km_251 dX12_seen_137 ?_
  cases hF
  exact V.iret dX12_seen_140
def X12_seen (x1 : Int32) (x2 : Int32) (x3 : Int32) (x4 : Int32) (x5 : Bool) (h : Mm) : Option (Int32 × Mm) := (bp (X12_isBook x1 (wI h 251 0 (0 : Int32))) (fun r21 => (if r21 = true then (bp (X12_isHouse x3 (wI h 251 0 (0 : Int32))) (fun r23 => (if r23 = true then (bp (X12_pagesOf x1 (wI h 251 0 (0 : Int32))) (fun r25 => (bp (X12_isIn x2.toInt64 (1 : Int64) r25.toInt64 (wI h 251 0 (0 : Int32))) (fun r27 => (if r27 = true then (bp (X12_isIn x4.toInt64 (0 : Int64) (99 : Int64) (wI h 251 0 (0 : Int32))) (fun r29 => (if r29 = true then (if ((wI h 251 0 (0 : Int32)).1 251 47) = (10 : Int32) then (some ((-1 : Int32), (wI h 251 0 (0 : Int32)))) else (if inB ((5 : Int32) * ((wI h 251 0 (0 : Int32)).1 251 47)) (aln 270) then (if inB (((5 : Int32) * ((wI h 251 0 (0 : Int32)).1 251 47)) + (1 : Int32)) (aln 270) then (if inB (((5 : Int32) * ((wI h 251 0 (0 : Int32)).1 251 47)) + (2 : Int32)) (aln 270) then (if inB (((5 : Int32) * ((wI h 251 0 (0 : Int32)).1 251 47)) + (3 : Int32)) (aln 270) then (if x5 = true then (X12_seen_125 (((5 : Int32) * ((wI h 251 0 (0 : Int32)).1 251 47)) + (4 : Int32)) true (wI (wI (wI (wI (wI h 251 0 (0 : Int32)) 270 ((5 : Int32) * ((wI h 251 0 (0 : Int32)).1 251 47)).toNatClampNeg x1) 270 (((5 : Int32) * ((wI h 251 0 (0 : Int32)).1 251 47)) + (1 : Int32)).toNatClampNeg x2) 270 (((5 : Int32) * ((wI h 251 0 (0 : Int32)).1 251 47)) + (2 : Int32)).toNatClampNeg x3) 270 (((5 : Int32) * ((wI h 251 0 (0 : Int32)).1 251 47)) + (3 : Int32)).toNatClampNeg x4)) else (X12_seen_125 (((5 : Int32) * ((wI h 251 0 (0 : Int32)).1 251 47)) + (4 : Int32)) false (wI (wI (wI (wI (wI h 251 0 (0 : Int32)) 270 ((5 : Int32) * ((wI h 251 0 (0 : Int32)).1 251 47)).toNatClampNeg x1) 270 (((5 : Int32) * ((wI h 251 0 (0 : Int32)).1 251 47)) + (1 : Int32)).toNatClampNeg x2) 270 (((5 : Int32) * ((wI h 251 0 (0 : Int32)).1 251 47)) + (2 : Int32)).toNatClampNeg x3) 270 (((5 : Int32) * ((wI h 251 0 (0 : Int32)).1 251 47)) + (3 : Int32)).toNatClampNeg x4))) else none) else none) else none) else none)) else (some ((-1 : Int32), (wI h 251 0 (0 : Int32))))))) else (some ((-1 : Int32), (wI h 251 0 (0 : Int32))))))))) else (some ((-1 : Int32), (wI h 251 0 (0 : Int32))))))) else (some ((-1 : Int32), (wI h 251 0 (0 : Int32)))))))
set_option maxRecDepth 100000 in
set_option maxHeartbeats 4000000 in
theorem s_X12_seen {X : WX} {o : Mm} {x1 : Int32} {x2 : Int32} {x3 : Int32} {x4 : Int32} {x5 : Bool} {rv : Int32} {hz : Mm} {h : Mm} (hF : X12_seen x1 x2 x3 x4 x5 h = some (rv, hz)) : Sat X yX12_seen cX12_seen 7 (some .int) 2 [.ref (xa X 251), .int x1, .int x2, .int x3, .int x4, .int (b2i x5)] false o h (some (.int rv)) hz := by
  unfold X12_seen at hF
  refine Sat.mk (own := RX12) rfl (by decide +kernel) (Nat.le_of_ble_eq_true rfl) (fun G => ?_)
  refine V.sub (lv2 := [(0, _), (1, _), (2, _), (3, _), (4, _), (5, _)]) [0, 1, 2, 3, 4, 5] rfl ?_
  refine V.aload_n 0 dX12_seen_0 rfl rfl ?_
  refine V.iconst (v := 0) dX12_seen_1 rfl ?_
  refine V.putI fl_X12_93 rfl (tyX12_ok 0 (by decide)) rfl rfl sh_251 rfl km_251 dX12_seen_2 ?_
  refine V.aload_n 0 dX12_seen_5 rfl rfl ?_
  refine V.iload_n 1 dX12_seen_6 rfl rfl ?_
  obtain ⟨r21, hc22, hF⟩ := bp_s hF
  refine V.callVi mf_X12_isBook ml_X12_319 sh_251 (s_X12_isBook hc22) (by decide) rfl rfl (Nat.le_of_ble_eq_true rfl) dX12_seen_7 ?_
  refine V.ifz_eq (tgt := 58) dX12_seen_10 rfl (fun c => ?_) (fun c => ?_)
  · replace hF := iq c hF
    refine V.iconst (v := -1) dX12_seen_58 rfl ?_
    cases hF
    exact V.iret dX12_seen_59
  · replace hF := ip c hF
    refine V.aload_n 0 dX12_seen_13 rfl rfl ?_
    refine V.iload_n 3 dX12_seen_14 rfl rfl ?_
    obtain ⟨r23, hc24, hF⟩ := bp_s hF
    refine V.callVi mf_X12_isHouse ml_X12_337 sh_251 (s_X12_isHouse hc24) (by decide) rfl rfl (Nat.le_of_ble_eq_true rfl) dX12_seen_15 ?_
    refine V.ifz_eq (tgt := 58) dX12_seen_18 rfl (fun c => ?_) (fun c => ?_)
    · replace hF := iq c hF
      refine V.iconst (v := -1) dX12_seen_58 rfl ?_
      cases hF
      exact V.iret dX12_seen_59
    · replace hF := ip c hF
      refine V.iload_n 2 dX12_seen_21 rfl rfl ?_
      refine V.i2l dX12_seen_22 ?_
      refine V.lconst (v := 1) dX12_seen_23 rfl ?_
      refine V.aload_n 0 dX12_seen_24 rfl rfl ?_
      refine V.iload_n 1 dX12_seen_25 rfl rfl ?_
      obtain ⟨r25, hc26, hF⟩ := bp_s hF
      refine V.callVi mf_X12_pagesOf ml_X12_322 sh_251 (s_X12_pagesOf hc26) (by decide) rfl rfl (Nat.le_of_ble_eq_true rfl) dX12_seen_26 ?_
      refine V.i2l dX12_seen_29 ?_
      obtain ⟨r27, hc28, hF⟩ := bp_s hF
      refine V.callSi mf_X12_isIn ml_X12_214 (s_X12_isIn hc28) (by decide) rfl rfl (Nat.le_of_ble_eq_true rfl) dX12_seen_30 ?_
      refine V.ifz_eq (tgt := 58) dX12_seen_33 rfl (fun c => ?_) (fun c => ?_)
      · replace hF := iq c hF
        refine V.iconst (v := -1) dX12_seen_58 rfl ?_
        cases hF
        exact V.iret dX12_seen_59
      · replace hF := ip c hF
        refine V.iload 4 dX12_seen_36 rfl ?_
        refine V.i2l dX12_seen_38 ?_
        refine V.lconst (v := 0) dX12_seen_39 rfl ?_
        refine V.ldc2 (v := 99) dX12_seen_40 kc_X12_437 ?_
        obtain ⟨r29, hc30, hF⟩ := bp_s hF
        refine V.callSi mf_X12_isIn ml_X12_214 (s_X12_isIn hc30) (by decide) rfl rfl (Nat.le_of_ble_eq_true rfl) dX12_seen_43 ?_
        refine V.ifz_eq (tgt := 58) dX12_seen_46 rfl (fun c => ?_) (fun c => ?_)
        · replace hF := iq c hF
          refine V.iconst (v := -1) dX12_seen_58 rfl ?_
          cases hF
          exact V.iret dX12_seen_59
        · replace hF := ip c hF
          refine V.aload_n 0 dX12_seen_49 rfl rfl ?_
          refine V.getI fl_X12_294 sh_251 rfl km_251 dX12_seen_50 ?_
          refine V.bipush (v := 10) dX12_seen_53 (by decide) ?_
          refine V.icmp_ne (tgt := 60) dX12_seen_55 rfl (fun c => ?_) (fun c => ?_)
          · replace hF := iq c hF
            refine V.iconst (v := 5) dX12_seen_60 rfl ?_
            refine V.aload_n 0 dX12_seen_61 rfl rfl ?_
            refine V.getI fl_X12_294 sh_251 rfl km_251 dX12_seen_62 ?_
            refine V.imul dX12_seen_65 ?_
            refine V.istore [(6, _), (0, _), (1, _), (2, _), (3, _), (4, _), (5, _)] dX12_seen_66 (by decide) rfl ?_
            refine V.aload_n 1 dX12_seen_68 rfl rfl ?_
            refine V.getR (v := 270) fl_X12_84 sh_251 rfl fx_251_46 (by decide) dX12_seen_69 ?_
            refine V.iload 0 dX12_seen_72 rfl ?_
            refine V.iload_n 2 dX12_seen_74 rfl rfl ?_
            obtain ⟨hk, hF⟩ := ck hF
            refine V.iast io_270 hk dX12_seen_75 ?_
            refine V.aload_n 1 dX12_seen_76 rfl rfl ?_
            refine V.getR (v := 270) fl_X12_84 sh_251 rfl fx_251_46 (by decide) dX12_seen_77 ?_
            refine V.iload 0 dX12_seen_80 rfl ?_
            refine V.iconst (v := 1) dX12_seen_82 rfl ?_
            refine V.iadd dX12_seen_83 ?_
            refine V.iload_n 3 dX12_seen_84 rfl rfl ?_
            obtain ⟨hk, hF⟩ := ck hF
            refine V.iast io_270 hk dX12_seen_85 ?_
            refine V.aload_n 1 dX12_seen_86 rfl rfl ?_
            refine V.getR (v := 270) fl_X12_84 sh_251 rfl fx_251_46 (by decide) dX12_seen_87 ?_
            refine V.iload 0 dX12_seen_90 rfl ?_
            refine V.iconst (v := 2) dX12_seen_92 rfl ?_
            refine V.iadd dX12_seen_93 ?_
            refine V.iload_n 4 dX12_seen_94 rfl rfl ?_
            obtain ⟨hk, hF⟩ := ck hF
            refine V.iast io_270 hk dX12_seen_95 ?_
            refine V.aload_n 1 dX12_seen_96 rfl rfl ?_
            refine V.getR (v := 270) fl_X12_84 sh_251 rfl fx_251_46 (by decide) dX12_seen_97 ?_
            refine V.iload 0 dX12_seen_100 rfl ?_
            refine V.iconst (v := 3) dX12_seen_102 rfl ?_
            refine V.iadd dX12_seen_103 ?_
            refine V.iload 5 dX12_seen_104 rfl ?_
            obtain ⟨hk, hF⟩ := ck hF
            refine V.iast io_270 hk dX12_seen_106 ?_
            refine V.aload_n 1 dX12_seen_107 rfl rfl ?_
            refine V.getR (v := 270) fl_X12_84 sh_251 rfl fx_251_46 (by decide) dX12_seen_108 ?_
            refine V.iload 0 dX12_seen_111 rfl ?_
            refine V.iconst (v := 4) dX12_seen_113 rfl ?_
            refine V.iadd dX12_seen_114 ?_
            refine V.iload 6 dX12_seen_115 rfl ?_
            refine V.ifz_eq (tgt := 124) dX12_seen_117 rfl (fun c => ?_) (fun c => ?_)
            · replace hF := iq c hF
              refine V.iconst (v := 0) dX12_seen_124 rfl ?_
              exact V.sub [1] rfl (v_X12_seen_125 hF)
            · replace hF := ip c hF
              refine V.iconst (v := 1) dX12_seen_120 rfl ?_
              refine V.goto (tgt := 125) dX12_seen_121 rfl ?_
              exact V.sub [1] rfl (v_X12_seen_125 hF)
          · replace hF := ip c hF
            refine V.iconst (v := -1) dX12_seen_58 rfl ?_
            cases hF
            exact V.iret dX12_seen_59
/-! MonsterCotModel.calmIf -/
theorem dX12_calmIf_0 : decode cX12_calmIf 0 = .ok (.iconst 0, 1) := by decide +kernel
theorem dX12_calmIf_1 : decode cX12_calmIf 1 = .ok (.istore 5, 2) := by decide +kernel
theorem dX12_calmIf_3 : decode cX12_calmIf 3 = .ok (.iconst 0, 1) := by decide +kernel
theorem dX12_calmIf_4 : decode cX12_calmIf 4 = .ok (.istore 6, 2) := by decide +kernel
theorem dX12_calmIf_6 : decode cX12_calmIf 6 = .ok (.iload 6, 2) := by decide +kernel
theorem dX12_calmIf_8 : decode cX12_calmIf 8 = .ok (.iload_n 3, 1) := by decide +kernel
theorem dX12_calmIf_9 : decode cX12_calmIf 9 = .ok (.if_icmp .ge 64, 3) := by decide +kernel
theorem dX12_calmIf_12 : decode cX12_calmIf 12 = .ok (.aload_n 0, 1) := by decide +kernel
theorem dX12_calmIf_13 : decode cX12_calmIf 13 = .ok (.iload_n 2, 1) := by decide +kernel
theorem dX12_calmIf_14 : decode cX12_calmIf 14 = .ok (.aload_n 0, 1) := by decide +kernel
theorem dX12_calmIf_15 : decode cX12_calmIf 15 = .ok (.getfield 61, 3) := by decide +kernel
theorem dX12_calmIf_18 : decode cX12_calmIf 18 = .ok (.iconst 3, 1) := by decide +kernel
theorem dX12_calmIf_19 : decode cX12_calmIf 19 = .ok (.iload 4, 2) := by decide +kernel
theorem dX12_calmIf_21 : decode cX12_calmIf 21 = .ok (.imul, 1) := by decide +kernel
theorem dX12_calmIf_22 : decode cX12_calmIf 22 = .ok (.iconst 1, 1) := by decide +kernel
theorem dX12_calmIf_23 : decode cX12_calmIf 23 = .ok (.iadd, 1) := by decide +kernel
theorem dX12_calmIf_24 : decode cX12_calmIf 24 = .ok (.iaload, 1) := by decide +kernel
theorem dX12_calmIf_25 : decode cX12_calmIf 25 = .ok (.iconst 0, 1) := by decide +kernel
theorem dX12_calmIf_26 : decode cX12_calmIf 26 = .ok (.iload 6, 2) := by decide +kernel
theorem dX12_calmIf_28 : decode cX12_calmIf 28 = .ok (.iconst 0, 1) := by decide +kernel
theorem dX12_calmIf_29 : decode cX12_calmIf 29 = .ok (.iload 6, 2) := by decide +kernel
theorem dX12_calmIf_31 : decode cX12_calmIf 31 = .ok (.invokevirtual 331, 3) := by decide +kernel
theorem dX12_calmIf_34 : decode cX12_calmIf 34 = .ok (.istore 7, 2) := by decide +kernel
theorem dX12_calmIf_36 : decode cX12_calmIf 36 = .ok (.iload 5, 2) := by decide +kernel
theorem dX12_calmIf_38 : decode cX12_calmIf 38 = .ok (.aload_n 0, 1) := by decide +kernel
theorem dX12_calmIf_39 : decode cX12_calmIf 39 = .ok (.iload_n 2, 1) := by decide +kernel
theorem dX12_calmIf_40 : decode cX12_calmIf 40 = .ok (.invokevirtual 328, 3) := by decide +kernel
theorem dX12_calmIf_43 : decode cX12_calmIf 43 = .ok (.iload_n 1, 1) := by decide +kernel
theorem dX12_calmIf_44 : decode cX12_calmIf 44 = .ok (.if_icmp .ne 15, 3) := by decide +kernel
theorem dX12_calmIf_47 : decode cX12_calmIf 47 = .ok (.bipush 20, 2) := by decide +kernel
theorem dX12_calmIf_49 : decode cX12_calmIf 49 = .ok (.iload 7, 2) := by decide +kernel
theorem dX12_calmIf_51 : decode cX12_calmIf 51 = .ok (.iconst 3, 1) := by decide +kernel
theorem dX12_calmIf_52 : decode cX12_calmIf 52 = .ok (.iadd, 1) := by decide +kernel
theorem dX12_calmIf_53 : decode cX12_calmIf 53 = .ok (.invokestatic 315, 3) := by decide +kernel
theorem dX12_calmIf_56 : decode cX12_calmIf 56 = .ok (.goto 5, 3) := by decide +kernel
theorem dX12_calmIf_59 : decode cX12_calmIf 59 = .ok (.iload 7, 2) := by decide +kernel
theorem dX12_calmIf_61 : decode cX12_calmIf 61 = .ok (.iadd, 1) := by decide +kernel
theorem dX12_calmIf_62 : decode cX12_calmIf 62 = .ok (.invokestatic 334, 3) := by decide +kernel
theorem dX12_calmIf_65 : decode cX12_calmIf 65 = .ok (.istore 5, 2) := by decide +kernel
theorem dX12_calmIf_67 : decode cX12_calmIf 67 = .ok (.iinc 6 1, 3) := by decide +kernel
theorem dX12_calmIf_70 : decode cX12_calmIf 70 = .ok (.goto (-64), 3) := by decide +kernel
theorem dX12_calmIf_73 : decode cX12_calmIf 73 = .ok (.iload 5, 2) := by decide +kernel
theorem dX12_calmIf_75 : decode cX12_calmIf 75 = .ok (.ireturn, 1) := by decide +kernel
def X12_calmIf_61 (n : Nat) (K6 : Int32 → Int32 → Int32 → Int32 → Int32 → Int32 → Mm → Option (Int32 × Mm)) (x1 : Int32) (x2 : Int32) (x3 : Int32) (x4 : Int32) (x6 : Int32) (s0 : Int32) (s1 : Int32) (h : Mm) : Option (Int32 × Mm) := (bp (X12_held (s0 + s1) h) (fun r35 => (K6 x1 x2 x3 x4 r35 (x6 + (1)) h)))
set_option maxRecDepth 100000 in
set_option maxHeartbeats 4000000 in
theorem v_X12_calmIf_61 {X : WX} {G : GX} {o : Mm} {n : Nat} {K6 : Int32 → Int32 → Int32 → Int32 → Int32 → Int32 → Mm → Option (Int32 × Mm)} {rv : Int32} {hz : Mm} (hK6 : ∀ (x1 : Int32) (x2 : Int32) (x3 : Int32) (x4 : Int32) (x5 : Int32) (x6 : Int32) (h : Mm), K6 x1 x2 x3 x4 x5 x6 h = some (rv, hz) → V X G RX12 cX12_calmIf 8 (some .int) 91 0 0 (QR X G false o (some (.int rv)) hz) false o 6 [(0, .ref (xa X 251)), (1, .int x1), (2, .int x2), (3, .int x3), (4, .int x4), (5, .int x5), (6, .int x6)] [] h) {x1 : Int32} {x2 : Int32} {x3 : Int32} {x4 : Int32} {x6 : Int32} {s0 : Int32} {s1 : Int32} {h : Mm} (hF : X12_calmIf_61 n K6 x1 x2 x3 x4 x6 s0 s1 h = some (rv, hz)) : V X G RX12 cX12_calmIf 8 (some .int) 91 0 0 (QR X G false o (some (.int rv)) hz) false o 61 [(0, .ref (xa X 251)), (1, .int x1), (2, .int x2), (3, .int x3), (4, .int x4), (6, .int x6)] [.int s1, .int s0] h := by
  unfold X12_calmIf_61 at hF
  refine V.iadd dX12_calmIf_61 ?_
  obtain ⟨r35, hc36, hF⟩ := bp_s hF
  refine V.callSi mf_X12_held ml_X12_334 (s_X12_held hc36) (by decide) rfl rfl (Nat.le_of_ble_eq_true rfl) dX12_calmIf_62 ?_
  refine V.istore [(5, _), (0, _), (1, _), (2, _), (3, _), (4, _), (6, _)] dX12_calmIf_65 (by decide) rfl ?_
  refine V.iinc (v := (x6 + (1))) 6 [(6, _), (5, _), (0, _), (1, _), (2, _), (3, _), (4, _)] dX12_calmIf_67 rfl rfl (by decide) rfl ?_
  refine V.goto (tgt := 6) dX12_calmIf_70 rfl ?_
  exact V.sub [2, 3, 4, 5, 6, 1, 0] rfl (hK6 _ _ _ _ _ _ _ hF)
def X12_calmIf_6 (n : Nat) : Nat → Int32 → Int32 → Int32 → Int32 → Int32 → Int32 → Mm → Option (Int32 × Mm)
  | 0, _, _, _, _, _, _, _ => none
  | f + 1, x1, x2, x3, x4, x5, x6, h => (if x3 ≤ x6 then (some (x5, h)) else (if inB (((3 : Int32) * x4) + (1 : Int32)) (aln 264) then (bd (X12_page n x2 (h.1 264 (((3 : Int32) * x4) + (1 : Int32)).toNatClampNeg) (0 : Int32) x6 (0 : Int32) x6 h) (fun r37 h39 => (bp (X12_kindOf x2 h39) (fun r40 => (if r40 = x1 then (bp (J9_min_7cf53 (20 : Int32) (r37 + (3 : Int32)) h39) (fun r42 => (X12_calmIf_61 n (X12_calmIf_6 n f) x1 x2 x3 x4 x6 x5 r42 h39))) else (X12_calmIf_61 n (X12_calmIf_6 n f) x1 x2 x3 x4 x6 x5 r37 h39)))))) else none))
set_option maxRecDepth 100000 in
set_option maxHeartbeats 4000000 in
theorem v_X12_calmIf_6 {X : WX} {G : GX} {o : Mm} {n : Nat} {rv : Int32} {hz : Mm} : ∀ (f : Nat) (x1 : Int32) (x2 : Int32) (x3 : Int32) (x4 : Int32) (x5 : Int32) (x6 : Int32) (h : Mm), X12_calmIf_6 n f x1 x2 x3 x4 x5 x6 h = some (rv, hz) → V X G RX12 cX12_calmIf 8 (some .int) 91 0 0 (QR X G false o (some (.int rv)) hz) false o 6 [(0, .ref (xa X 251)), (1, .int x1), (2, .int x2), (3, .int x3), (4, .int x4), (5, .int x5), (6, .int x6)] [] h := by
  intro f
  induction f with
  | zero => intro x1 x2 x3 x4 x5 x6 h hF; exact nomatch (show (none : Option (Int32 × Mm)) = some (rv, hz) from hF)
  | succ f ih =>
    intro x1 x2 x3 x4 x5 x6 h hF
    unfold X12_calmIf_6 at hF
    refine V.iload 6 dX12_calmIf_6 rfl ?_
    refine V.iload_n 3 dX12_calmIf_8 rfl rfl ?_
    refine V.icmp_ge (tgt := 73) dX12_calmIf_9 rfl (fun c => ?_) (fun c => ?_)
    · replace hF := ip c hF
      refine V.iload 5 dX12_calmIf_73 rfl ?_
      cases hF
      exact V.iret dX12_calmIf_75
    · replace hF := iq c hF
      refine V.aload_n 0 dX12_calmIf_12 rfl rfl ?_
      refine V.iload_n 2 dX12_calmIf_13 rfl rfl ?_
      refine V.aload_n 0 dX12_calmIf_14 rfl rfl ?_
      refine V.getR (v := 264) fl_X12_61 sh_251 rfl fx_251_32 (by decide) dX12_calmIf_15 ?_
      refine V.iconst (v := 3) dX12_calmIf_18 rfl ?_
      refine V.iload 4 dX12_calmIf_19 rfl ?_
      refine V.imul dX12_calmIf_21 ?_
      refine V.iconst (v := 1) dX12_calmIf_22 rfl ?_
      refine V.iadd dX12_calmIf_23 ?_
      obtain ⟨hk, hF⟩ := ck hF
      refine V.iald io_264 hk dX12_calmIf_24 ?_
      refine V.iconst (v := 0) dX12_calmIf_25 rfl ?_
      refine V.iload 6 dX12_calmIf_26 rfl ?_
      refine V.iconst (v := 0) dX12_calmIf_28 rfl ?_
      refine V.iload 6 dX12_calmIf_29 rfl ?_
      obtain ⟨r37, h39, hc38, hF⟩ := bd_s hF
      refine V.callVi mf_X12_page ml_X12_331 sh_251 (s_X12_page hc38) (by decide) rfl rfl (Nat.le_of_ble_eq_true rfl) dX12_calmIf_31 ?_
      refine V.istore [(7, _), (0, _), (1, _), (2, _), (3, _), (4, _), (5, _), (6, _)] dX12_calmIf_34 (by decide) rfl ?_
      refine V.iload 6 dX12_calmIf_36 rfl ?_
      refine V.aload_n 1 dX12_calmIf_38 rfl rfl ?_
      refine V.iload_n 3 dX12_calmIf_39 rfl rfl ?_
      obtain ⟨r40, hc41, hF⟩ := bp_s hF
      refine V.callVi mf_X12_kindOf ml_X12_328 sh_251 (s_X12_kindOf hc41) (by decide) rfl rfl (Nat.le_of_ble_eq_true rfl) dX12_calmIf_40 ?_
      refine V.iload_n 2 dX12_calmIf_43 rfl rfl ?_
      refine V.icmp_ne (tgt := 59) dX12_calmIf_44 rfl (fun c => ?_) (fun c => ?_)
      · replace hF := iq c hF
        refine V.iload 0 dX12_calmIf_59 rfl ?_
        exact V.sub [1, 2, 3, 4, 5, 7] rfl (v_X12_calmIf_61 ih hF)
      · replace hF := ip c hF
        refine V.bipush (v := 20) dX12_calmIf_47 (by decide) ?_
        refine V.iload 0 dX12_calmIf_49 rfl ?_
        refine V.iconst (v := 3) dX12_calmIf_51 rfl ?_
        refine V.iadd dX12_calmIf_52 ?_
        obtain ⟨r42, hc43, hF⟩ := bp_s hF
        refine V.callSi mf_J9_min_7cf53 ml_X12_315 (s_J9_min_7cf53 hc43) (by decide) rfl rfl (Nat.le_of_ble_eq_true rfl) dX12_calmIf_53 ?_
        refine V.goto (tgt := 61) dX12_calmIf_56 rfl ?_
        exact V.sub [1, 2, 3, 4, 5, 7] rfl (v_X12_calmIf_61 ih hF)
def X12_calmIf (n : Nat) (x1 : Int32) (x2 : Int32) (x3 : Int32) (x4 : Int32) (h : Mm) : Option (Int32 × Mm) := (X12_calmIf_6 n n x1 x2 x3 x4 (0 : Int32) (0 : Int32) h)
set_option maxRecDepth 100000 in
set_option maxHeartbeats 4000000 in
theorem s_X12_calmIf {X : WX} {o : Mm} {n : Nat} {x1 : Int32} {x2 : Int32} {x3 : Int32} {x4 : Int32} {rv : Int32} {hz : Mm} {h : Mm} (hF : X12_calmIf n x1 x2 x3 x4 h = some (rv, hz)) : Sat X yX12_calmIf cX12_calmIf 8 (some .int) 91 [.ref (xa X 251), .int x1, .int x2, .int x3, .int x4] false o h (some (.int rv)) hz := by
  unfold X12_calmIf at hF
  refine Sat.mk (own := RX12) rfl (by decide +kernel) (Nat.le_of_ble_eq_true rfl) (fun G => ?_)
  refine V.sub (lv2 := [(0, _), (1, _), (2, _), (3, _), (4, _)]) [0, 1, 2, 3, 4] rfl ?_
  refine V.iconst (v := 0) dX12_calmIf_0 rfl ?_
  refine V.istore [(5, _), (0, _), (1, _), (2, _), (3, _), (4, _)] dX12_calmIf_1 (by decide) rfl ?_
  refine V.iconst (v := 0) dX12_calmIf_3 rfl ?_
  refine V.istore [(6, _), (5, _), (0, _), (1, _), (2, _), (3, _), (4, _)] dX12_calmIf_4 (by decide) rfl ?_
  exact V.sub [2, 3, 4, 5, 6, 1, 0] rfl (v_X12_calmIf_6 n _ _ _ _ _ _ _ hF)
/-! MonsterCotModel.isLiked -/
theorem dX12_isLiked_0 : decode cX12_isLiked 0 = .ok (.iconst 0, 1) := by decide +kernel
theorem dX12_isLiked_1 : decode cX12_isLiked 1 = .ok (.istore_n 2, 1) := by decide +kernel
theorem dX12_isLiked_2 : decode cX12_isLiked 2 = .ok (.iload_n 2, 1) := by decide +kernel
theorem dX12_isLiked_3 : decode cX12_isLiked 3 = .ok (.aload_n 0, 1) := by decide +kernel
theorem dX12_isLiked_4 : decode cX12_isLiked 4 = .ok (.getfield 294, 3) := by decide +kernel
theorem dX12_isLiked_7 : decode cX12_isLiked 7 = .ok (.if_icmp .ge 84, 3) := by decide +kernel
theorem dX12_isLiked_10 : decode cX12_isLiked 10 = .ok (.aload_n 0, 1) := by decide +kernel
theorem dX12_isLiked_11 : decode cX12_isLiked 11 = .ok (.iload_n 1, 1) := by decide +kernel
theorem dX12_isLiked_12 : decode cX12_isLiked 12 = .ok (.aload_n 0, 1) := by decide +kernel
theorem dX12_isLiked_13 : decode cX12_isLiked 13 = .ok (.getfield 84, 3) := by decide +kernel
theorem dX12_isLiked_16 : decode cX12_isLiked 16 = .ok (.iconst 5, 1) := by decide +kernel
theorem dX12_isLiked_17 : decode cX12_isLiked 17 = .ok (.iload_n 2, 1) := by decide +kernel
theorem dX12_isLiked_18 : decode cX12_isLiked 18 = .ok (.imul, 1) := by decide +kernel
theorem dX12_isLiked_19 : decode cX12_isLiked 19 = .ok (.iaload, 1) := by decide +kernel
theorem dX12_isLiked_20 : decode cX12_isLiked 20 = .ok (.aload_n 0, 1) := by decide +kernel
theorem dX12_isLiked_21 : decode cX12_isLiked 21 = .ok (.getfield 84, 3) := by decide +kernel
theorem dX12_isLiked_24 : decode cX12_isLiked 24 = .ok (.iconst 5, 1) := by decide +kernel
theorem dX12_isLiked_25 : decode cX12_isLiked 25 = .ok (.iload_n 2, 1) := by decide +kernel
theorem dX12_isLiked_26 : decode cX12_isLiked 26 = .ok (.imul, 1) := by decide +kernel
theorem dX12_isLiked_27 : decode cX12_isLiked 27 = .ok (.iconst 1, 1) := by decide +kernel
theorem dX12_isLiked_28 : decode cX12_isLiked 28 = .ok (.iadd, 1) := by decide +kernel
theorem dX12_isLiked_29 : decode cX12_isLiked 29 = .ok (.iaload, 1) := by decide +kernel
theorem dX12_isLiked_30 : decode cX12_isLiked 30 = .ok (.aload_n 0, 1) := by decide +kernel
theorem dX12_isLiked_31 : decode cX12_isLiked 31 = .ok (.getfield 84, 3) := by decide +kernel
theorem dX12_isLiked_34 : decode cX12_isLiked 34 = .ok (.iconst 5, 1) := by decide +kernel
theorem dX12_isLiked_35 : decode cX12_isLiked 35 = .ok (.iload_n 2, 1) := by decide +kernel
theorem dX12_isLiked_36 : decode cX12_isLiked 36 = .ok (.imul, 1) := by decide +kernel
theorem dX12_isLiked_37 : decode cX12_isLiked 37 = .ok (.iconst 2, 1) := by decide +kernel
theorem dX12_isLiked_38 : decode cX12_isLiked 38 = .ok (.iadd, 1) := by decide +kernel
theorem dX12_isLiked_39 : decode cX12_isLiked 39 = .ok (.iaload, 1) := by decide +kernel
theorem dX12_isLiked_40 : decode cX12_isLiked 40 = .ok (.invokevirtual 439, 3) := by decide +kernel
theorem dX12_isLiked_43 : decode cX12_isLiked 43 = .ok (.aload_n 0, 1) := by decide +kernel
theorem dX12_isLiked_44 : decode cX12_isLiked 44 = .ok (.getfield 84, 3) := by decide +kernel
theorem dX12_isLiked_47 : decode cX12_isLiked 47 = .ok (.iconst 5, 1) := by decide +kernel
theorem dX12_isLiked_48 : decode cX12_isLiked 48 = .ok (.iload_n 2, 1) := by decide +kernel
theorem dX12_isLiked_49 : decode cX12_isLiked 49 = .ok (.imul, 1) := by decide +kernel
theorem dX12_isLiked_50 : decode cX12_isLiked 50 = .ok (.iconst 3, 1) := by decide +kernel
theorem dX12_isLiked_51 : decode cX12_isLiked 51 = .ok (.iadd, 1) := by decide +kernel
theorem dX12_isLiked_52 : decode cX12_isLiked 52 = .ok (.iaload, 1) := by decide +kernel
theorem dX12_isLiked_53 : decode cX12_isLiked 53 = .ok (.if_icmp .lt 7, 3) := by decide +kernel
theorem dX12_isLiked_56 : decode cX12_isLiked 56 = .ok (.iconst 1, 1) := by decide +kernel
theorem dX12_isLiked_57 : decode cX12_isLiked 57 = .ok (.goto 4, 3) := by decide +kernel
theorem dX12_isLiked_60 : decode cX12_isLiked 60 = .ok (.iconst 0, 1) := by decide +kernel
theorem dX12_isLiked_61 : decode cX12_isLiked 61 = .ok (.aload_n 0, 1) := by decide +kernel
theorem dX12_isLiked_62 : decode cX12_isLiked 62 = .ok (.getfield 84, 3) := by decide +kernel
theorem dX12_isLiked_65 : decode cX12_isLiked 65 = .ok (.iconst 5, 1) := by decide +kernel
theorem dX12_isLiked_66 : decode cX12_isLiked 66 = .ok (.iload_n 2, 1) := by decide +kernel
theorem dX12_isLiked_67 : decode cX12_isLiked 67 = .ok (.imul, 1) := by decide +kernel
theorem dX12_isLiked_68 : decode cX12_isLiked 68 = .ok (.iconst 4, 1) := by decide +kernel
theorem dX12_isLiked_69 : decode cX12_isLiked 69 = .ok (.iadd, 1) := by decide +kernel
theorem dX12_isLiked_70 : decode cX12_isLiked 70 = .ok (.iaload, 1) := by decide +kernel
theorem dX12_isLiked_71 : decode cX12_isLiked 71 = .ok (.iconst 1, 1) := by decide +kernel
theorem dX12_isLiked_72 : decode cX12_isLiked 72 = .ok (.if_icmp .ne 7, 3) := by decide +kernel
theorem dX12_isLiked_75 : decode cX12_isLiked 75 = .ok (.iconst 1, 1) := by decide +kernel
theorem dX12_isLiked_76 : decode cX12_isLiked 76 = .ok (.goto 4, 3) := by decide +kernel
theorem dX12_isLiked_79 : decode cX12_isLiked 79 = .ok (.iconst 0, 1) := by decide +kernel
theorem dX12_isLiked_80 : decode cX12_isLiked 80 = .ok (.if_icmp .eq 5, 3) := by decide +kernel
theorem dX12_isLiked_83 : decode cX12_isLiked 83 = .ok (.iconst 0, 1) := by decide +kernel
theorem dX12_isLiked_84 : decode cX12_isLiked 84 = .ok (.ireturn, 1) := by decide +kernel
theorem dX12_isLiked_85 : decode cX12_isLiked 85 = .ok (.iinc 2 1, 3) := by decide +kernel
theorem dX12_isLiked_88 : decode cX12_isLiked 88 = .ok (.goto (-86), 3) := by decide +kernel
theorem dX12_isLiked_91 : decode cX12_isLiked 91 = .ok (.iconst 1, 1) := by decide +kernel
theorem dX12_isLiked_92 : decode cX12_isLiked 92 = .ok (.ireturn, 1) := by decide +kernel
def X12_isLiked_80 (n : Nat) (K2 : Int32 → Int32 → Mm → Option (Bool × Mm)) (x1 : Int32) (x2 : Int32) (s0 : Bool) (s1 : Bool) (h : Mm) : Option (Bool × Mm) := (if (b2i s0) = (b2i s1) then (K2 x1 (x2 + (1)) h) else (some (false, h)))
set_option maxRecDepth 100000 in
set_option maxHeartbeats 4000000 in
theorem v_X12_isLiked_80 {X : WX} {G : GX} {o : Mm} {n : Nat} {K2 : Int32 → Int32 → Mm → Option (Bool × Mm)} {rv : Bool} {hz : Mm} (hK2 : ∀ (x1 : Int32) (x2 : Int32) (h : Mm), K2 x1 x2 h = some (rv, hz) → V X G RX12 cX12_isLiked 3 (some .boolean) 92 0 0 (QR X G false o (some (.int (b2i rv))) hz) false o 2 [(0, .ref (xa X 251)), (1, .int x1), (2, .int x2)] [] h) {x1 : Int32} {x2 : Int32} {s0 : Bool} {s1 : Bool} {h : Mm} (hF : X12_isLiked_80 n K2 x1 x2 s0 s1 h = some (rv, hz)) : V X G RX12 cX12_isLiked 3 (some .boolean) 92 0 0 (QR X G false o (some (.int (b2i rv))) hz) false o 80 [(0, .ref (xa X 251)), (1, .int x1), (2, .int x2)] [.int (b2i s1), .int (b2i s0)] h := by
  unfold X12_isLiked_80 at hF
  refine V.icmp_eq (tgt := 85) dX12_isLiked_80 rfl (fun c => ?_) (fun c => ?_)
  · replace hF := ip c hF
    refine V.iinc (v := (x2 + (1))) 2 [(2, _), (0, _), (1, _)] dX12_isLiked_85 rfl rfl (by decide) rfl ?_
    refine V.goto (tgt := 2) dX12_isLiked_88 rfl ?_
    exact V.sub [1, 2, 0] rfl (hK2 _ _ _ hF)
  · replace hF := iq c hF
    refine V.iconst (v := 0) dX12_isLiked_83 rfl ?_
    cases hF
    exact V.bret dX12_isLiked_84
def X12_isLiked_61 (n : Nat) (K2 : Int32 → Int32 → Mm → Option (Bool × Mm)) (x1 : Int32) (x2 : Int32) (s0 : Bool) (h : Mm) : Option (Bool × Mm) := (if inB (((5 : Int32) * x2) + (4 : Int32)) (aln 270) then (if (h.1 270 (((5 : Int32) * x2) + (4 : Int32)).toNatClampNeg) = (1 : Int32) then (X12_isLiked_80 n K2 x1 x2 s0 true h) else (X12_isLiked_80 n K2 x1 x2 s0 false h)) else none)
set_option maxRecDepth 100000 in
set_option maxHeartbeats 4000000 in
theorem v_X12_isLiked_61 {X : WX} {G : GX} {o : Mm} {n : Nat} {K2 : Int32 → Int32 → Mm → Option (Bool × Mm)} {rv : Bool} {hz : Mm} (hK2 : ∀ (x1 : Int32) (x2 : Int32) (h : Mm), K2 x1 x2 h = some (rv, hz) → V X G RX12 cX12_isLiked 3 (some .boolean) 92 0 0 (QR X G false o (some (.int (b2i rv))) hz) false o 2 [(0, .ref (xa X 251)), (1, .int x1), (2, .int x2)] [] h) {x1 : Int32} {x2 : Int32} {s0 : Bool} {h : Mm} (hF : X12_isLiked_61 n K2 x1 x2 s0 h = some (rv, hz)) : V X G RX12 cX12_isLiked 3 (some .boolean) 92 0 0 (QR X G false o (some (.int (b2i rv))) hz) false o 61 [(0, .ref (xa X 251)), (1, .int x1), (2, .int x2)] [.int (b2i s0)] h := by
  unfold X12_isLiked_61 at hF
  refine V.aload_n 0 dX12_isLiked_61 rfl rfl ?_
  refine V.getR (v := 270) fl_X12_84 sh_251 rfl fx_251_46 (by decide) dX12_isLiked_62 ?_
  refine V.iconst (v := 5) dX12_isLiked_65 rfl ?_
  refine V.iload_n 2 dX12_isLiked_66 rfl rfl ?_
  refine V.imul dX12_isLiked_67 ?_
  refine V.iconst (v := 4) dX12_isLiked_68 rfl ?_
  refine V.iadd dX12_isLiked_69 ?_
  obtain ⟨hk, hF⟩ := ck hF
  refine V.iald io_270 hk dX12_isLiked_70 ?_
  refine V.iconst (v := 1) dX12_isLiked_71 rfl ?_
  refine V.icmp_ne (tgt := 79) dX12_isLiked_72 rfl (fun c => ?_) (fun c => ?_)
  · replace hF := iq c hF
    refine V.iconst (v := 0) dX12_isLiked_79 rfl ?_
    exact (v_X12_isLiked_80 hK2 hF)
  · replace hF := ip c hF
    refine V.iconst (v := 1) dX12_isLiked_75 rfl ?_
    refine V.goto (tgt := 80) dX12_isLiked_76 rfl ?_
    exact (v_X12_isLiked_80 hK2 hF)
def X12_isLiked_2 (n : Nat) : Nat → Int32 → Int32 → Mm → Option (Bool × Mm)
  | 0, _, _, _ => none
  | f + 1, x1, x2, h => (if (h.1 251 47) ≤ x2 then (some (true, h)) else (if inB ((5 : Int32) * x2) (aln 270) then (if inB (((5 : Int32) * x2) + (1 : Int32)) (aln 270) then (if inB (((5 : Int32) * x2) + (2 : Int32)) (aln 270) then (bd (X12_calmIf n x1 (h.1 270 ((5 : Int32) * x2).toNatClampNeg) (h.1 270 (((5 : Int32) * x2) + (1 : Int32)).toNatClampNeg) (h.1 270 (((5 : Int32) * x2) + (2 : Int32)).toNatClampNeg) h) (fun r16 h18 => (if inB (((5 : Int32) * x2) + (3 : Int32)) (aln 270) then (if r16 < (h18.1 270 (((5 : Int32) * x2) + (3 : Int32)).toNatClampNeg) then (X12_isLiked_61 n (X12_isLiked_2 n f) x1 x2 false h18) else (X12_isLiked_61 n (X12_isLiked_2 n f) x1 x2 true h18)) else none))) else none) else none) else none))
set_option maxRecDepth 100000 in
set_option maxHeartbeats 4000000 in
theorem v_X12_isLiked_2 {X : WX} {G : GX} {o : Mm} {n : Nat} {rv : Bool} {hz : Mm} : ∀ (f : Nat) (x1 : Int32) (x2 : Int32) (h : Mm), X12_isLiked_2 n f x1 x2 h = some (rv, hz) → V X G RX12 cX12_isLiked 3 (some .boolean) 92 0 0 (QR X G false o (some (.int (b2i rv))) hz) false o 2 [(0, .ref (xa X 251)), (1, .int x1), (2, .int x2)] [] h := by
  intro f
  induction f with
  | zero => intro x1 x2 h hF; exact nomatch (show (none : Option (Bool × Mm)) = some (rv, hz) from hF)
  | succ f ih =>
    intro x1 x2 h hF
    unfold X12_isLiked_2 at hF
    refine V.iload_n 2 dX12_isLiked_2 rfl rfl ?_
    refine V.aload_n 0 dX12_isLiked_3 rfl rfl ?_
    refine V.getI fl_X12_294 sh_251 rfl km_251 dX12_isLiked_4 ?_
    refine V.icmp_ge (tgt := 91) dX12_isLiked_7 rfl (fun c => ?_) (fun c => ?_)
    · replace hF := ip c hF
      refine V.iconst (v := 1) dX12_isLiked_91 rfl ?_
      cases hF
      exact V.bret dX12_isLiked_92
    · replace hF := iq c hF
      refine V.aload_n 0 dX12_isLiked_10 rfl rfl ?_
      refine V.iload_n 1 dX12_isLiked_11 rfl rfl ?_
      refine V.aload_n 0 dX12_isLiked_12 rfl rfl ?_
      refine V.getR (v := 270) fl_X12_84 sh_251 rfl fx_251_46 (by decide) dX12_isLiked_13 ?_
      refine V.iconst (v := 5) dX12_isLiked_16 rfl ?_
      refine V.iload_n 2 dX12_isLiked_17 rfl rfl ?_
      refine V.imul dX12_isLiked_18 ?_
      obtain ⟨hk, hF⟩ := ck hF
      refine V.iald io_270 hk dX12_isLiked_19 ?_
      refine V.aload_n 0 dX12_isLiked_20 rfl rfl ?_
      refine V.getR (v := 270) fl_X12_84 sh_251 rfl fx_251_46 (by decide) dX12_isLiked_21 ?_
      refine V.iconst (v := 5) dX12_isLiked_24 rfl ?_
      refine V.iload_n 2 dX12_isLiked_25 rfl rfl ?_
      refine V.imul dX12_isLiked_26 ?_
      refine V.iconst (v := 1) dX12_isLiked_27 rfl ?_
      refine V.iadd dX12_isLiked_28 ?_
      obtain ⟨hk, hF⟩ := ck hF
      refine V.iald io_270 hk dX12_isLiked_29 ?_
      refine V.aload_n 0 dX12_isLiked_30 rfl rfl ?_
      refine V.getR (v := 270) fl_X12_84 sh_251 rfl fx_251_46 (by decide) dX12_isLiked_31 ?_
      refine V.iconst (v := 5) dX12_isLiked_34 rfl ?_
      refine V.iload_n 2 dX12_isLiked_35 rfl rfl ?_
      refine V.imul dX12_isLiked_36 ?_
      refine V.iconst (v := 2) dX12_isLiked_37 rfl ?_
      refine V.iadd dX12_isLiked_38 ?_
      obtain ⟨hk, hF⟩ := ck hF
      refine V.iald io_270 hk dX12_isLiked_39 ?_
      obtain ⟨r16, h18, hc17, hF⟩ := bd_s hF
      refine V.callVi mf_X12_calmIf ml_X12_439 sh_251 (s_X12_calmIf hc17) (by decide) rfl rfl (Nat.le_of_ble_eq_true rfl) dX12_isLiked_40 ?_
      refine V.aload_n 0 dX12_isLiked_43 rfl rfl ?_
      refine V.getR (v := 270) fl_X12_84 sh_251 rfl fx_251_46 (by decide) dX12_isLiked_44 ?_
      refine V.iconst (v := 5) dX12_isLiked_47 rfl ?_
      refine V.iload_n 2 dX12_isLiked_48 rfl rfl ?_
      refine V.imul dX12_isLiked_49 ?_
      refine V.iconst (v := 3) dX12_isLiked_50 rfl ?_
      refine V.iadd dX12_isLiked_51 ?_
      obtain ⟨hk, hF⟩ := ck hF
      refine V.iald io_270 hk dX12_isLiked_52 ?_
      refine V.icmp_lt (tgt := 60) dX12_isLiked_53 rfl (fun c => ?_) (fun c => ?_)
      · replace hF := ip c hF
        refine V.iconst (v := 0) dX12_isLiked_60 rfl ?_
        exact (v_X12_isLiked_61 ih hF)
      · replace hF := iq c hF
        refine V.iconst (v := 1) dX12_isLiked_56 rfl ?_
        refine V.goto (tgt := 61) dX12_isLiked_57 rfl ?_
        exact (v_X12_isLiked_61 ih hF)
def X12_isLiked (n : Nat) (x1 : Int32) (h : Mm) : Option (Bool × Mm) := (X12_isLiked_2 n n x1 (0 : Int32) h)
set_option maxRecDepth 100000 in
set_option maxHeartbeats 4000000 in
theorem s_X12_isLiked {X : WX} {o : Mm} {n : Nat} {x1 : Int32} {rv : Bool} {hz : Mm} {h : Mm} (hF : X12_isLiked n x1 h = some (rv, hz)) : Sat X yX12_isLiked cX12_isLiked 3 (some .boolean) 92 [.ref (xa X 251), .int x1] false o h (some (.int (b2i rv))) hz := by
  unfold X12_isLiked at hF
  refine Sat.mk (own := RX12) rfl (by decide +kernel) (Nat.le_of_ble_eq_true rfl) (fun G => ?_)
  refine V.sub (lv2 := [(0, _), (1, _)]) [0, 1] rfl ?_
  refine V.iconst (v := 0) dX12_isLiked_0 rfl ?_
  refine V.istore_n [(2, _), (0, _), (1, _)] dX12_isLiked_1 rfl (by decide) rfl ?_
  exact V.sub [1, 2, 0] rfl (v_X12_isLiked_2 n _ _ _ hF)
/-! MonsterCotModel.isCode -/
theorem dX12_isCode_0 : decode cX12_isCode 0 = .ok (.iload_n 0, 1) := by decide +kernel
theorem dX12_isCode_1 : decode cX12_isCode 1 = .ok (.iconst 4, 1) := by decide +kernel
theorem dX12_isCode_2 : decode cX12_isCode 2 = .ok (.if_icmp .lt 9, 3) := by decide +kernel
theorem dX12_isCode_5 : decode cX12_isCode 5 = .ok (.iload_n 0, 1) := by decide +kernel
theorem dX12_isCode_6 : decode cX12_isCode 6 = .ok (.bipush 9, 2) := by decide +kernel
theorem dX12_isCode_8 : decode cX12_isCode 8 = .ok (.if_icmp .ne 7, 3) := by decide +kernel
theorem dX12_isCode_11 : decode cX12_isCode 11 = .ok (.iconst 1, 1) := by decide +kernel
theorem dX12_isCode_12 : decode cX12_isCode 12 = .ok (.goto 4, 3) := by decide +kernel
theorem dX12_isCode_15 : decode cX12_isCode 15 = .ok (.iconst 0, 1) := by decide +kernel
theorem dX12_isCode_16 : decode cX12_isCode 16 = .ok (.ireturn, 1) := by decide +kernel
def X12_isCode_11 (h : Mm) : Option Bool := (some true)
set_option maxRecDepth 100000 in
set_option maxHeartbeats 4000000 in
theorem v_X12_isCode_11 {X : WX} {G : GX} {o : Mm} {rv : Bool} {h : Mm} (hF : X12_isCode_11  h = some rv) : V X G RX12 cX12_isCode 1 (some .boolean) 1 0 0 (QR X G false o (some (.int (b2i rv))) h) false o 11 [] [] h := by
  unfold X12_isCode_11 at hF
  refine V.iconst (v := 1) dX12_isCode_11 rfl ?_
  refine V.goto (tgt := 16) dX12_isCode_12 rfl ?_
  cases hF
  exact V.bret dX12_isCode_16
def X12_isCode (x0 : Int32) (h : Mm) : Option Bool := (if x0 < (4 : Int32) then (X12_isCode_11 h) else (if x0 = (9 : Int32) then (X12_isCode_11 h) else (some false)))
set_option maxRecDepth 100000 in
set_option maxHeartbeats 4000000 in
theorem s_X12_isCode {X : WX} {o : Mm} {x0 : Int32} {rv : Bool} {h : Mm} (hF : X12_isCode x0 h = some rv) : Sat X yX12_isCode cX12_isCode 1 (some .boolean) 1 [.int x0] false o h (some (.int (b2i rv))) h := by
  unfold X12_isCode at hF
  refine Sat.mk (own := RX12) rfl (by decide +kernel) (Nat.le_of_ble_eq_true rfl) (fun G => ?_)
  refine V.sub (lv2 := [(0, _)]) [0] rfl ?_
  refine V.iload_n 0 dX12_isCode_0 rfl rfl ?_
  refine V.iconst (v := 4) dX12_isCode_1 rfl ?_
  refine V.icmp_lt (tgt := 11) dX12_isCode_2 rfl (fun c => ?_) (fun c => ?_)
  · replace hF := ip c hF
    exact V.sub [] rfl (v_X12_isCode_11 hF)
  · replace hF := iq c hF
    refine V.iload_n 0 dX12_isCode_5 rfl rfl ?_
    refine V.bipush (v := 9) dX12_isCode_6 (by decide) ?_
    refine V.icmp_ne (tgt := 15) dX12_isCode_8 rfl (fun c => ?_) (fun c => ?_)
    · replace hF := iq c hF
      refine V.iconst (v := 0) dX12_isCode_15 rfl ?_
      cases hF
      exact V.bret dX12_isCode_16
    · replace hF := ip c hF
      exact V.sub [] rfl (v_X12_isCode_11 hF)
/-! MonsterCotModel.likes -/
theorem dX12_likes_0 : decode cX12_likes 0 = .ok (.aload_n 0, 1) := by decide +kernel
theorem dX12_likes_1 : decode cX12_likes 1 = .ok (.iconst 0, 1) := by decide +kernel
theorem dX12_likes_2 : decode cX12_likes 2 = .ok (.putfield 93, 3) := by decide +kernel
theorem dX12_likes_5 : decode cX12_likes 5 = .ok (.aload_n 0, 1) := by decide +kernel
theorem dX12_likes_6 : decode cX12_likes 6 = .ok (.getfield 291, 3) := by decide +kernel
theorem dX12_likes_9 : decode cX12_likes 9 = .ok (.ifCond .eq 8, 3) := by decide +kernel
theorem dX12_likes_12 : decode cX12_likes 12 = .ok (.iload_n 1, 1) := by decide +kernel
theorem dX12_likes_13 : decode cX12_likes 13 = .ok (.iconst (-1), 1) := by decide +kernel
theorem dX12_likes_14 : decode cX12_likes 14 = .ok (.if_icmp .ge 5, 3) := by decide +kernel
theorem dX12_likes_17 : decode cX12_likes 17 = .ok (.iconst (-1), 1) := by decide +kernel
theorem dX12_likes_18 : decode cX12_likes 18 = .ok (.ireturn, 1) := by decide +kernel
theorem dX12_likes_19 : decode cX12_likes 19 = .ok (.iconst 0, 1) := by decide +kernel
theorem dX12_likes_20 : decode cX12_likes 20 = .ok (.istore_n 2, 1) := by decide +kernel
theorem dX12_likes_21 : decode cX12_likes 21 = .ok (.iconst 0, 1) := by decide +kernel
theorem dX12_likes_22 : decode cX12_likes 22 = .ok (.istore_n 3, 1) := by decide +kernel
theorem dX12_likes_23 : decode cX12_likes 23 = .ok (.iload_n 3, 1) := by decide +kernel
theorem dX12_likes_24 : decode cX12_likes 24 = .ok (.bipush 10, 2) := by decide +kernel
theorem dX12_likes_26 : decode cX12_likes 26 = .ok (.if_icmp .ge 37, 3) := by decide +kernel
theorem dX12_likes_29 : decode cX12_likes 29 = .ok (.iload_n 3, 1) := by decide +kernel
theorem dX12_likes_30 : decode cX12_likes 30 = .ok (.invokestatic 443, 3) := by decide +kernel
theorem dX12_likes_33 : decode cX12_likes 33 = .ok (.ifCond .eq 24, 3) := by decide +kernel
theorem dX12_likes_36 : decode cX12_likes 36 = .ok (.aload_n 0, 1) := by decide +kernel
theorem dX12_likes_37 : decode cX12_likes 37 = .ok (.iload_n 3, 1) := by decide +kernel
theorem dX12_likes_38 : decode cX12_likes 38 = .ok (.invokevirtual 446, 3) := by decide +kernel
theorem dX12_likes_41 : decode cX12_likes 41 = .ok (.ifCond .ne 6, 3) := by decide +kernel
theorem dX12_likes_44 : decode cX12_likes 44 = .ok (.goto 13, 3) := by decide +kernel
theorem dX12_likes_47 : decode cX12_likes 47 = .ok (.iload_n 2, 1) := by decide +kernel
theorem dX12_likes_48 : decode cX12_likes 48 = .ok (.iload_n 1, 1) := by decide +kernel
theorem dX12_likes_49 : decode cX12_likes 49 = .ok (.if_icmp .ne 5, 3) := by decide +kernel
theorem dX12_likes_52 : decode cX12_likes 52 = .ok (.iload_n 3, 1) := by decide +kernel
theorem dX12_likes_53 : decode cX12_likes 53 = .ok (.ireturn, 1) := by decide +kernel
theorem dX12_likes_54 : decode cX12_likes 54 = .ok (.iinc 2 1, 3) := by decide +kernel
theorem dX12_likes_57 : decode cX12_likes 57 = .ok (.iinc 3 1, 3) := by decide +kernel
theorem dX12_likes_60 : decode cX12_likes 60 = .ok (.goto (-37), 3) := by decide +kernel
theorem dX12_likes_63 : decode cX12_likes 63 = .ok (.iload_n 1, 1) := by decide +kernel
theorem dX12_likes_64 : decode cX12_likes 64 = .ok (.iconst (-1), 1) := by decide +kernel
theorem dX12_likes_65 : decode cX12_likes 65 = .ok (.if_icmp .ne 7, 3) := by decide +kernel
theorem dX12_likes_68 : decode cX12_likes 68 = .ok (.iload_n 2, 1) := by decide +kernel
theorem dX12_likes_69 : decode cX12_likes 69 = .ok (.goto 4, 3) := by decide +kernel
theorem dX12_likes_72 : decode cX12_likes 72 = .ok (.iconst (-1), 1) := by decide +kernel
theorem dX12_likes_73 : decode cX12_likes 73 = .ok (.ireturn, 1) := by decide +kernel
def X12_likes_57 (n : Nat) (K23 : Int32 → Int32 → Int32 → Mm → Option (Int32 × Mm)) (x1 : Int32) (x2 : Int32) (x3 : Int32) (h : Mm) : Option (Int32 × Mm) := (K23 x1 x2 (x3 + (1)) h)
set_option maxRecDepth 100000 in
set_option maxHeartbeats 4000000 in
theorem v_X12_likes_57 {X : WX} {G : GX} {o : Mm} {n : Nat} {K23 : Int32 → Int32 → Int32 → Mm → Option (Int32 × Mm)} {rv : Int32} {hz : Mm} (hK23 : ∀ (x1 : Int32) (x2 : Int32) (x3 : Int32) (h : Mm), K23 x1 x2 x3 h = some (rv, hz) → V X G RX12 cX12_likes 4 (some .int) 93 0 0 (QR X G false o (some (.int rv)) hz) false o 23 [(0, .ref (xa X 251)), (1, .int x1), (2, .int x2), (3, .int x3)] [] h) {x1 : Int32} {x2 : Int32} {x3 : Int32} {h : Mm} (hF : X12_likes_57 n K23 x1 x2 x3 h = some (rv, hz)) : V X G RX12 cX12_likes 4 (some .int) 93 0 0 (QR X G false o (some (.int rv)) hz) false o 57 [(0, .ref (xa X 251)), (1, .int x1), (2, .int x2), (3, .int x3)] [] h := by
  unfold X12_likes_57 at hF
  refine V.iinc (v := (x3 + (1))) 3 [(3, _), (0, _), (1, _), (2, _)] dX12_likes_57 rfl rfl (by decide) rfl ?_
  refine V.goto (tgt := 23) dX12_likes_60 rfl ?_
  exact V.sub [1, 2, 3, 0] rfl (hK23 _ _ _ _ hF)
def X12_likes_23 (n : Nat) : Nat → Int32 → Int32 → Int32 → Mm → Option (Int32 × Mm)
  | 0, _, _, _, _ => none
  | f + 1, x1, x2, x3, h => (if (10 : Int32) ≤ x3 then (if x1 = (-1 : Int32) then (some (x2, h)) else (some ((-1 : Int32), h))) else (bp (X12_isCode x3 h) (fun r21 => (if r21 = true then (bd (X12_isLiked n x3 h) (fun r23 h25 => (if r23 = true then (if x2 = x1 then (some (x3, h25)) else (X12_likes_57 n (X12_likes_23 n f) x1 (x2 + (1)) x3 h25)) else (X12_likes_57 n (X12_likes_23 n f) x1 x2 x3 h25)))) else (X12_likes_57 n (X12_likes_23 n f) x1 x2 x3 h)))))
set_option maxRecDepth 100000 in
set_option maxHeartbeats 4000000 in
theorem v_X12_likes_23 {X : WX} {G : GX} {o : Mm} {n : Nat} {rv : Int32} {hz : Mm} : ∀ (f : Nat) (x1 : Int32) (x2 : Int32) (x3 : Int32) (h : Mm), X12_likes_23 n f x1 x2 x3 h = some (rv, hz) → V X G RX12 cX12_likes 4 (some .int) 93 0 0 (QR X G false o (some (.int rv)) hz) false o 23 [(0, .ref (xa X 251)), (1, .int x1), (2, .int x2), (3, .int x3)] [] h := by
  intro f
  induction f with
  | zero => intro x1 x2 x3 h hF; exact nomatch (show (none : Option (Int32 × Mm)) = some (rv, hz) from hF)
  | succ f ih =>
    intro x1 x2 x3 h hF
    unfold X12_likes_23 at hF
    refine V.iload_n 3 dX12_likes_23 rfl rfl ?_
    refine V.bipush (v := 10) dX12_likes_24 (by decide) ?_
    refine V.icmp_ge (tgt := 63) dX12_likes_26 rfl (fun c => ?_) (fun c => ?_)
    · replace hF := ip c hF
      refine V.iload_n 1 dX12_likes_63 rfl rfl ?_
      refine V.iconst (v := -1) dX12_likes_64 rfl ?_
      refine V.icmp_ne (tgt := 72) dX12_likes_65 rfl (fun c => ?_) (fun c => ?_)
      · replace hF := iq c hF
        refine V.iconst (v := -1) dX12_likes_72 rfl ?_
        cases hF
        exact V.iret dX12_likes_73
      · replace hF := ip c hF
        refine V.iload_n 2 dX12_likes_68 rfl rfl ?_
        refine V.goto (tgt := 73) dX12_likes_69 rfl ?_
        cases hF
        exact V.iret dX12_likes_73
    · replace hF := iq c hF
      refine V.iload_n 3 dX12_likes_29 rfl rfl ?_
      obtain ⟨r21, hc22, hF⟩ := bp_s hF
      refine V.callSi mf_X12_isCode ml_X12_443 (s_X12_isCode hc22) (by decide) rfl rfl (Nat.le_of_ble_eq_true rfl) dX12_likes_30 ?_
      refine V.ifz_eq (tgt := 57) dX12_likes_33 rfl (fun c => ?_) (fun c => ?_)
      · replace hF := iq c hF
        exact (v_X12_likes_57 ih hF)
      · replace hF := ip c hF
        refine V.aload_n 0 dX12_likes_36 rfl rfl ?_
        refine V.iload_n 3 dX12_likes_37 rfl rfl ?_
        obtain ⟨r23, h25, hc24, hF⟩ := bd_s hF
        refine V.callVi mf_X12_isLiked ml_X12_446 sh_251 (s_X12_isLiked hc24) (by decide) rfl rfl (Nat.le_of_ble_eq_true rfl) dX12_likes_38 ?_
        refine V.ifz_ne (tgt := 47) dX12_likes_41 rfl (fun c => ?_) (fun c => ?_)
        · replace hF := ip c hF
          refine V.iload_n 2 dX12_likes_47 rfl rfl ?_
          refine V.iload_n 1 dX12_likes_48 rfl rfl ?_
          refine V.icmp_ne (tgt := 54) dX12_likes_49 rfl (fun c => ?_) (fun c => ?_)
          · replace hF := iq c hF
            refine V.iinc (v := (x2 + (1))) 2 [(2, _), (0, _), (1, _), (3, _)] dX12_likes_54 rfl rfl (by decide) rfl ?_
            exact V.sub [1, 2, 0, 3] rfl (v_X12_likes_57 ih hF)
          · replace hF := ip c hF
            refine V.iload_n 3 dX12_likes_52 rfl rfl ?_
            cases hF
            exact V.iret dX12_likes_53
        · replace hF := iq c hF
          refine V.goto (tgt := 57) dX12_likes_44 rfl ?_
          exact (v_X12_likes_57 ih hF)
def X12_likes (n : Nat) (x1 : Int32) (h : Mm) : Option (Int32 × Mm) := (if ((wI h 251 0 (0 : Int32)).1 251 27) = 0 then (some ((-1 : Int32), (wI h 251 0 (0 : Int32)))) else (if (-1 : Int32) ≤ x1 then (X12_likes_23 n n x1 (0 : Int32) (0 : Int32) (wI h 251 0 (0 : Int32))) else (some ((-1 : Int32), (wI h 251 0 (0 : Int32))))))
set_option maxRecDepth 100000 in
set_option maxHeartbeats 4000000 in
theorem s_X12_likes {X : WX} {o : Mm} {n : Nat} {x1 : Int32} {rv : Int32} {hz : Mm} {h : Mm} (hF : X12_likes n x1 h = some (rv, hz)) : Sat X yX12_likes cX12_likes 4 (some .int) 93 [.ref (xa X 251), .int x1] false o h (some (.int rv)) hz := by
  unfold X12_likes at hF
  refine Sat.mk (own := RX12) rfl (by decide +kernel) (Nat.le_of_ble_eq_true rfl) (fun G => ?_)
  refine V.sub (lv2 := [(0, _), (1, _)]) [0, 1] rfl ?_
  refine V.aload_n 0 dX12_likes_0 rfl rfl ?_
  refine V.iconst (v := 0) dX12_likes_1 rfl ?_
  refine V.putI fl_X12_93 rfl (tyX12_ok 0 (by decide)) rfl rfl sh_251 rfl km_251 dX12_likes_2 ?_
  refine V.aload_n 0 dX12_likes_5 rfl rfl ?_
  refine V.getI fl_X12_291 sh_251 rfl km_251 dX12_likes_6 ?_
  refine V.if_eq (tgt := 17) dX12_likes_9 rfl (fun c => ?_) (fun c => ?_)
  · replace hF := ip c hF
    refine V.iconst (v := -1) dX12_likes_17 rfl ?_
    cases hF
    exact V.iret dX12_likes_18
  · replace hF := iq c hF
    refine V.iload_n 1 dX12_likes_12 rfl rfl ?_
    refine V.iconst (v := -1) dX12_likes_13 rfl ?_
    refine V.icmp_ge (tgt := 19) dX12_likes_14 rfl (fun c => ?_) (fun c => ?_)
    · replace hF := ip c hF
      refine V.iconst (v := 0) dX12_likes_19 rfl ?_
      refine V.istore_n [(2, _), (0, _), (1, _)] dX12_likes_20 rfl (by decide) rfl ?_
      refine V.iconst (v := 0) dX12_likes_21 rfl ?_
      refine V.istore_n [(3, _), (2, _), (0, _), (1, _)] dX12_likes_22 rfl (by decide) rfl ?_
      exact V.sub [2, 3, 1, 0] rfl (v_X12_likes_23 n _ _ _ _ hF)
    · replace hF := iq c hF
      refine V.iconst (v := -1) dX12_likes_17 rfl ?_
      cases hF
      exact V.iret dX12_likes_18
/-! MonsterCotModel.probe -/
theorem dX12_probe_0 : decode cX12_probe 0 = .ok (.aload_n 0, 1) := by decide +kernel
theorem dX12_probe_1 : decode cX12_probe 1 = .ok (.iconst 0, 1) := by decide +kernel
theorem dX12_probe_2 : decode cX12_probe 2 = .ok (.putfield 93, 3) := by decide +kernel
theorem dX12_probe_5 : decode cX12_probe 5 = .ok (.aload_n 0, 1) := by decide +kernel
theorem dX12_probe_6 : decode cX12_probe 6 = .ok (.iload_n 1, 1) := by decide +kernel
theorem dX12_probe_7 : decode cX12_probe 7 = .ok (.invokevirtual 337, 3) := by decide +kernel
theorem dX12_probe_10 : decode cX12_probe 10 = .ok (.ifCond .eq 15, 3) := by decide +kernel
theorem dX12_probe_13 : decode cX12_probe 13 = .ok (.iload_n 2, 1) := by decide +kernel
theorem dX12_probe_14 : decode cX12_probe 14 = .ok (.i2l, 1) := by decide +kernel
theorem dX12_probe_15 : decode cX12_probe 15 = .ok (.lconst 0, 1) := by decide +kernel
theorem dX12_probe_16 : decode cX12_probe 16 = .ok (.ldc2_w 437, 3) := by decide +kernel
theorem dX12_probe_19 : decode cX12_probe 19 = .ok (.invokestatic 214, 3) := by decide +kernel
theorem dX12_probe_22 : decode cX12_probe 22 = .ok (.ifCond .ne 5, 3) := by decide +kernel
theorem dX12_probe_25 : decode cX12_probe 25 = .ok (.iconst (-1), 1) := by decide +kernel
theorem dX12_probe_26 : decode cX12_probe 26 = .ok (.ireturn, 1) := by decide +kernel
theorem dX12_probe_27 : decode cX12_probe 27 = .ok (.iconst 0, 1) := by decide +kernel
theorem dX12_probe_28 : decode cX12_probe 28 = .ok (.istore_n 3, 1) := by decide +kernel
theorem dX12_probe_29 : decode cX12_probe 29 = .ok (.iconst 0, 1) := by decide +kernel
theorem dX12_probe_30 : decode cX12_probe 30 = .ok (.istore 4, 2) := by decide +kernel
theorem dX12_probe_32 : decode cX12_probe 32 = .ok (.iload 4, 2) := by decide +kernel
theorem dX12_probe_34 : decode cX12_probe 34 = .ok (.bipush 10, 2) := by decide +kernel
theorem dX12_probe_36 : decode cX12_probe 36 = .ok (.if_icmp .ge 37, 3) := by decide +kernel
theorem dX12_probe_39 : decode cX12_probe 39 = .ok (.iload_n 3, 1) := by decide +kernel
theorem dX12_probe_40 : decode cX12_probe 40 = .ok (.iload 4, 2) := by decide +kernel
theorem dX12_probe_42 : decode cX12_probe 42 = .ok (.invokestatic 443, 3) := by decide +kernel
theorem dX12_probe_45 : decode cX12_probe 45 = .ok (.ifCond .eq 19, 3) := by decide +kernel
theorem dX12_probe_48 : decode cX12_probe 48 = .ok (.aload_n 0, 1) := by decide +kernel
theorem dX12_probe_49 : decode cX12_probe 49 = .ok (.iload 4, 2) := by decide +kernel
theorem dX12_probe_51 : decode cX12_probe 51 = .ok (.invokevirtual 446, 3) := by decide +kernel
theorem dX12_probe_54 : decode cX12_probe 54 = .ok (.ifCond .eq 10, 3) := by decide +kernel
theorem dX12_probe_57 : decode cX12_probe 57 = .ok (.iconst 1, 1) := by decide +kernel
theorem dX12_probe_58 : decode cX12_probe 58 = .ok (.iload 4, 2) := by decide +kernel
theorem dX12_probe_60 : decode cX12_probe 60 = .ok (.ishl, 1) := by decide +kernel
theorem dX12_probe_61 : decode cX12_probe 61 = .ok (.goto 4, 3) := by decide +kernel
theorem dX12_probe_64 : decode cX12_probe 64 = .ok (.iconst 0, 1) := by decide +kernel
theorem dX12_probe_65 : decode cX12_probe 65 = .ok (.ior, 1) := by decide +kernel
theorem dX12_probe_66 : decode cX12_probe 66 = .ok (.istore_n 3, 1) := by decide +kernel
theorem dX12_probe_67 : decode cX12_probe 67 = .ok (.iinc 4 1, 3) := by decide +kernel
theorem dX12_probe_70 : decode cX12_probe 70 = .ok (.goto (-38), 3) := by decide +kernel
theorem dX12_probe_73 : decode cX12_probe 73 = .ok (.iload_n 3, 1) := by decide +kernel
theorem dX12_probe_74 : decode cX12_probe 74 = .ok (.ifCond .ne 5, 3) := by decide +kernel
theorem dX12_probe_77 : decode cX12_probe 77 = .ok (.iconst (-1), 1) := by decide +kernel
theorem dX12_probe_78 : decode cX12_probe 78 = .ok (.ireturn, 1) := by decide +kernel
theorem dX12_probe_79 : decode cX12_probe 79 = .ok (.iconst (-1), 1) := by decide +kernel
theorem dX12_probe_80 : decode cX12_probe 80 = .ok (.istore 4, 2) := by decide +kernel
theorem dX12_probe_82 : decode cX12_probe 82 = .ok (.iconst 0, 1) := by decide +kernel
theorem dX12_probe_83 : decode cX12_probe 83 = .ok (.istore 5, 2) := by decide +kernel
theorem dX12_probe_85 : decode cX12_probe 85 = .ok (.iconst 0, 1) := by decide +kernel
theorem dX12_probe_86 : decode cX12_probe 86 = .ok (.istore 6, 2) := by decide +kernel
theorem dX12_probe_88 : decode cX12_probe 88 = .ok (.iload 6, 2) := by decide +kernel
theorem dX12_probe_90 : decode cX12_probe 90 = .ok (.aload_n 0, 1) := by decide +kernel
theorem dX12_probe_91 : decode cX12_probe 91 = .ok (.getfield 288, 3) := by decide +kernel
theorem dX12_probe_94 : decode cX12_probe 94 = .ok (.if_icmp .ge 97, 3) := by decide +kernel
theorem dX12_probe_97 : decode cX12_probe 97 = .ok (.iconst 0, 1) := by decide +kernel
theorem dX12_probe_98 : decode cX12_probe 98 = .ok (.istore 7, 2) := by decide +kernel
theorem dX12_probe_100 : decode cX12_probe 100 = .ok (.iconst 0, 1) := by decide +kernel
theorem dX12_probe_101 : decode cX12_probe 101 = .ok (.istore 8, 2) := by decide +kernel
theorem dX12_probe_103 : decode cX12_probe 103 = .ok (.iload 8, 2) := by decide +kernel
theorem dX12_probe_105 : decode cX12_probe 105 = .ok (.bipush 10, 2) := by decide +kernel
theorem dX12_probe_107 : decode cX12_probe 107 = .ok (.if_icmp .ge 47, 3) := by decide +kernel
theorem dX12_probe_110 : decode cX12_probe 110 = .ok (.iload_n 3, 1) := by decide +kernel
theorem dX12_probe_111 : decode cX12_probe 111 = .ok (.iload 8, 2) := by decide +kernel
theorem dX12_probe_113 : decode cX12_probe 113 = .ok (.invokestatic 226, 3) := by decide +kernel
theorem dX12_probe_116 : decode cX12_probe 116 = .ok (.ifCond .eq 32, 3) := by decide +kernel
theorem dX12_probe_119 : decode cX12_probe 119 = .ok (.iload 7, 2) := by decide +kernel
theorem dX12_probe_121 : decode cX12_probe 121 = .ok (.aload_n 0, 1) := by decide +kernel
theorem dX12_probe_122 : decode cX12_probe 122 = .ok (.iload 8, 2) := by decide +kernel
theorem dX12_probe_124 : decode cX12_probe 124 = .ok (.iload 6, 2) := by decide +kernel
theorem dX12_probe_126 : decode cX12_probe 126 = .ok (.aload_n 0, 1) := by decide +kernel
theorem dX12_probe_127 : decode cX12_probe 127 = .ok (.iload 6, 2) := by decide +kernel
theorem dX12_probe_129 : decode cX12_probe 129 = .ok (.invokevirtual 322, 3) := by decide +kernel
theorem dX12_probe_132 : decode cX12_probe 132 = .ok (.iload_n 1, 1) := by decide +kernel
theorem dX12_probe_133 : decode cX12_probe 133 = .ok (.invokevirtual 439, 3) := by decide +kernel
theorem dX12_probe_136 : decode cX12_probe 136 = .ok (.iload_n 2, 1) := by decide +kernel
theorem dX12_probe_137 : decode cX12_probe 137 = .ok (.if_icmp .lt 7, 3) := by decide +kernel
theorem dX12_probe_140 : decode cX12_probe 140 = .ok (.iconst 1, 1) := by decide +kernel
theorem dX12_probe_141 : decode cX12_probe 141 = .ok (.goto 4, 3) := by decide +kernel
theorem dX12_probe_144 : decode cX12_probe 144 = .ok (.iconst (-1), 1) := by decide +kernel
theorem dX12_probe_145 : decode cX12_probe 145 = .ok (.iadd, 1) := by decide +kernel
theorem dX12_probe_146 : decode cX12_probe 146 = .ok (.istore 7, 2) := by decide +kernel
theorem dX12_probe_148 : decode cX12_probe 148 = .ok (.iinc 8 1, 3) := by decide +kernel
theorem dX12_probe_151 : decode cX12_probe 151 = .ok (.goto (-48), 3) := by decide +kernel
theorem dX12_probe_154 : decode cX12_probe 154 = .ok (.iload 7, 2) := by decide +kernel
theorem dX12_probe_156 : decode cX12_probe 156 = .ok (.invokestatic 449, 3) := by decide +kernel
theorem dX12_probe_159 : decode cX12_probe 159 = .ok (.istore 7, 2) := by decide +kernel
theorem dX12_probe_161 : decode cX12_probe 161 = .ok (.iload 4, 2) := by decide +kernel
theorem dX12_probe_163 : decode cX12_probe 163 = .ok (.iconst (-1), 1) := by decide +kernel
theorem dX12_probe_164 : decode cX12_probe 164 = .ok (.if_icmp .eq 13, 3) := by decide +kernel
theorem dX12_probe_167 : decode cX12_probe 167 = .ok (.iload 7, 2) := by decide +kernel
theorem dX12_probe_169 : decode cX12_probe 169 = .ok (.iload 5, 2) := by decide +kernel
theorem dX12_probe_171 : decode cX12_probe 171 = .ok (.if_icmp .lt 6, 3) := by decide +kernel
theorem dX12_probe_174 : decode cX12_probe 174 = .ok (.goto 11, 3) := by decide +kernel
theorem dX12_probe_177 : decode cX12_probe 177 = .ok (.iload 6, 2) := by decide +kernel
theorem dX12_probe_179 : decode cX12_probe 179 = .ok (.istore 4, 2) := by decide +kernel
theorem dX12_probe_181 : decode cX12_probe 181 = .ok (.iload 7, 2) := by decide +kernel
theorem dX12_probe_183 : decode cX12_probe 183 = .ok (.istore 5, 2) := by decide +kernel
theorem dX12_probe_185 : decode cX12_probe 185 = .ok (.iinc 6 1, 3) := by decide +kernel
theorem dX12_probe_188 : decode cX12_probe 188 = .ok (.goto (-100), 3) := by decide +kernel
theorem dX12_probe_191 : decode cX12_probe 191 = .ok (.iload 4, 2) := by decide +kernel
theorem dX12_probe_193 : decode cX12_probe 193 = .ok (.ireturn, 1) := by decide +kernel
def X12_probe_65 (n : Nat) (K32 : Int32 → Int32 → Int32 → Int32 → Mm → Option (Int32 × Mm)) (x1 : Int32) (x2 : Int32) (x4 : Int32) (s0 : Int32) (s1 : Int32) (h : Mm) : Option (Int32 × Mm) := (K32 x1 x2 (s0 ||| s1) (x4 + (1)) h)
set_option maxRecDepth 100000 in
set_option maxHeartbeats 4000000 in
theorem v_X12_probe_65 {X : WX} {G : GX} {o : Mm} {n : Nat} {K32 : Int32 → Int32 → Int32 → Int32 → Mm → Option (Int32 × Mm)} {rv : Int32} {hz : Mm} (hK32 : ∀ (x1 : Int32) (x2 : Int32) (x3 : Int32) (x4 : Int32) (h : Mm), K32 x1 x2 x3 x4 h = some (rv, hz) → V X G RX12 cX12_probe 9 (some .int) 93 0 0 (QR X G false o (some (.int rv)) hz) false o 32 [(0, .ref (xa X 251)), (1, .int x1), (2, .int x2), (3, .int x3), (4, .int x4)] [] h) {x1 : Int32} {x2 : Int32} {x4 : Int32} {s0 : Int32} {s1 : Int32} {h : Mm} (hF : X12_probe_65 n K32 x1 x2 x4 s0 s1 h = some (rv, hz)) : V X G RX12 cX12_probe 9 (some .int) 93 0 0 (QR X G false o (some (.int rv)) hz) false o 65 [(0, .ref (xa X 251)), (1, .int x1), (2, .int x2), (4, .int x4)] [.int s1, .int s0] h := by
  unfold X12_probe_65 at hF
  refine V.ior dX12_probe_65 ?_
  refine V.istore_n [(3, _), (0, _), (1, _), (2, _), (4, _)] dX12_probe_66 rfl (by decide) rfl ?_
  refine V.iinc (v := (x4 + (1))) 4 [(4, _), (3, _), (0, _), (1, _), (2, _)] dX12_probe_67 rfl rfl (by decide) rfl ?_
  refine V.goto (tgt := 32) dX12_probe_70 rfl ?_
  exact V.sub [2, 3, 4, 1, 0] rfl (hK32 _ _ _ _ _ hF)
def X12_probe_64 (n : Nat) (K32 : Int32 → Int32 → Int32 → Int32 → Mm → Option (Int32 × Mm)) (x1 : Int32) (x2 : Int32) (x4 : Int32) (s0 : Int32) (h : Mm) : Option (Int32 × Mm) := (X12_probe_65 n K32 x1 x2 x4 s0 (0 : Int32) h)
set_option maxRecDepth 100000 in
set_option maxHeartbeats 4000000 in
theorem v_X12_probe_64 {X : WX} {G : GX} {o : Mm} {n : Nat} {K32 : Int32 → Int32 → Int32 → Int32 → Mm → Option (Int32 × Mm)} {rv : Int32} {hz : Mm} (hK32 : ∀ (x1 : Int32) (x2 : Int32) (x3 : Int32) (x4 : Int32) (h : Mm), K32 x1 x2 x3 x4 h = some (rv, hz) → V X G RX12 cX12_probe 9 (some .int) 93 0 0 (QR X G false o (some (.int rv)) hz) false o 32 [(0, .ref (xa X 251)), (1, .int x1), (2, .int x2), (3, .int x3), (4, .int x4)] [] h) {x1 : Int32} {x2 : Int32} {x4 : Int32} {s0 : Int32} {h : Mm} (hF : X12_probe_64 n K32 x1 x2 x4 s0 h = some (rv, hz)) : V X G RX12 cX12_probe 9 (some .int) 93 0 0 (QR X G false o (some (.int rv)) hz) false o 64 [(0, .ref (xa X 251)), (1, .int x1), (2, .int x2), (4, .int x4)] [.int s0] h := by
  unfold X12_probe_64 at hF
  refine V.iconst (v := 0) dX12_probe_64 rfl ?_
  exact (v_X12_probe_65 hK32 hF)
def X12_probe_148 (n : Nat) (K88 : Int32 → Int32 → Int32 → Int32 → Int32 → Int32 → Mm → Option (Int32 × Mm)) (K103 : Int32 → Int32 → Int32 → Int32 → Int32 → Int32 → Int32 → Int32 → Mm → Option (Int32 × Mm)) (x1 : Int32) (x2 : Int32) (x3 : Int32) (x4 : Int32) (x5 : Int32) (x6 : Int32) (x7 : Int32) (x8 : Int32) (h : Mm) : Option (Int32 × Mm) := (K103 x1 x2 x3 x4 x5 x6 x7 (x8 + (1)) h)
set_option maxRecDepth 100000 in
set_option maxHeartbeats 4000000 in
theorem v_X12_probe_148 {X : WX} {G : GX} {o : Mm} {n : Nat} {K88 : Int32 → Int32 → Int32 → Int32 → Int32 → Int32 → Mm → Option (Int32 × Mm)} {K103 : Int32 → Int32 → Int32 → Int32 → Int32 → Int32 → Int32 → Int32 → Mm → Option (Int32 × Mm)} {rv : Int32} {hz : Mm} (hK88 : ∀ (x1 : Int32) (x2 : Int32) (x3 : Int32) (x4 : Int32) (x5 : Int32) (x6 : Int32) (h : Mm), K88 x1 x2 x3 x4 x5 x6 h = some (rv, hz) → V X G RX12 cX12_probe 9 (some .int) 93 0 0 (QR X G false o (some (.int rv)) hz) false o 88 [(0, .ref (xa X 251)), (1, .int x1), (2, .int x2), (3, .int x3), (4, .int x4), (5, .int x5), (6, .int x6)] [] h) (hK103 : ∀ (x1 : Int32) (x2 : Int32) (x3 : Int32) (x4 : Int32) (x5 : Int32) (x6 : Int32) (x7 : Int32) (x8 : Int32) (h : Mm), K103 x1 x2 x3 x4 x5 x6 x7 x8 h = some (rv, hz) → V X G RX12 cX12_probe 9 (some .int) 93 0 0 (QR X G false o (some (.int rv)) hz) false o 103 [(0, .ref (xa X 251)), (1, .int x1), (2, .int x2), (3, .int x3), (4, .int x4), (5, .int x5), (6, .int x6), (7, .int x7), (8, .int x8)] [] h) {x1 : Int32} {x2 : Int32} {x3 : Int32} {x4 : Int32} {x5 : Int32} {x6 : Int32} {x7 : Int32} {x8 : Int32} {h : Mm} (hF : X12_probe_148 n K88 K103 x1 x2 x3 x4 x5 x6 x7 x8 h = some (rv, hz)) : V X G RX12 cX12_probe 9 (some .int) 93 0 0 (QR X G false o (some (.int rv)) hz) false o 148 [(0, .ref (xa X 251)), (1, .int x1), (2, .int x2), (3, .int x3), (4, .int x4), (5, .int x5), (6, .int x6), (7, .int x7), (8, .int x8)] [] h := by
  unfold X12_probe_148 at hF
  refine V.iinc (v := (x8 + (1))) 8 [(8, _), (0, _), (1, _), (2, _), (3, _), (4, _), (5, _), (6, _), (7, _)] dX12_probe_148 rfl rfl (by decide) rfl ?_
  refine V.goto (tgt := 103) dX12_probe_151 rfl ?_
  exact V.sub [1, 2, 3, 4, 5, 6, 7, 8, 0] rfl (hK103 _ _ _ _ _ _ _ _ _ hF)
def X12_probe_145 (n : Nat) (K88 : Int32 → Int32 → Int32 → Int32 → Int32 → Int32 → Mm → Option (Int32 × Mm)) (K103 : Int32 → Int32 → Int32 → Int32 → Int32 → Int32 → Int32 → Int32 → Mm → Option (Int32 × Mm)) (x1 : Int32) (x2 : Int32) (x3 : Int32) (x4 : Int32) (x5 : Int32) (x6 : Int32) (x8 : Int32) (s0 : Int32) (s1 : Int32) (h : Mm) : Option (Int32 × Mm) := (X12_probe_148 n K88 K103 x1 x2 x3 x4 x5 x6 (s0 + s1) x8 h)
set_option maxRecDepth 100000 in
set_option maxHeartbeats 4000000 in
theorem v_X12_probe_145 {X : WX} {G : GX} {o : Mm} {n : Nat} {K88 : Int32 → Int32 → Int32 → Int32 → Int32 → Int32 → Mm → Option (Int32 × Mm)} {K103 : Int32 → Int32 → Int32 → Int32 → Int32 → Int32 → Int32 → Int32 → Mm → Option (Int32 × Mm)} {rv : Int32} {hz : Mm} (hK88 : ∀ (x1 : Int32) (x2 : Int32) (x3 : Int32) (x4 : Int32) (x5 : Int32) (x6 : Int32) (h : Mm), K88 x1 x2 x3 x4 x5 x6 h = some (rv, hz) → V X G RX12 cX12_probe 9 (some .int) 93 0 0 (QR X G false o (some (.int rv)) hz) false o 88 [(0, .ref (xa X 251)), (1, .int x1), (2, .int x2), (3, .int x3), (4, .int x4), (5, .int x5), (6, .int x6)] [] h) (hK103 : ∀ (x1 : Int32) (x2 : Int32) (x3 : Int32) (x4 : Int32) (x5 : Int32) (x6 : Int32) (x7 : Int32) (x8 : Int32) (h : Mm), K103 x1 x2 x3 x4 x5 x6 x7 x8 h = some (rv, hz) → V X G RX12 cX12_probe 9 (some .int) 93 0 0 (QR X G false o (some (.int rv)) hz) false o 103 [(0, .ref (xa X 251)), (1, .int x1), (2, .int x2), (3, .int x3), (4, .int x4), (5, .int x5), (6, .int x6), (7, .int x7), (8, .int x8)] [] h) {x1 : Int32} {x2 : Int32} {x3 : Int32} {x4 : Int32} {x5 : Int32} {x6 : Int32} {x8 : Int32} {s0 : Int32} {s1 : Int32} {h : Mm} (hF : X12_probe_145 n K88 K103 x1 x2 x3 x4 x5 x6 x8 s0 s1 h = some (rv, hz)) : V X G RX12 cX12_probe 9 (some .int) 93 0 0 (QR X G false o (some (.int rv)) hz) false o 145 [(0, .ref (xa X 251)), (1, .int x1), (2, .int x2), (3, .int x3), (4, .int x4), (5, .int x5), (6, .int x6), (8, .int x8)] [.int s1, .int s0] h := by
  unfold X12_probe_145 at hF
  refine V.iadd dX12_probe_145 ?_
  refine V.istore [(7, _), (0, _), (1, _), (2, _), (3, _), (4, _), (5, _), (6, _), (8, _)] dX12_probe_146 (by decide) rfl ?_
  exact V.sub [1, 2, 3, 4, 5, 6, 7, 0, 8] rfl (v_X12_probe_148 hK88 hK103 hF)
def X12_probe_185 (n : Nat) (K88 : Int32 → Int32 → Int32 → Int32 → Int32 → Int32 → Mm → Option (Int32 × Mm)) (x1 : Int32) (x2 : Int32) (x3 : Int32) (x4 : Int32) (x5 : Int32) (x6 : Int32) (h : Mm) : Option (Int32 × Mm) := (K88 x1 x2 x3 x4 x5 (x6 + (1)) h)
set_option maxRecDepth 100000 in
set_option maxHeartbeats 4000000 in
theorem v_X12_probe_185 {X : WX} {G : GX} {o : Mm} {n : Nat} {K88 : Int32 → Int32 → Int32 → Int32 → Int32 → Int32 → Mm → Option (Int32 × Mm)} {rv : Int32} {hz : Mm} (hK88 : ∀ (x1 : Int32) (x2 : Int32) (x3 : Int32) (x4 : Int32) (x5 : Int32) (x6 : Int32) (h : Mm), K88 x1 x2 x3 x4 x5 x6 h = some (rv, hz) → V X G RX12 cX12_probe 9 (some .int) 93 0 0 (QR X G false o (some (.int rv)) hz) false o 88 [(0, .ref (xa X 251)), (1, .int x1), (2, .int x2), (3, .int x3), (4, .int x4), (5, .int x5), (6, .int x6)] [] h) {x1 : Int32} {x2 : Int32} {x3 : Int32} {x4 : Int32} {x5 : Int32} {x6 : Int32} {h : Mm} (hF : X12_probe_185 n K88 x1 x2 x3 x4 x5 x6 h = some (rv, hz)) : V X G RX12 cX12_probe 9 (some .int) 93 0 0 (QR X G false o (some (.int rv)) hz) false o 185 [(0, .ref (xa X 251)), (1, .int x1), (2, .int x2), (3, .int x3), (4, .int x4), (5, .int x5), (6, .int x6)] [] h := by
  unfold X12_probe_185 at hF
  refine V.iinc (v := (x6 + (1))) 6 [(6, _), (0, _), (1, _), (2, _), (3, _), (4, _), (5, _)] dX12_probe_185 rfl rfl (by decide) rfl ?_
  refine V.goto (tgt := 88) dX12_probe_188 rfl ?_
  exact V.sub [1, 2, 3, 4, 5, 6, 0] rfl (hK88 _ _ _ _ _ _ _ hF)
def X12_probe_177 (n : Nat) (K88 : Int32 → Int32 → Int32 → Int32 → Int32 → Int32 → Mm → Option (Int32 × Mm)) (x1 : Int32) (x2 : Int32) (x3 : Int32) (x6 : Int32) (x7 : Int32) (h : Mm) : Option (Int32 × Mm) := (X12_probe_185 n K88 x1 x2 x3 x6 x7 x6 h)
set_option maxRecDepth 100000 in
set_option maxHeartbeats 4000000 in
theorem v_X12_probe_177 {X : WX} {G : GX} {o : Mm} {n : Nat} {K88 : Int32 → Int32 → Int32 → Int32 → Int32 → Int32 → Mm → Option (Int32 × Mm)} {rv : Int32} {hz : Mm} (hK88 : ∀ (x1 : Int32) (x2 : Int32) (x3 : Int32) (x4 : Int32) (x5 : Int32) (x6 : Int32) (h : Mm), K88 x1 x2 x3 x4 x5 x6 h = some (rv, hz) → V X G RX12 cX12_probe 9 (some .int) 93 0 0 (QR X G false o (some (.int rv)) hz) false o 88 [(0, .ref (xa X 251)), (1, .int x1), (2, .int x2), (3, .int x3), (4, .int x4), (5, .int x5), (6, .int x6)] [] h) {x1 : Int32} {x2 : Int32} {x3 : Int32} {x6 : Int32} {x7 : Int32} {h : Mm} (hF : X12_probe_177 n K88 x1 x2 x3 x6 x7 h = some (rv, hz)) : V X G RX12 cX12_probe 9 (some .int) 93 0 0 (QR X G false o (some (.int rv)) hz) false o 177 [(0, .ref (xa X 251)), (1, .int x1), (2, .int x2), (3, .int x3), (6, .int x6), (7, .int x7)] [] h := by
  unfold X12_probe_177 at hF
  refine V.iload 4 dX12_probe_177 rfl ?_
  refine V.istore [(4, _), (0, _), (1, _), (2, _), (3, _), (6, _), (7, _)] dX12_probe_179 (by decide) rfl ?_
  refine V.iload 6 dX12_probe_181 rfl ?_
  refine V.istore [(5, _), (4, _), (0, _), (1, _), (2, _), (3, _), (6, _), (7, _)] dX12_probe_183 (by decide) rfl ?_
  exact V.sub [2, 3, 4, 5, 1, 0, 6] rfl (v_X12_probe_185 hK88 hF)
def X12_probe_103 (n : Nat) (K88 : Int32 → Int32 → Int32 → Int32 → Int32 → Int32 → Mm → Option (Int32 × Mm)) : Nat → Int32 → Int32 → Int32 → Int32 → Int32 → Int32 → Int32 → Int32 → Mm → Option (Int32 × Mm)
  | 0, _, _, _, _, _, _, _, _, _ => none
  | f + 1, x1, x2, x3, x4, x5, x6, x7, x8, h => (if (10 : Int32) ≤ x8 then (bp (J9_abs_0f7a4 x7 h) (fun r109 => (if x4 = (-1 : Int32) then (X12_probe_177 n K88 x1 x2 x3 x6 r109 h) else (if r109 < x5 then (X12_probe_177 n K88 x1 x2 x3 x6 r109 h) else (X12_probe_185 n K88 x1 x2 x3 x4 x5 x6 h))))) else (bp (X12_has x3 x8 h) (fun r111 => (if r111 = true then (bp (X12_pagesOf x6 h) (fun r113 => (bd (X12_calmIf n x8 x6 r113 x1 h) (fun r115 h117 => (if r115 < x2 then (X12_probe_145 n K88 (X12_probe_103 n K88 f) x1 x2 x3 x4 x5 x6 x8 x7 (-1 : Int32) h117) else (X12_probe_145 n K88 (X12_probe_103 n K88 f) x1 x2 x3 x4 x5 x6 x8 x7 (1 : Int32) h117)))))) else (X12_probe_148 n K88 (X12_probe_103 n K88 f) x1 x2 x3 x4 x5 x6 x7 x8 h)))))
set_option maxRecDepth 100000 in
set_option maxHeartbeats 4000000 in
theorem v_X12_probe_103 {X : WX} {G : GX} {o : Mm} {n : Nat} {K88 : Int32 → Int32 → Int32 → Int32 → Int32 → Int32 → Mm → Option (Int32 × Mm)} {rv : Int32} {hz : Mm} (hK88 : ∀ (x1 : Int32) (x2 : Int32) (x3 : Int32) (x4 : Int32) (x5 : Int32) (x6 : Int32) (h : Mm), K88 x1 x2 x3 x4 x5 x6 h = some (rv, hz) → V X G RX12 cX12_probe 9 (some .int) 93 0 0 (QR X G false o (some (.int rv)) hz) false o 88 [(0, .ref (xa X 251)), (1, .int x1), (2, .int x2), (3, .int x3), (4, .int x4), (5, .int x5), (6, .int x6)] [] h) : ∀ (f : Nat) (x1 : Int32) (x2 : Int32) (x3 : Int32) (x4 : Int32) (x5 : Int32) (x6 : Int32) (x7 : Int32) (x8 : Int32) (h : Mm), X12_probe_103 n K88 f x1 x2 x3 x4 x5 x6 x7 x8 h = some (rv, hz) → V X G RX12 cX12_probe 9 (some .int) 93 0 0 (QR X G false o (some (.int rv)) hz) false o 103 [(0, .ref (xa X 251)), (1, .int x1), (2, .int x2), (3, .int x3), (4, .int x4), (5, .int x5), (6, .int x6), (7, .int x7), (8, .int x8)] [] h := by
  intro f
  induction f with
  | zero => intro x1 x2 x3 x4 x5 x6 x7 x8 h hF; exact nomatch (show (none : Option (Int32 × Mm)) = some (rv, hz) from hF)
  | succ f ih =>
    intro x1 x2 x3 x4 x5 x6 x7 x8 h hF
    unfold X12_probe_103 at hF
    refine V.iload 8 dX12_probe_103 rfl ?_
    refine V.bipush (v := 10) dX12_probe_105 (by decide) ?_
    refine V.icmp_ge (tgt := 154) dX12_probe_107 rfl (fun c => ?_) (fun c => ?_)
    · replace hF := ip c hF
      refine V.iload 7 dX12_probe_154 rfl ?_
      obtain ⟨r109, hc110, hF⟩ := bp_s hF
      refine V.callSi mf_J9_abs_0f7a4 ml_X12_449 (s_J9_abs_0f7a4 hc110) (by decide) rfl rfl (Nat.le_of_ble_eq_true rfl) dX12_probe_156 ?_
      refine V.istore [(7, _), (0, _), (1, _), (2, _), (3, _), (4, _), (5, _), (6, _), (8, _)] dX12_probe_159 (by decide) rfl ?_
      refine V.iload 5 dX12_probe_161 rfl ?_
      refine V.iconst (v := -1) dX12_probe_163 rfl ?_
      refine V.icmp_eq (tgt := 177) dX12_probe_164 rfl (fun c => ?_) (fun c => ?_)
      · replace hF := ip c hF
        exact V.sub [1, 2, 3, 4, 7, 0] rfl (v_X12_probe_177 hK88 hF)
      · replace hF := iq c hF
        refine V.iload 0 dX12_probe_167 rfl ?_
        refine V.iload 6 dX12_probe_169 rfl ?_
        refine V.icmp_lt (tgt := 177) dX12_probe_171 rfl (fun c => ?_) (fun c => ?_)
        · replace hF := ip c hF
          exact V.sub [1, 2, 3, 4, 7, 0] rfl (v_X12_probe_177 hK88 hF)
        · replace hF := iq c hF
          refine V.goto (tgt := 185) dX12_probe_174 rfl ?_
          exact V.sub [1, 2, 3, 4, 5, 6, 7] rfl (v_X12_probe_185 hK88 hF)
    · replace hF := iq c hF
      refine V.iload_n 3 dX12_probe_110 rfl rfl ?_
      refine V.iload 8 dX12_probe_111 rfl ?_
      obtain ⟨r111, hc112, hF⟩ := bp_s hF
      refine V.callSi mf_X12_has ml_X12_226 (s_X12_has hc112) (by decide) rfl rfl (Nat.le_of_ble_eq_true rfl) dX12_probe_113 ?_
      refine V.ifz_eq (tgt := 148) dX12_probe_116 rfl (fun c => ?_) (fun c => ?_)
      · replace hF := iq c hF
        exact (v_X12_probe_148 hK88 ih hF)
      · replace hF := ip c hF
        refine V.iload 7 dX12_probe_119 rfl ?_
        refine V.aload_n 0 dX12_probe_121 rfl rfl ?_
        refine V.iload 8 dX12_probe_122 rfl ?_
        refine V.iload 6 dX12_probe_124 rfl ?_
        refine V.aload_n 0 dX12_probe_126 rfl rfl ?_
        refine V.iload 6 dX12_probe_127 rfl ?_
        obtain ⟨r113, hc114, hF⟩ := bp_s hF
        refine V.callVi mf_X12_pagesOf ml_X12_322 sh_251 (s_X12_pagesOf hc114) (by decide) rfl rfl (Nat.le_of_ble_eq_true rfl) dX12_probe_129 ?_
        refine V.iload_n 1 dX12_probe_132 rfl rfl ?_
        obtain ⟨r115, h117, hc116, hF⟩ := bd_s hF
        refine V.callVi mf_X12_calmIf ml_X12_439 sh_251 (s_X12_calmIf hc116) (by decide) rfl rfl (Nat.le_of_ble_eq_true rfl) dX12_probe_133 ?_
        refine V.iload_n 2 dX12_probe_136 rfl rfl ?_
        refine V.icmp_lt (tgt := 144) dX12_probe_137 rfl (fun c => ?_) (fun c => ?_)
        · replace hF := ip c hF
          refine V.iconst (v := -1) dX12_probe_144 rfl ?_
          exact V.sub [0, 1, 2, 3, 4, 5, 6, 8] rfl (v_X12_probe_145 hK88 ih hF)
        · replace hF := iq c hF
          refine V.iconst (v := 1) dX12_probe_140 rfl ?_
          refine V.goto (tgt := 145) dX12_probe_141 rfl ?_
          exact V.sub [0, 1, 2, 3, 4, 5, 6, 8] rfl (v_X12_probe_145 hK88 ih hF)
def X12_probe_88 (n : Nat) : Nat → Int32 → Int32 → Int32 → Int32 → Int32 → Int32 → Mm → Option (Int32 × Mm)
  | 0, _, _, _, _, _, _, _ => none
  | f + 1, x1, x2, x3, x4, x5, x6, h => (if (h.1 251 26) ≤ x6 then (some (x4, h)) else (X12_probe_103 n (X12_probe_88 n f) n x1 x2 x3 x4 x5 x6 (0 : Int32) (0 : Int32) h))
set_option maxRecDepth 100000 in
set_option maxHeartbeats 4000000 in
theorem v_X12_probe_88 {X : WX} {G : GX} {o : Mm} {n : Nat} {rv : Int32} {hz : Mm} : ∀ (f : Nat) (x1 : Int32) (x2 : Int32) (x3 : Int32) (x4 : Int32) (x5 : Int32) (x6 : Int32) (h : Mm), X12_probe_88 n f x1 x2 x3 x4 x5 x6 h = some (rv, hz) → V X G RX12 cX12_probe 9 (some .int) 93 0 0 (QR X G false o (some (.int rv)) hz) false o 88 [(0, .ref (xa X 251)), (1, .int x1), (2, .int x2), (3, .int x3), (4, .int x4), (5, .int x5), (6, .int x6)] [] h := by
  intro f
  induction f with
  | zero => intro x1 x2 x3 x4 x5 x6 h hF; exact nomatch (show (none : Option (Int32 × Mm)) = some (rv, hz) from hF)
  | succ f ih =>
    intro x1 x2 x3 x4 x5 x6 h hF
    unfold X12_probe_88 at hF
    refine V.iload 6 dX12_probe_88 rfl ?_
    refine V.aload_n 0 dX12_probe_90 rfl rfl ?_
    refine V.getI fl_X12_288 sh_251 rfl km_251 dX12_probe_91 ?_
    refine V.icmp_ge (tgt := 191) dX12_probe_94 rfl (fun c => ?_) (fun c => ?_)
    · replace hF := ip c hF
      refine V.iload 4 dX12_probe_191 rfl ?_
      cases hF
      exact V.iret dX12_probe_193
    · replace hF := iq c hF
      refine V.iconst (v := 0) dX12_probe_97 rfl ?_
      refine V.istore [(7, _), (0, _), (1, _), (2, _), (3, _), (4, _), (5, _), (6, _)] dX12_probe_98 (by decide) rfl ?_
      refine V.iconst (v := 0) dX12_probe_100 rfl ?_
      refine V.istore [(8, _), (7, _), (0, _), (1, _), (2, _), (3, _), (4, _), (5, _), (6, _)] dX12_probe_101 (by decide) rfl ?_
      exact V.sub [2, 3, 4, 5, 6, 7, 8, 1, 0] rfl (v_X12_probe_103 ih n _ _ _ _ _ _ _ _ _ hF)
def X12_probe_32 (n : Nat) : Nat → Int32 → Int32 → Int32 → Int32 → Mm → Option (Int32 × Mm)
  | 0, _, _, _, _, _ => none
  | f + 1, x1, x2, x3, x4, h => (if (10 : Int32) ≤ x4 then (if x3 = 0 then (some ((-1 : Int32), h)) else (X12_probe_88 n n x1 x2 x3 (-1 : Int32) (0 : Int32) (0 : Int32) h)) else (bp (X12_isCode x4 h) (fun r118 => (if r118 = true then (bd (X12_isLiked n x4 h) (fun r120 h122 => (if r120 = true then (X12_probe_65 n (X12_probe_32 n f) x1 x2 x4 x3 ((1 : Int32) <<< (x4 &&& 31)) h122) else (X12_probe_64 n (X12_probe_32 n f) x1 x2 x4 x3 h122)))) else (X12_probe_64 n (X12_probe_32 n f) x1 x2 x4 x3 h)))))
set_option maxRecDepth 100000 in
set_option maxHeartbeats 4000000 in
theorem v_X12_probe_32 {X : WX} {G : GX} {o : Mm} {n : Nat} {rv : Int32} {hz : Mm} : ∀ (f : Nat) (x1 : Int32) (x2 : Int32) (x3 : Int32) (x4 : Int32) (h : Mm), X12_probe_32 n f x1 x2 x3 x4 h = some (rv, hz) → V X G RX12 cX12_probe 9 (some .int) 93 0 0 (QR X G false o (some (.int rv)) hz) false o 32 [(0, .ref (xa X 251)), (1, .int x1), (2, .int x2), (3, .int x3), (4, .int x4)] [] h := by
  intro f
  induction f with
  | zero => intro x1 x2 x3 x4 h hF; exact nomatch (show (none : Option (Int32 × Mm)) = some (rv, hz) from hF)
  | succ f ih =>
    intro x1 x2 x3 x4 h hF
    unfold X12_probe_32 at hF
    refine V.iload 4 dX12_probe_32 rfl ?_
    refine V.bipush (v := 10) dX12_probe_34 (by decide) ?_
    refine V.icmp_ge (tgt := 73) dX12_probe_36 rfl (fun c => ?_) (fun c => ?_)
    · replace hF := ip c hF
      refine V.iload_n 3 dX12_probe_73 rfl rfl ?_
      refine V.if_ne (tgt := 79) dX12_probe_74 rfl (fun c => ?_) (fun c => ?_)
      · replace hF := iq c hF
        refine V.iconst (v := -1) dX12_probe_79 rfl ?_
        refine V.istore [(4, _), (0, _), (1, _), (2, _), (3, _)] dX12_probe_80 (by decide) rfl ?_
        refine V.iconst (v := 0) dX12_probe_82 rfl ?_
        refine V.istore [(5, _), (4, _), (0, _), (1, _), (2, _), (3, _)] dX12_probe_83 (by decide) rfl ?_
        refine V.iconst (v := 0) dX12_probe_85 rfl ?_
        refine V.istore [(6, _), (5, _), (4, _), (0, _), (1, _), (2, _), (3, _)] dX12_probe_86 (by decide) rfl ?_
        exact V.sub [3, 4, 5, 6, 2, 1, 0] rfl (v_X12_probe_88 n _ _ _ _ _ _ _ hF)
      · replace hF := ip c hF
        refine V.iconst (v := -1) dX12_probe_77 rfl ?_
        cases hF
        exact V.iret dX12_probe_78
    · replace hF := iq c hF
      refine V.iload_n 3 dX12_probe_39 rfl rfl ?_
      refine V.iload 4 dX12_probe_40 rfl ?_
      obtain ⟨r118, hc119, hF⟩ := bp_s hF
      refine V.callSi mf_X12_isCode ml_X12_443 (s_X12_isCode hc119) (by decide) rfl rfl (Nat.le_of_ble_eq_true rfl) dX12_probe_42 ?_
      refine V.ifz_eq (tgt := 64) dX12_probe_45 rfl (fun c => ?_) (fun c => ?_)
      · replace hF := iq c hF
        exact V.sub [0, 1, 2, 4] rfl (v_X12_probe_64 ih hF)
      · replace hF := ip c hF
        refine V.aload_n 0 dX12_probe_48 rfl rfl ?_
        refine V.iload 4 dX12_probe_49 rfl ?_
        obtain ⟨r120, h122, hc121, hF⟩ := bd_s hF
        refine V.callVi mf_X12_isLiked ml_X12_446 sh_251 (s_X12_isLiked hc121) (by decide) rfl rfl (Nat.le_of_ble_eq_true rfl) dX12_probe_51 ?_
        refine V.ifz_eq (tgt := 64) dX12_probe_54 rfl (fun c => ?_) (fun c => ?_)
        · replace hF := iq c hF
          exact V.sub [0, 1, 2, 4] rfl (v_X12_probe_64 ih hF)
        · replace hF := ip c hF
          refine V.iconst (v := 1) dX12_probe_57 rfl ?_
          refine V.iload 4 dX12_probe_58 rfl ?_
          refine V.ishl dX12_probe_60 ?_
          refine V.goto (tgt := 65) dX12_probe_61 rfl ?_
          exact V.sub [0, 1, 2, 4] rfl (v_X12_probe_65 ih hF)
def X12_probe (n : Nat) (x1 : Int32) (x2 : Int32) (h : Mm) : Option (Int32 × Mm) := (bp (X12_isHouse x1 (wI h 251 0 (0 : Int32))) (fun r123 => (if r123 = true then (bp (X12_isIn x2.toInt64 (0 : Int64) (99 : Int64) (wI h 251 0 (0 : Int32))) (fun r125 => (if r125 = true then (X12_probe_32 n n x1 x2 (0 : Int32) (0 : Int32) (wI h 251 0 (0 : Int32))) else (some ((-1 : Int32), (wI h 251 0 (0 : Int32))))))) else (some ((-1 : Int32), (wI h 251 0 (0 : Int32)))))))
set_option maxRecDepth 100000 in
set_option maxHeartbeats 4000000 in
theorem s_X12_probe {X : WX} {o : Mm} {n : Nat} {x1 : Int32} {x2 : Int32} {rv : Int32} {hz : Mm} {h : Mm} (hF : X12_probe n x1 x2 h = some (rv, hz)) : Sat X yX12_probe cX12_probe 9 (some .int) 93 [.ref (xa X 251), .int x1, .int x2] false o h (some (.int rv)) hz := by
  unfold X12_probe at hF
  refine Sat.mk (own := RX12) rfl (by decide +kernel) (Nat.le_of_ble_eq_true rfl) (fun G => ?_)
  refine V.sub (lv2 := [(0, _), (1, _), (2, _)]) [0, 1, 2] rfl ?_
  refine V.aload_n 0 dX12_probe_0 rfl rfl ?_
  refine V.iconst (v := 0) dX12_probe_1 rfl ?_
  refine V.putI fl_X12_93 rfl (tyX12_ok 0 (by decide)) rfl rfl sh_251 rfl km_251 dX12_probe_2 ?_
  refine V.aload_n 0 dX12_probe_5 rfl rfl ?_
  refine V.iload_n 1 dX12_probe_6 rfl rfl ?_
  obtain ⟨r123, hc124, hF⟩ := bp_s hF
  refine V.callVi mf_X12_isHouse ml_X12_337 sh_251 (s_X12_isHouse hc124) (by decide) rfl rfl (Nat.le_of_ble_eq_true rfl) dX12_probe_7 ?_
  refine V.ifz_eq (tgt := 25) dX12_probe_10 rfl (fun c => ?_) (fun c => ?_)
  · replace hF := iq c hF
    refine V.iconst (v := -1) dX12_probe_25 rfl ?_
    cases hF
    exact V.iret dX12_probe_26
  · replace hF := ip c hF
    refine V.iload_n 2 dX12_probe_13 rfl rfl ?_
    refine V.i2l dX12_probe_14 ?_
    refine V.lconst (v := 0) dX12_probe_15 rfl ?_
    refine V.ldc2 (v := 99) dX12_probe_16 kc_X12_437 ?_
    obtain ⟨r125, hc126, hF⟩ := bp_s hF
    refine V.callSi mf_X12_isIn ml_X12_214 (s_X12_isIn hc126) (by decide) rfl rfl (Nat.le_of_ble_eq_true rfl) dX12_probe_19 ?_
    refine V.ifz_ne (tgt := 27) dX12_probe_22 rfl (fun c => ?_) (fun c => ?_)
    · replace hF := ip c hF
      refine V.iconst (v := 0) dX12_probe_27 rfl ?_
      refine V.istore_n [(3, _), (0, _), (1, _), (2, _)] dX12_probe_28 rfl (by decide) rfl ?_
      refine V.iconst (v := 0) dX12_probe_29 rfl ?_
      refine V.istore [(4, _), (3, _), (0, _), (1, _), (2, _)] dX12_probe_30 (by decide) rfl ?_
      exact V.sub [2, 3, 4, 1, 0] rfl (v_X12_probe_32 n _ _ _ _ _ hF)
    · replace hF := iq c hF
      refine V.iconst (v := -1) dX12_probe_25 rfl ?_
      cases hF
      exact V.iret dX12_probe_26
/-! MonsterCotModel.isReadTo -/
theorem dX12_isReadTo_0 : decode cX12_isReadTo 0 = .ok (.aload_n 0, 1) := by decide +kernel
theorem dX12_isReadTo_1 : decode cX12_isReadTo 1 = .ok (.getfield 61, 3) := by decide +kernel
theorem dX12_isReadTo_4 : decode cX12_isReadTo 4 = .ok (.aload_n 0, 1) := by decide +kernel
theorem dX12_isReadTo_5 : decode cX12_isReadTo 5 = .ok (.getfield 64, 3) := by decide +kernel
theorem dX12_isReadTo_8 : decode cX12_isReadTo 8 = .ok (.invokestatic 401, 3) := by decide +kernel
theorem dX12_isReadTo_11 : decode cX12_isReadTo 11 = .ok (.iconst 0, 1) := by decide +kernel
theorem dX12_isReadTo_12 : decode cX12_isReadTo 12 = .ok (.istore_n 3, 1) := by decide +kernel
theorem dX12_isReadTo_13 : decode cX12_isReadTo 13 = .ok (.iload_n 3, 1) := by decide +kernel
theorem dX12_isReadTo_14 : decode cX12_isReadTo 14 = .ok (.aload_n 0, 1) := by decide +kernel
theorem dX12_isReadTo_15 : decode cX12_isReadTo 15 = .ok (.getfield 288, 3) := by decide +kernel
theorem dX12_isReadTo_18 : decode cX12_isReadTo 18 = .ok (.if_icmp .ge 55, 3) := by decide +kernel
theorem dX12_isReadTo_21 : decode cX12_isReadTo 21 = .ok (.iload_n 1, 1) := by decide +kernel
theorem dX12_isReadTo_22 : decode cX12_isReadTo 22 = .ok (.iload_n 3, 1) := by decide +kernel
theorem dX12_isReadTo_23 : decode cX12_isReadTo 23 = .ok (.invokestatic 226, 3) := by decide +kernel
theorem dX12_isReadTo_26 : decode cX12_isReadTo 26 = .ok (.ifCond .ne 6, 3) := by decide +kernel
theorem dX12_isReadTo_29 : decode cX12_isReadTo 29 = .ok (.goto 38, 3) := by decide +kernel
theorem dX12_isReadTo_32 : decode cX12_isReadTo 32 = .ok (.aload_n 0, 1) := by decide +kernel
theorem dX12_isReadTo_33 : decode cX12_isReadTo 33 = .ok (.aload_n 0, 1) := by decide +kernel
theorem dX12_isReadTo_34 : decode cX12_isReadTo 34 = .ok (.getfield 64, 3) := by decide +kernel
theorem dX12_isReadTo_37 : decode cX12_isReadTo 37 = .ok (.iload_n 3, 1) := by decide +kernel
theorem dX12_isReadTo_38 : decode cX12_isReadTo 38 = .ok (.aload_n 0, 1) := by decide +kernel
theorem dX12_isReadTo_39 : decode cX12_isReadTo 39 = .ok (.iload_n 3, 1) := by decide +kernel
theorem dX12_isReadTo_40 : decode cX12_isReadTo 40 = .ok (.invokevirtual 322, 3) := by decide +kernel
theorem dX12_isReadTo_43 : decode cX12_isReadTo 43 = .ok (.iconst 0, 1) := by decide +kernel
theorem dX12_isReadTo_44 : decode cX12_isReadTo 44 = .ok (.invokevirtual 359, 3) := by decide +kernel
theorem dX12_isReadTo_47 : decode cX12_isReadTo 47 = .ok (.ifCond .ne 5, 3) := by decide +kernel
theorem dX12_isReadTo_50 : decode cX12_isReadTo 50 = .ok (.iconst 0, 1) := by decide +kernel
theorem dX12_isReadTo_51 : decode cX12_isReadTo 51 = .ok (.ireturn, 1) := by decide +kernel
theorem dX12_isReadTo_52 : decode cX12_isReadTo 52 = .ok (.aload_n 0, 1) := by decide +kernel
theorem dX12_isReadTo_53 : decode cX12_isReadTo 53 = .ok (.aload_n 0, 1) := by decide +kernel
theorem dX12_isReadTo_54 : decode cX12_isReadTo 54 = .ok (.getfield 64, 3) := by decide +kernel
theorem dX12_isReadTo_57 : decode cX12_isReadTo 57 = .ok (.iload_n 3, 1) := by decide +kernel
theorem dX12_isReadTo_58 : decode cX12_isReadTo 58 = .ok (.aload_n 0, 1) := by decide +kernel
theorem dX12_isReadTo_59 : decode cX12_isReadTo 59 = .ok (.iload_n 3, 1) := by decide +kernel
theorem dX12_isReadTo_60 : decode cX12_isReadTo 60 = .ok (.invokevirtual 322, 3) := by decide +kernel
theorem dX12_isReadTo_63 : decode cX12_isReadTo 63 = .ok (.iconst 0, 1) := by decide +kernel
theorem dX12_isReadTo_64 : decode cX12_isReadTo 64 = .ok (.invokevirtual 365, 3) := by decide +kernel
theorem dX12_isReadTo_67 : decode cX12_isReadTo 67 = .ok (.iinc 3 1, 3) := by decide +kernel
theorem dX12_isReadTo_70 : decode cX12_isReadTo 70 = .ok (.goto (-57), 3) := by decide +kernel
theorem dX12_isReadTo_73 : decode cX12_isReadTo 73 = .ok (.aload_n 0, 1) := by decide +kernel
theorem dX12_isReadTo_74 : decode cX12_isReadTo 74 = .ok (.getfield 64, 3) := by decide +kernel
theorem dX12_isReadTo_77 : decode cX12_isReadTo 77 = .ok (.bipush 22, 2) := by decide +kernel
theorem dX12_isReadTo_79 : decode cX12_isReadTo 79 = .ok (.iaload, 1) := by decide +kernel
theorem dX12_isReadTo_80 : decode cX12_isReadTo 80 = .ok (.iload_n 2, 1) := by decide +kernel
theorem dX12_isReadTo_81 : decode cX12_isReadTo 81 = .ok (.if_icmp .ne 7, 3) := by decide +kernel
theorem dX12_isReadTo_84 : decode cX12_isReadTo 84 = .ok (.iconst 1, 1) := by decide +kernel
theorem dX12_isReadTo_85 : decode cX12_isReadTo 85 = .ok (.goto 4, 3) := by decide +kernel
theorem dX12_isReadTo_88 : decode cX12_isReadTo 88 = .ok (.iconst 0, 1) := by decide +kernel
theorem dX12_isReadTo_89 : decode cX12_isReadTo 89 = .ok (.ireturn, 1) := by decide +kernel
def X12_isReadTo_67 (n : Nat) (K13 : Int32 → Int32 → Int32 → Mm → Option (Bool × Mm)) (x1 : Int32) (x2 : Int32) (x3 : Int32) (h : Mm) : Option (Bool × Mm) := (K13 x1 x2 (x3 + (1)) h)
set_option maxRecDepth 100000 in
set_option maxHeartbeats 4000000 in
theorem v_X12_isReadTo_67 {X : WX} {G : GX} {o : Mm} {n : Nat} {K13 : Int32 → Int32 → Int32 → Mm → Option (Bool × Mm)} {rv : Bool} {hz : Mm} (hK13 : ∀ (x1 : Int32) (x2 : Int32) (x3 : Int32) (h : Mm), K13 x1 x2 x3 h = some (rv, hz) → V X G RX12 cX12_isReadTo 4 (some .boolean) 92 0 0 (QR X G false o (some (.int (b2i rv))) hz) false o 13 [(0, .ref (xa X 251)), (1, .int x1), (2, .int x2), (3, .int x3)] [] h) {x1 : Int32} {x2 : Int32} {x3 : Int32} {h : Mm} (hF : X12_isReadTo_67 n K13 x1 x2 x3 h = some (rv, hz)) : V X G RX12 cX12_isReadTo 4 (some .boolean) 92 0 0 (QR X G false o (some (.int (b2i rv))) hz) false o 67 [(0, .ref (xa X 251)), (1, .int x1), (2, .int x2), (3, .int x3)] [] h := by
  unfold X12_isReadTo_67 at hF
  refine V.iinc (v := (x3 + (1))) 3 [(3, _), (0, _), (1, _), (2, _)] dX12_isReadTo_67 rfl rfl (by decide) rfl ?_
  refine V.goto (tgt := 13) dX12_isReadTo_70 rfl ?_
  exact V.sub [1, 2, 3, 0] rfl (hK13 _ _ _ _ hF)
def X12_isReadTo_13 (n : Nat) : Nat → Int32 → Int32 → Int32 → Mm → Option (Bool × Mm)
  | 0, _, _, _, _ => none
  | f + 1, x1, x2, x3, h => (if (h.1 251 26) ≤ x3 then (if inB (22 : Int32) (aln 265) then (if (h.1 265 (22 : Int32).toNatClampNeg) = x2 then (some (true, h)) else (some (false, h))) else none) else (bp (X12_has x1 x3 h) (fun r57 => (if r57 = true then (bp (X12_pagesOf x3 h) (fun r59 => (bp (X12_mayRead 265 x3 r59 false h) (fun r61 => (if r61 = true then (bp (X12_pagesOf x3 h) (fun r63 => (bd (X12_reads n 265 x3 r63 false h) (fun _ h67 => (X12_isReadTo_67 n (X12_isReadTo_13 n f) x1 x2 x3 h67))))) else (some (false, h))))))) else (X12_isReadTo_67 n (X12_isReadTo_13 n f) x1 x2 x3 h)))))
set_option maxRecDepth 100000 in
set_option maxHeartbeats 4000000 in
theorem v_X12_isReadTo_13 {X : WX} {G : GX} {o : Mm} {n : Nat} {rv : Bool} {hz : Mm} : ∀ (f : Nat) (x1 : Int32) (x2 : Int32) (x3 : Int32) (h : Mm), X12_isReadTo_13 n f x1 x2 x3 h = some (rv, hz) → V X G RX12 cX12_isReadTo 4 (some .boolean) 92 0 0 (QR X G false o (some (.int (b2i rv))) hz) false o 13 [(0, .ref (xa X 251)), (1, .int x1), (2, .int x2), (3, .int x3)] [] h := by
  intro f
  induction f with
  | zero => intro x1 x2 x3 h hF; exact nomatch (show (none : Option (Bool × Mm)) = some (rv, hz) from hF)
  | succ f ih =>
    intro x1 x2 x3 h hF
    unfold X12_isReadTo_13 at hF
    refine V.iload_n 3 dX12_isReadTo_13 rfl rfl ?_
    refine V.aload_n 0 dX12_isReadTo_14 rfl rfl ?_
    refine V.getI fl_X12_288 sh_251 rfl km_251 dX12_isReadTo_15 ?_
    refine V.icmp_ge (tgt := 73) dX12_isReadTo_18 rfl (fun c => ?_) (fun c => ?_)
    · replace hF := ip c hF
      refine V.aload_n 0 dX12_isReadTo_73 rfl rfl ?_
      refine V.getR (v := 265) fl_X12_64 sh_251 rfl fx_251_33 (by decide) dX12_isReadTo_74 ?_
      refine V.bipush (v := 22) dX12_isReadTo_77 (by decide) ?_
      obtain ⟨hk, hF⟩ := ck hF
      refine V.iald io_265 hk dX12_isReadTo_79 ?_
      refine V.iload_n 2 dX12_isReadTo_80 rfl rfl ?_
      refine V.icmp_ne (tgt := 88) dX12_isReadTo_81 rfl (fun c => ?_) (fun c => ?_)
      · replace hF := iq c hF
        refine V.iconst (v := 0) dX12_isReadTo_88 rfl ?_
        cases hF
        exact V.bret dX12_isReadTo_89
      · replace hF := ip c hF
        refine V.iconst (v := 1) dX12_isReadTo_84 rfl ?_
        refine V.goto (tgt := 89) dX12_isReadTo_85 rfl ?_
        cases hF
        exact V.bret dX12_isReadTo_89
    · replace hF := iq c hF
      refine V.iload_n 1 dX12_isReadTo_21 rfl rfl ?_
      refine V.iload_n 3 dX12_isReadTo_22 rfl rfl ?_
      obtain ⟨r57, hc58, hF⟩ := bp_s hF
      refine V.callSi mf_X12_has ml_X12_226 (s_X12_has hc58) (by decide) rfl rfl (Nat.le_of_ble_eq_true rfl) dX12_isReadTo_23 ?_
      refine V.ifz_ne (tgt := 32) dX12_isReadTo_26 rfl (fun c => ?_) (fun c => ?_)
      · replace hF := ip c hF
        refine V.aload_n 0 dX12_isReadTo_32 rfl rfl ?_
        refine V.aload_n 0 dX12_isReadTo_33 rfl rfl ?_
        refine V.getR (v := 265) fl_X12_64 sh_251 rfl fx_251_33 (by decide) dX12_isReadTo_34 ?_
        refine V.iload_n 3 dX12_isReadTo_37 rfl rfl ?_
        refine V.aload_n 0 dX12_isReadTo_38 rfl rfl ?_
        refine V.iload_n 3 dX12_isReadTo_39 rfl rfl ?_
        obtain ⟨r59, hc60, hF⟩ := bp_s hF
        refine V.callVi mf_X12_pagesOf ml_X12_322 sh_251 (s_X12_pagesOf hc60) (by decide) rfl rfl (Nat.le_of_ble_eq_true rfl) dX12_isReadTo_40 ?_
        refine V.iconst (v := 0) dX12_isReadTo_43 rfl ?_
        obtain ⟨r61, hc62, hF⟩ := bp_s hF
        refine V.callVi mf_X12_mayRead ml_X12_359 sh_251 (s_X12_mayRead io_265 hc62) (by decide) rfl rfl (Nat.le_of_ble_eq_true rfl) dX12_isReadTo_44 ?_
        refine V.ifz_ne (tgt := 52) dX12_isReadTo_47 rfl (fun c => ?_) (fun c => ?_)
        · replace hF := ip c hF
          refine V.aload_n 0 dX12_isReadTo_52 rfl rfl ?_
          refine V.aload_n 0 dX12_isReadTo_53 rfl rfl ?_
          refine V.getR (v := 265) fl_X12_64 sh_251 rfl fx_251_33 (by decide) dX12_isReadTo_54 ?_
          refine V.iload_n 3 dX12_isReadTo_57 rfl rfl ?_
          refine V.aload_n 0 dX12_isReadTo_58 rfl rfl ?_
          refine V.iload_n 3 dX12_isReadTo_59 rfl rfl ?_
          obtain ⟨r63, hc64, hF⟩ := bp_s hF
          refine V.callVi mf_X12_pagesOf ml_X12_322 sh_251 (s_X12_pagesOf hc64) (by decide) rfl rfl (Nat.le_of_ble_eq_true rfl) dX12_isReadTo_60 ?_
          refine V.iconst (v := 0) dX12_isReadTo_63 rfl ?_
          obtain ⟨r65, h67, hc66, hF⟩ := bd_s hF
          refine V.callVv mf_X12_reads ml_X12_365 sh_251 (s_X12_reads io_265 hc66) (by decide) rfl rfl (Nat.le_of_ble_eq_true rfl) dX12_isReadTo_64 ?_
          exact (v_X12_isReadTo_67 ih hF)
        · replace hF := iq c hF
          refine V.iconst (v := 0) dX12_isReadTo_50 rfl ?_
          cases hF
          exact V.bret dX12_isReadTo_51
      · replace hF := iq c hF
        refine V.goto (tgt := 67) dX12_isReadTo_29 rfl ?_
        exact (v_X12_isReadTo_67 ih hF)
def X12_isReadTo (n : Nat) (x1 : Int32) (x2 : Int32) (h : Mm) : Option (Bool × Mm) := (bd (X12_copy n 264 265 h) (fun _ h70 => (X12_isReadTo_13 n n x1 x2 (0 : Int32) h70)))
set_option maxRecDepth 100000 in
set_option maxHeartbeats 4000000 in
theorem s_X12_isReadTo {X : WX} {o : Mm} {n : Nat} {x1 : Int32} {x2 : Int32} {rv : Bool} {hz : Mm} {h : Mm} (hF : X12_isReadTo n x1 x2 h = some (rv, hz)) : Sat X yX12_isReadTo cX12_isReadTo 4 (some .boolean) 92 [.ref (xa X 251), .int x1, .int x2] false o h (some (.int (b2i rv))) hz := by
  unfold X12_isReadTo at hF
  refine Sat.mk (own := RX12) rfl (by decide +kernel) (Nat.le_of_ble_eq_true rfl) (fun G => ?_)
  refine V.sub (lv2 := [(0, _), (1, _), (2, _)]) [0, 1, 2] rfl ?_
  refine V.aload_n 0 dX12_isReadTo_0 rfl rfl ?_
  refine V.getR (v := 264) fl_X12_61 sh_251 rfl fx_251_32 (by decide) dX12_isReadTo_1 ?_
  refine V.aload_n 0 dX12_isReadTo_4 rfl rfl ?_
  refine V.getR (v := 265) fl_X12_64 sh_251 rfl fx_251_33 (by decide) dX12_isReadTo_5 ?_
  obtain ⟨r68, h70, hc69, hF⟩ := bd_s hF
  refine V.callSv mf_X12_copy ml_X12_401 (s_X12_copy io_264 io_265 hc69) (by decide) rfl rfl (Nat.le_of_ble_eq_true rfl) dX12_isReadTo_8 ?_
  refine V.iconst (v := 0) dX12_isReadTo_11 rfl ?_
  refine V.istore_n [(3, _), (0, _), (1, _), (2, _)] dX12_isReadTo_12 rfl (by decide) rfl ?_
  exact V.sub [1, 2, 3, 0] rfl (v_X12_isReadTo_13 n _ _ _ _ hF)
/-! MonsterCotModel.which -/
theorem dX12_which_0 : decode cX12_which 0 = .ok (.aload_n 0, 1) := by decide +kernel
theorem dX12_which_1 : decode cX12_which 1 = .ok (.iconst 0, 1) := by decide +kernel
theorem dX12_which_2 : decode cX12_which 2 = .ok (.putfield 93, 3) := by decide +kernel
theorem dX12_which_5 : decode cX12_which 5 = .ok (.aload_n 0, 1) := by decide +kernel
theorem dX12_which_6 : decode cX12_which 6 = .ok (.getfield 291, 3) := by decide +kernel
theorem dX12_which_9 : decode cX12_which 9 = .ok (.ifCond .eq 20, 3) := by decide +kernel
theorem dX12_which_12 : decode cX12_which 12 = .ok (.iload_n 1, 1) := by decide +kernel
theorem dX12_which_13 : decode cX12_which 13 = .ok (.i2l, 1) := by decide +kernel
theorem dX12_which_14 : decode cX12_which 14 = .ok (.lconst 0, 1) := by decide +kernel
theorem dX12_which_15 : decode cX12_which 15 = .ok (.ldc2_w 437, 3) := by decide +kernel
theorem dX12_which_18 : decode cX12_which 18 = .ok (.invokestatic 214, 3) := by decide +kernel
theorem dX12_which_21 : decode cX12_which 21 = .ok (.ifCond .eq 8, 3) := by decide +kernel
theorem dX12_which_24 : decode cX12_which 24 = .ok (.iload_n 2, 1) := by decide +kernel
theorem dX12_which_25 : decode cX12_which 25 = .ok (.iconst (-1), 1) := by decide +kernel
theorem dX12_which_26 : decode cX12_which 26 = .ok (.if_icmp .ge 5, 3) := by decide +kernel
theorem dX12_which_29 : decode cX12_which 29 = .ok (.iconst (-1), 1) := by decide +kernel
theorem dX12_which_30 : decode cX12_which 30 = .ok (.ireturn, 1) := by decide +kernel
theorem dX12_which_31 : decode cX12_which 31 = .ok (.iconst 0, 1) := by decide +kernel
theorem dX12_which_32 : decode cX12_which 32 = .ok (.istore_n 3, 1) := by decide +kernel
theorem dX12_which_33 : decode cX12_which 33 = .ok (.iconst 0, 1) := by decide +kernel
theorem dX12_which_34 : decode cX12_which 34 = .ok (.istore 4, 2) := by decide +kernel
theorem dX12_which_36 : decode cX12_which 36 = .ok (.iload 4, 2) := by decide +kernel
theorem dX12_which_38 : decode cX12_which 38 = .ok (.iconst 1, 1) := by decide +kernel
theorem dX12_which_39 : decode cX12_which 39 = .ok (.aload_n 0, 1) := by decide +kernel
theorem dX12_which_40 : decode cX12_which 40 = .ok (.getfield 288, 3) := by decide +kernel
theorem dX12_which_43 : decode cX12_which 43 = .ok (.ishl, 1) := by decide +kernel
theorem dX12_which_44 : decode cX12_which 44 = .ok (.if_icmp .ge 33, 3) := by decide +kernel
theorem dX12_which_47 : decode cX12_which 47 = .ok (.aload_n 0, 1) := by decide +kernel
theorem dX12_which_48 : decode cX12_which 48 = .ok (.iload 4, 2) := by decide +kernel
theorem dX12_which_50 : decode cX12_which 50 = .ok (.iload_n 1, 1) := by decide +kernel
theorem dX12_which_51 : decode cX12_which 51 = .ok (.invokevirtual 452, 3) := by decide +kernel
theorem dX12_which_54 : decode cX12_which 54 = .ok (.ifCond .ne 6, 3) := by decide +kernel
theorem dX12_which_57 : decode cX12_which 57 = .ok (.goto 14, 3) := by decide +kernel
theorem dX12_which_60 : decode cX12_which 60 = .ok (.iload_n 3, 1) := by decide +kernel
theorem dX12_which_61 : decode cX12_which 61 = .ok (.iload_n 2, 1) := by decide +kernel
theorem dX12_which_62 : decode cX12_which 62 = .ok (.if_icmp .ne 6, 3) := by decide +kernel
theorem dX12_which_65 : decode cX12_which 65 = .ok (.iload 4, 2) := by decide +kernel
theorem dX12_which_67 : decode cX12_which 67 = .ok (.ireturn, 1) := by decide +kernel
theorem dX12_which_68 : decode cX12_which 68 = .ok (.iinc 3 1, 3) := by decide +kernel
theorem dX12_which_71 : decode cX12_which 71 = .ok (.iinc 4 1, 3) := by decide +kernel
theorem dX12_which_74 : decode cX12_which 74 = .ok (.goto (-38), 3) := by decide +kernel
theorem dX12_which_77 : decode cX12_which 77 = .ok (.iload_n 2, 1) := by decide +kernel
theorem dX12_which_78 : decode cX12_which 78 = .ok (.iconst (-1), 1) := by decide +kernel
theorem dX12_which_79 : decode cX12_which 79 = .ok (.if_icmp .ne 7, 3) := by decide +kernel
theorem dX12_which_82 : decode cX12_which 82 = .ok (.iload_n 3, 1) := by decide +kernel
theorem dX12_which_83 : decode cX12_which 83 = .ok (.goto 4, 3) := by decide +kernel
theorem dX12_which_86 : decode cX12_which 86 = .ok (.iconst (-1), 1) := by decide +kernel
theorem dX12_which_87 : decode cX12_which 87 = .ok (.ireturn, 1) := by decide +kernel
def X12_which_71 (n : Nat) (K36 : Int32 → Int32 → Int32 → Int32 → Mm → Option (Int32 × Mm)) (x1 : Int32) (x2 : Int32) (x3 : Int32) (x4 : Int32) (h : Mm) : Option (Int32 × Mm) := (K36 x1 x2 x3 (x4 + (1)) h)
set_option maxRecDepth 100000 in
set_option maxHeartbeats 4000000 in
theorem v_X12_which_71 {X : WX} {G : GX} {o : Mm} {n : Nat} {K36 : Int32 → Int32 → Int32 → Int32 → Mm → Option (Int32 × Mm)} {rv : Int32} {hz : Mm} (hK36 : ∀ (x1 : Int32) (x2 : Int32) (x3 : Int32) (x4 : Int32) (h : Mm), K36 x1 x2 x3 x4 h = some (rv, hz) → V X G RX12 cX12_which 5 (some .int) 93 0 0 (QR X G false o (some (.int rv)) hz) false o 36 [(0, .ref (xa X 251)), (1, .int x1), (2, .int x2), (3, .int x3), (4, .int x4)] [] h) {x1 : Int32} {x2 : Int32} {x3 : Int32} {x4 : Int32} {h : Mm} (hF : X12_which_71 n K36 x1 x2 x3 x4 h = some (rv, hz)) : V X G RX12 cX12_which 5 (some .int) 93 0 0 (QR X G false o (some (.int rv)) hz) false o 71 [(0, .ref (xa X 251)), (1, .int x1), (2, .int x2), (3, .int x3), (4, .int x4)] [] h := by
  unfold X12_which_71 at hF
  refine V.iinc (v := (x4 + (1))) 4 [(4, _), (0, _), (1, _), (2, _), (3, _)] dX12_which_71 rfl rfl (by decide) rfl ?_
  refine V.goto (tgt := 36) dX12_which_74 rfl ?_
  exact V.sub [1, 2, 3, 4, 0] rfl (hK36 _ _ _ _ _ hF)
def X12_which_36 (n : Nat) : Nat → Int32 → Int32 → Int32 → Int32 → Mm → Option (Int32 × Mm)
  | 0, _, _, _, _, _ => none
  | f + 1, x1, x2, x3, x4, h => (if ((1 : Int32) <<< ((h.1 251 26) &&& 31)) ≤ x4 then (if x2 = (-1 : Int32) then (some (x3, h)) else (some ((-1 : Int32), h))) else (bd (X12_isReadTo n x4 x1 h) (fun r21 h23 => (if r21 = true then (if x3 = x2 then (some (x4, h23)) else (X12_which_71 n (X12_which_36 n f) x1 x2 (x3 + (1)) x4 h23)) else (X12_which_71 n (X12_which_36 n f) x1 x2 x3 x4 h23)))))
set_option maxRecDepth 100000 in
set_option maxHeartbeats 4000000 in
theorem v_X12_which_36 {X : WX} {G : GX} {o : Mm} {n : Nat} {rv : Int32} {hz : Mm} : ∀ (f : Nat) (x1 : Int32) (x2 : Int32) (x3 : Int32) (x4 : Int32) (h : Mm), X12_which_36 n f x1 x2 x3 x4 h = some (rv, hz) → V X G RX12 cX12_which 5 (some .int) 93 0 0 (QR X G false o (some (.int rv)) hz) false o 36 [(0, .ref (xa X 251)), (1, .int x1), (2, .int x2), (3, .int x3), (4, .int x4)] [] h := by
  intro f
  induction f with
  | zero => intro x1 x2 x3 x4 h hF; exact nomatch (show (none : Option (Int32 × Mm)) = some (rv, hz) from hF)
  | succ f ih =>
    intro x1 x2 x3 x4 h hF
    unfold X12_which_36 at hF
    refine V.iload 4 dX12_which_36 rfl ?_
    refine V.iconst (v := 1) dX12_which_38 rfl ?_
    refine V.aload_n 0 dX12_which_39 rfl rfl ?_
    refine V.getI fl_X12_288 sh_251 rfl km_251 dX12_which_40 ?_
    refine V.ishl dX12_which_43 ?_
    refine V.icmp_ge (tgt := 77) dX12_which_44 rfl (fun c => ?_) (fun c => ?_)
    · replace hF := ip c hF
      refine V.iload_n 2 dX12_which_77 rfl rfl ?_
      refine V.iconst (v := -1) dX12_which_78 rfl ?_
      refine V.icmp_ne (tgt := 86) dX12_which_79 rfl (fun c => ?_) (fun c => ?_)
      · replace hF := iq c hF
        refine V.iconst (v := -1) dX12_which_86 rfl ?_
        cases hF
        exact V.iret dX12_which_87
      · replace hF := ip c hF
        refine V.iload_n 3 dX12_which_82 rfl rfl ?_
        refine V.goto (tgt := 87) dX12_which_83 rfl ?_
        cases hF
        exact V.iret dX12_which_87
    · replace hF := iq c hF
      refine V.aload_n 0 dX12_which_47 rfl rfl ?_
      refine V.iload 4 dX12_which_48 rfl ?_
      refine V.iload_n 1 dX12_which_50 rfl rfl ?_
      obtain ⟨r21, h23, hc22, hF⟩ := bd_s hF
      refine V.callVi mf_X12_isReadTo ml_X12_452 sh_251 (s_X12_isReadTo hc22) (by decide) rfl rfl (Nat.le_of_ble_eq_true rfl) dX12_which_51 ?_
      refine V.ifz_ne (tgt := 60) dX12_which_54 rfl (fun c => ?_) (fun c => ?_)
      · replace hF := ip c hF
        refine V.iload_n 3 dX12_which_60 rfl rfl ?_
        refine V.iload_n 2 dX12_which_61 rfl rfl ?_
        refine V.icmp_ne (tgt := 68) dX12_which_62 rfl (fun c => ?_) (fun c => ?_)
        · replace hF := iq c hF
          refine V.iinc (v := (x3 + (1))) 3 [(3, _), (0, _), (1, _), (2, _), (4, _)] dX12_which_68 rfl rfl (by decide) rfl ?_
          exact V.sub [1, 2, 3, 0, 4] rfl (v_X12_which_71 ih hF)
        · replace hF := ip c hF
          refine V.iload 4 dX12_which_65 rfl ?_
          cases hF
          exact V.iret dX12_which_67
      · replace hF := iq c hF
        refine V.goto (tgt := 71) dX12_which_57 rfl ?_
        exact (v_X12_which_71 ih hF)
def X12_which (n : Nat) (x1 : Int32) (x2 : Int32) (h : Mm) : Option (Int32 × Mm) := (if ((wI h 251 0 (0 : Int32)).1 251 27) = 0 then (some ((-1 : Int32), (wI h 251 0 (0 : Int32)))) else (bp (X12_isIn x1.toInt64 (0 : Int64) (99 : Int64) (wI h 251 0 (0 : Int32))) (fun r24 => (if r24 = true then (if (-1 : Int32) ≤ x2 then (X12_which_36 n n x1 x2 (0 : Int32) (0 : Int32) (wI h 251 0 (0 : Int32))) else (some ((-1 : Int32), (wI h 251 0 (0 : Int32))))) else (some ((-1 : Int32), (wI h 251 0 (0 : Int32))))))))
set_option maxRecDepth 100000 in
set_option maxHeartbeats 4000000 in
theorem s_X12_which {X : WX} {o : Mm} {n : Nat} {x1 : Int32} {x2 : Int32} {rv : Int32} {hz : Mm} {h : Mm} (hF : X12_which n x1 x2 h = some (rv, hz)) : Sat X yX12_which cX12_which 5 (some .int) 93 [.ref (xa X 251), .int x1, .int x2] false o h (some (.int rv)) hz := by
  unfold X12_which at hF
  refine Sat.mk (own := RX12) rfl (by decide +kernel) (Nat.le_of_ble_eq_true rfl) (fun G => ?_)
  refine V.sub (lv2 := [(0, _), (1, _), (2, _)]) [0, 1, 2] rfl ?_
  refine V.aload_n 0 dX12_which_0 rfl rfl ?_
  refine V.iconst (v := 0) dX12_which_1 rfl ?_
  refine V.putI fl_X12_93 rfl (tyX12_ok 0 (by decide)) rfl rfl sh_251 rfl km_251 dX12_which_2 ?_
  refine V.aload_n 0 dX12_which_5 rfl rfl ?_
  refine V.getI fl_X12_291 sh_251 rfl km_251 dX12_which_6 ?_
  refine V.if_eq (tgt := 29) dX12_which_9 rfl (fun c => ?_) (fun c => ?_)
  · replace hF := ip c hF
    refine V.iconst (v := -1) dX12_which_29 rfl ?_
    cases hF
    exact V.iret dX12_which_30
  · replace hF := iq c hF
    refine V.iload_n 1 dX12_which_12 rfl rfl ?_
    refine V.i2l dX12_which_13 ?_
    refine V.lconst (v := 0) dX12_which_14 rfl ?_
    refine V.ldc2 (v := 99) dX12_which_15 kc_X12_437 ?_
    obtain ⟨r24, hc25, hF⟩ := bp_s hF
    refine V.callSi mf_X12_isIn ml_X12_214 (s_X12_isIn hc25) (by decide) rfl rfl (Nat.le_of_ble_eq_true rfl) dX12_which_18 ?_
    refine V.ifz_eq (tgt := 29) dX12_which_21 rfl (fun c => ?_) (fun c => ?_)
    · replace hF := iq c hF
      refine V.iconst (v := -1) dX12_which_29 rfl ?_
      cases hF
      exact V.iret dX12_which_30
    · replace hF := ip c hF
      refine V.iload_n 2 dX12_which_24 rfl rfl ?_
      refine V.iconst (v := -1) dX12_which_25 rfl ?_
      refine V.icmp_ge (tgt := 31) dX12_which_26 rfl (fun c => ?_) (fun c => ?_)
      · replace hF := ip c hF
        refine V.iconst (v := 0) dX12_which_31 rfl ?_
        refine V.istore_n [(3, _), (0, _), (1, _), (2, _)] dX12_which_32 rfl (by decide) rfl ?_
        refine V.iconst (v := 0) dX12_which_33 rfl ?_
        refine V.istore [(4, _), (3, _), (0, _), (1, _), (2, _)] dX12_which_34 (by decide) rfl ?_
        exact V.sub [2, 3, 4, 1, 0] rfl (v_X12_which_36 n _ _ _ _ _ hF)
      · replace hF := iq c hF
        refine V.iconst (v := -1) dX12_which_29 rfl ?_
        cases hF
        exact V.iret dX12_which_30
