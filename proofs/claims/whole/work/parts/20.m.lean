/-! MonsterCotModel.rule -/
theorem dX12_rule_0 : decode cX12_rule 0 = .ok (.aload_n 0, 1) := by decide +kernel
theorem dX12_rule_1 : decode cX12_rule 1 = .ok (.iconst 0, 1) := by decide +kernel
theorem dX12_rule_2 : decode cX12_rule 2 = .ok (.putfield 93, 3) := by decide +kernel
theorem dX12_rule_5 : decode cX12_rule 5 = .ok (.aload_n 0, 1) := by decide +kernel
theorem dX12_rule_6 : decode cX12_rule 6 = .ok (.getfield 291, 3) := by decide +kernel
theorem dX12_rule_9 : decode cX12_rule 9 = .ok (.ifCond .eq 15, 3) := by decide +kernel
theorem dX12_rule_12 : decode cX12_rule 12 = .ok (.iload_n 1, 1) := by decide +kernel
theorem dX12_rule_13 : decode cX12_rule 13 = .ok (.i2l, 1) := by decide +kernel
theorem dX12_rule_14 : decode cX12_rule 14 = .ok (.lconst 0, 1) := by decide +kernel
theorem dX12_rule_15 : decode cX12_rule 15 = .ok (.ldc2_w 269, 3) := by decide +kernel
theorem dX12_rule_18 : decode cX12_rule 18 = .ok (.invokestatic 214, 3) := by decide +kernel
theorem dX12_rule_21 : decode cX12_rule 21 = .ok (.ifCond .ne 5, 3) := by decide +kernel
theorem dX12_rule_24 : decode cX12_rule 24 = .ok (.iconst (-1), 1) := by decide +kernel
theorem dX12_rule_25 : decode cX12_rule 25 = .ok (.ireturn, 1) := by decide +kernel
theorem dX12_rule_26 : decode cX12_rule 26 = .ok (.iload_n 1, 1) := by decide +kernel
theorem dX12_rule_27 : decode cX12_rule 27 = .ok (.ifCond .ne 13, 3) := by decide +kernel
theorem dX12_rule_30 : decode cX12_rule 30 = .ok (.aload_n 0, 1) := by decide +kernel
theorem dX12_rule_31 : decode cX12_rule 31 = .ok (.getfield 61, 3) := by decide +kernel
theorem dX12_rule_34 : decode cX12_rule 34 = .ok (.bipush 22, 2) := by decide +kernel
theorem dX12_rule_36 : decode cX12_rule 36 = .ok (.iaload, 1) := by decide +kernel
theorem dX12_rule_37 : decode cX12_rule 37 = .ok (.goto 9, 3) := by decide +kernel
theorem dX12_rule_40 : decode cX12_rule 40 = .ok (.aload_n 0, 1) := by decide +kernel
theorem dX12_rule_41 : decode cX12_rule 41 = .ok (.getfield 37, 3) := by decide +kernel
theorem dX12_rule_44 : decode cX12_rule 44 = .ok (.iload_n 1, 1) := by decide +kernel
theorem dX12_rule_45 : decode cX12_rule 45 = .ok (.iaload, 1) := by decide +kernel
theorem dX12_rule_46 : decode cX12_rule 46 = .ok (.ireturn, 1) := by decide +kernel
def X12_rule (x1 : Int32) (h : Mm) : Option (Int32 × Mm) := (if ((wI h 251 0 (0)).1 251 27) = 0 then (some ((-1), (wI h 251 0 (0)))) else (bp (X12_isIn x1.toInt64 (0 : Int64) (2 : Int64) (wI h 251 0 (0))) (fun r3 => (if r3 = true then (if x1 = 0 then (if inB (22) (aln 264) then (some (((wI h 251 0 (0)).1 264 (22).toNatClampNeg), (wI h 251 0 (0)))) else none) else (if inB x1 (aln 256) then (some (((wI h 251 0 (0)).1 256 x1.toNatClampNeg), (wI h 251 0 (0)))) else none)) else (some ((-1), (wI h 251 0 (0))))))))
set_option maxRecDepth 100000 in
set_option maxHeartbeats 4000000 in
theorem s_X12_rule {X : WX} {o : Mm} {x1 : Int32} {rv : Int32} {hz : Mm} {h : Mm} (hF : X12_rule x1 h = some (rv, hz)) : Sat X yX12_rule cX12_rule 2 (some .int) 2 [.ref (xa X 251), .int x1] false o h (some (.int rv)) hz := by
  unfold X12_rule at hF
  refine Sat.mk (own := RX12) rfl (by decide +kernel) (Nat.le_of_ble_eq_true rfl) (fun G => ?_)
  refine V.sub (lv2 := [(0, _), (1, _)]) [0, 1] rfl ?_
  refine V.aload_n 0 dX12_rule_0 rfl rfl ?_
  refine V.iconst (v := 0) dX12_rule_1 rfl ?_
  refine V.putI fl_X12_93 rfl (tyX12_ok 0 (by decide)) rfl rfl sh_251 rfl km_251 dX12_rule_2 ?_
  refine V.aload_n 0 dX12_rule_5 rfl rfl ?_
  refine V.getI fl_X12_291 sh_251 rfl km_251 dX12_rule_6 ?_
  refine V.if_eq (tgt := 24) dX12_rule_9 rfl (fun c => ?_) (fun c => ?_)
  · replace hF := (if_pos c).symm.trans hF
    refine V.iconst (v := -1) dX12_rule_24 rfl ?_
    cases hF
    exact V.iret dX12_rule_25
  · replace hF := (if_neg c).symm.trans hF
    refine V.iload_n 1 dX12_rule_12 rfl rfl ?_
    refine V.i2l dX12_rule_13 ?_
    refine V.lconst (v := 0) dX12_rule_14 rfl ?_
    refine V.ldc2 (v := 2) dX12_rule_15 kc_X12_269 ?_
    obtain ⟨r3, hc4, hF⟩ := bp_s hF
    refine V.callSi mf_X12_isIn ml_X12_214 (s_X12_isIn hc4) (by decide) rfl rfl (Nat.le_of_ble_eq_true rfl) dX12_rule_18 ?_
    refine V.ifz_ne (tgt := 26) dX12_rule_21 rfl (fun c => ?_) (fun c => ?_)
    · replace hF := (if_pos c).symm.trans hF
      refine V.iload_n 1 dX12_rule_26 rfl rfl ?_
      refine V.if_ne (tgt := 40) dX12_rule_27 rfl (fun c => ?_) (fun c => ?_)
      · replace hF := (if_neg c).symm.trans hF
        refine V.aload_n 0 dX12_rule_40 rfl rfl ?_
        refine V.getR (v := 256) fl_X12_37 sh_251 rfl fx_251_18 (by decide) dX12_rule_41 ?_
        refine V.iload_n 1 dX12_rule_44 rfl rfl ?_
        obtain ⟨hk, hF⟩ := ck hF
        refine V.iald io_256 hk dX12_rule_45 ?_
        cases hF
        exact V.iret dX12_rule_46
      · replace hF := (if_pos c).symm.trans hF
        refine V.aload_n 0 dX12_rule_30 rfl rfl ?_
        refine V.getR (v := 264) fl_X12_61 sh_251 rfl fx_251_32 (by decide) dX12_rule_31 ?_
        refine V.bipush (v := 22) dX12_rule_34 (by decide) ?_
        obtain ⟨hk, hF⟩ := ck hF
        refine V.iald io_264 hk dX12_rule_36 ?_
        refine V.goto (tgt := 46) dX12_rule_37 rfl ?_
        cases hF
        exact V.iret dX12_rule_46
    · replace hF := (if_neg c).symm.trans hF
      refine V.iconst (v := -1) dX12_rule_24 rfl ?_
      cases hF
      exact V.iret dX12_rule_25
/-! MonsterCotModel.tome -/
theorem dX12_tome_0 : decode cX12_tome 0 = .ok (.aload_n 0, 1) := by decide +kernel
theorem dX12_tome_1 : decode cX12_tome 1 = .ok (.iconst 0, 1) := by decide +kernel
theorem dX12_tome_2 : decode cX12_tome 2 = .ok (.putfield 93, 3) := by decide +kernel
theorem dX12_tome_5 : decode cX12_tome 5 = .ok (.aload_n 0, 1) := by decide +kernel
theorem dX12_tome_6 : decode cX12_tome 6 = .ok (.iload_n 1, 1) := by decide +kernel
theorem dX12_tome_7 : decode cX12_tome 7 = .ok (.invokevirtual 319, 3) := by decide +kernel
theorem dX12_tome_10 : decode cX12_tome 10 = .ok (.ifCond .eq 15, 3) := by decide +kernel
theorem dX12_tome_13 : decode cX12_tome 13 = .ok (.iload_n 2, 1) := by decide +kernel
theorem dX12_tome_14 : decode cX12_tome 14 = .ok (.i2l, 1) := by decide +kernel
theorem dX12_tome_15 : decode cX12_tome 15 = .ok (.lconst 0, 1) := by decide +kernel
theorem dX12_tome_16 : decode cX12_tome 16 = .ok (.ldc2_w 346, 3) := by decide +kernel
theorem dX12_tome_19 : decode cX12_tome 19 = .ok (.invokestatic 214, 3) := by decide +kernel
theorem dX12_tome_22 : decode cX12_tome 22 = .ok (.ifCond .ne 5, 3) := by decide +kernel
theorem dX12_tome_25 : decode cX12_tome 25 = .ok (.iconst (-1), 1) := by decide +kernel
theorem dX12_tome_26 : decode cX12_tome 26 = .ok (.ireturn, 1) := by decide +kernel
theorem dX12_tome_27 : decode cX12_tome 27 = .ok (.iload_n 2, 1) := by decide +kernel
theorem dX12_tome_28 : decode cX12_tome 28 = .ok (.iconst 3, 1) := by decide +kernel
theorem dX12_tome_29 : decode cX12_tome 29 = .ok (.if_icmp .ne 17, 3) := by decide +kernel
theorem dX12_tome_32 : decode cX12_tome 32 = .ok (.aload_n 0, 1) := by decide +kernel
theorem dX12_tome_33 : decode cX12_tome 33 = .ok (.getfield 61, 3) := by decide +kernel
theorem dX12_tome_36 : decode cX12_tome 36 = .ok (.bipush 24, 2) := by decide +kernel
theorem dX12_tome_38 : decode cX12_tome 38 = .ok (.iaload, 1) := by decide +kernel
theorem dX12_tome_39 : decode cX12_tome 39 = .ok (.iload_n 1, 1) := by decide +kernel
theorem dX12_tome_40 : decode cX12_tome 40 = .ok (.ishr, 1) := by decide +kernel
theorem dX12_tome_41 : decode cX12_tome 41 = .ok (.iconst 1, 1) := by decide +kernel
theorem dX12_tome_42 : decode cX12_tome 42 = .ok (.iand, 1) := by decide +kernel
theorem dX12_tome_43 : decode cX12_tome 43 = .ok (.goto 13, 3) := by decide +kernel
theorem dX12_tome_46 : decode cX12_tome 46 = .ok (.aload_n 0, 1) := by decide +kernel
theorem dX12_tome_47 : decode cX12_tome 47 = .ok (.getfield 43, 3) := by decide +kernel
theorem dX12_tome_50 : decode cX12_tome 50 = .ok (.iconst 3, 1) := by decide +kernel
theorem dX12_tome_51 : decode cX12_tome 51 = .ok (.iload_n 1, 1) := by decide +kernel
theorem dX12_tome_52 : decode cX12_tome 52 = .ok (.imul, 1) := by decide +kernel
theorem dX12_tome_53 : decode cX12_tome 53 = .ok (.iload_n 2, 1) := by decide +kernel
theorem dX12_tome_54 : decode cX12_tome 54 = .ok (.iadd, 1) := by decide +kernel
theorem dX12_tome_55 : decode cX12_tome 55 = .ok (.iaload, 1) := by decide +kernel
theorem dX12_tome_56 : decode cX12_tome 56 = .ok (.ireturn, 1) := by decide +kernel
def X12_tome (x1 : Int32) (x2 : Int32) (h : Mm) : Option (Int32 × Mm) := (bp (X12_isBook x1 (wI h 251 0 (0))) (fun r5 => (if r5 = true then (bp (X12_isIn x2.toInt64 (0 : Int64) (3 : Int64) (wI h 251 0 (0))) (fun r7 => (if r7 = true then (if x2 = (3) then (if inB (24) (aln 264) then (some (((((wI h 251 0 (0)).1 264 (24).toNatClampNeg) >>> (x1 &&& 31)) &&& (1)), (wI h 251 0 (0)))) else none) else (if inB (((3) * x1) + x2) (aln 258) then (some (((wI h 251 0 (0)).1 258 (((3) * x1) + x2).toNatClampNeg), (wI h 251 0 (0)))) else none)) else (some ((-1), (wI h 251 0 (0))))))) else (some ((-1), (wI h 251 0 (0)))))))
set_option maxRecDepth 100000 in
set_option maxHeartbeats 4000000 in
theorem s_X12_tome {X : WX} {o : Mm} {x1 : Int32} {x2 : Int32} {rv : Int32} {hz : Mm} {h : Mm} (hF : X12_tome x1 x2 h = some (rv, hz)) : Sat X yX12_tome cX12_tome 3 (some .int) 2 [.ref (xa X 251), .int x1, .int x2] false o h (some (.int rv)) hz := by
  unfold X12_tome at hF
  refine Sat.mk (own := RX12) rfl (by decide +kernel) (Nat.le_of_ble_eq_true rfl) (fun G => ?_)
  refine V.sub (lv2 := [(0, _), (1, _), (2, _)]) [0, 1, 2] rfl ?_
  refine V.aload_n 0 dX12_tome_0 rfl rfl ?_
  refine V.iconst (v := 0) dX12_tome_1 rfl ?_
  refine V.putI fl_X12_93 rfl (tyX12_ok 0 (by decide)) rfl rfl sh_251 rfl km_251 dX12_tome_2 ?_
  refine V.aload_n 0 dX12_tome_5 rfl rfl ?_
  refine V.iload_n 1 dX12_tome_6 rfl rfl ?_
  obtain ⟨r5, hc6, hF⟩ := bp_s hF
  refine V.callVi mf_X12_isBook ml_X12_319 sh_251 (s_X12_isBook hc6) (by decide) rfl rfl (Nat.le_of_ble_eq_true rfl) dX12_tome_7 ?_
  refine V.ifz_eq (tgt := 25) dX12_tome_10 rfl (fun c => ?_) (fun c => ?_)
  · replace hF := (if_neg c).symm.trans hF
    refine V.iconst (v := -1) dX12_tome_25 rfl ?_
    cases hF
    exact V.iret dX12_tome_26
  · replace hF := (if_pos c).symm.trans hF
    refine V.iload_n 2 dX12_tome_13 rfl rfl ?_
    refine V.i2l dX12_tome_14 ?_
    refine V.lconst (v := 0) dX12_tome_15 rfl ?_
    refine V.ldc2 (v := 3) dX12_tome_16 kc_X12_346 ?_
    obtain ⟨r7, hc8, hF⟩ := bp_s hF
    refine V.callSi mf_X12_isIn ml_X12_214 (s_X12_isIn hc8) (by decide) rfl rfl (Nat.le_of_ble_eq_true rfl) dX12_tome_19 ?_
    refine V.ifz_ne (tgt := 27) dX12_tome_22 rfl (fun c => ?_) (fun c => ?_)
    · replace hF := (if_pos c).symm.trans hF
      refine V.iload_n 2 dX12_tome_27 rfl rfl ?_
      refine V.iconst (v := 3) dX12_tome_28 rfl ?_
      refine V.icmp_ne (tgt := 46) dX12_tome_29 rfl (fun c => ?_) (fun c => ?_)
      · replace hF := (if_neg c).symm.trans hF
        refine V.aload_n 0 dX12_tome_46 rfl rfl ?_
        refine V.getR (v := 258) fl_X12_43 sh_251 rfl fx_251_20 (by decide) dX12_tome_47 ?_
        refine V.iconst (v := 3) dX12_tome_50 rfl ?_
        refine V.iload_n 1 dX12_tome_51 rfl rfl ?_
        refine V.imul dX12_tome_52 ?_
        refine V.iload_n 2 dX12_tome_53 rfl rfl ?_
        refine V.iadd dX12_tome_54 ?_
        obtain ⟨hk, hF⟩ := ck hF
        refine V.iald io_258 hk dX12_tome_55 ?_
        cases hF
        exact V.iret dX12_tome_56
      · replace hF := (if_pos c).symm.trans hF
        refine V.aload_n 0 dX12_tome_32 rfl rfl ?_
        refine V.getR (v := 264) fl_X12_61 sh_251 rfl fx_251_32 (by decide) dX12_tome_33 ?_
        refine V.bipush (v := 24) dX12_tome_36 (by decide) ?_
        obtain ⟨hk, hF⟩ := ck hF
        refine V.iald io_264 hk dX12_tome_38 ?_
        refine V.iload_n 1 dX12_tome_39 rfl rfl ?_
        refine V.ishr dX12_tome_40 ?_
        refine V.iconst (v := 1) dX12_tome_41 rfl ?_
        refine V.iand dX12_tome_42 ?_
        refine V.goto (tgt := 56) dX12_tome_43 rfl ?_
        cases hF
        exact V.iret dX12_tome_56
    · replace hF := (if_neg c).symm.trans hF
      refine V.iconst (v := -1) dX12_tome_25 rfl ?_
      cases hF
      exact V.iret dX12_tome_26
/-! MonsterCotModel.house -/
theorem dX12_house_0 : decode cX12_house 0 = .ok (.aload_n 0, 1) := by decide +kernel
theorem dX12_house_1 : decode cX12_house 1 = .ok (.aload_n 0, 1) := by decide +kernel
theorem dX12_house_2 : decode cX12_house 2 = .ok (.iload_n 1, 1) := by decide +kernel
theorem dX12_house_3 : decode cX12_house 3 = .ok (.invokevirtual 337, 3) := by decide +kernel
theorem dX12_house_6 : decode cX12_house 6 = .ok (.ifCond .eq 19, 3) := by decide +kernel
theorem dX12_house_9 : decode cX12_house 9 = .ok (.iload_n 2, 1) := by decide +kernel
theorem dX12_house_10 : decode cX12_house 10 = .ok (.i2l, 1) := by decide +kernel
theorem dX12_house_11 : decode cX12_house 11 = .ok (.lconst 0, 1) := by decide +kernel
theorem dX12_house_12 : decode cX12_house 12 = .ok (.ldc2_w 348, 3) := by decide +kernel
theorem dX12_house_15 : decode cX12_house 15 = .ok (.invokestatic 214, 3) := by decide +kernel
theorem dX12_house_18 : decode cX12_house 18 = .ok (.ifCond .eq 7, 3) := by decide +kernel
theorem dX12_house_21 : decode cX12_house 21 = .ok (.iconst 0, 1) := by decide +kernel
theorem dX12_house_22 : decode cX12_house 22 = .ok (.goto 4, 3) := by decide +kernel
theorem dX12_house_25 : decode cX12_house 25 = .ok (.iconst 1, 1) := by decide +kernel
theorem dX12_house_26 : decode cX12_house 26 = .ok (.putfield 93, 3) := by decide +kernel
theorem dX12_house_29 : decode cX12_house 29 = .ok (.aload_n 0, 1) := by decide +kernel
theorem dX12_house_30 : decode cX12_house 30 = .ok (.getfield 93, 3) := by decide +kernel
theorem dX12_house_33 : decode cX12_house 33 = .ok (.ifCond .le 5, 3) := by decide +kernel
theorem dX12_house_36 : decode cX12_house 36 = .ok (.iconst 0, 1) := by decide +kernel
theorem dX12_house_37 : decode cX12_house 37 = .ok (.ireturn, 1) := by decide +kernel
theorem dX12_house_38 : decode cX12_house 38 = .ok (.iload_n 2, 1) := by decide +kernel
theorem dX12_house_39 : decode cX12_house 39 = .ok (.tableswitch 66 0 3 #[29, 38, 44, 55], 29) := by decide +kernel
theorem dX12_house_68 : decode cX12_house 68 = .ok (.aload_n 0, 1) := by decide +kernel
theorem dX12_house_69 : decode cX12_house 69 = .ok (.getfield 49, 3) := by decide +kernel
theorem dX12_house_72 : decode cX12_house 72 = .ok (.iconst 3, 1) := by decide +kernel
theorem dX12_house_73 : decode cX12_house 73 = .ok (.iload_n 1, 1) := by decide +kernel
theorem dX12_house_74 : decode cX12_house 74 = .ok (.imul, 1) := by decide +kernel
theorem dX12_house_75 : decode cX12_house 75 = .ok (.iaload, 1) := by decide +kernel
theorem dX12_house_76 : decode cX12_house 76 = .ok (.ireturn, 1) := by decide +kernel
theorem dX12_house_77 : decode cX12_house 77 = .ok (.aload_n 0, 1) := by decide +kernel
theorem dX12_house_78 : decode cX12_house 78 = .ok (.iload_n 1, 1) := by decide +kernel
theorem dX12_house_79 : decode cX12_house 79 = .ok (.invokevirtual 325, 3) := by decide +kernel
theorem dX12_house_82 : decode cX12_house 82 = .ok (.ireturn, 1) := by decide +kernel
theorem dX12_house_83 : decode cX12_house 83 = .ok (.aload_n 0, 1) := by decide +kernel
theorem dX12_house_84 : decode cX12_house 84 = .ok (.getfield 61, 3) := by decide +kernel
theorem dX12_house_87 : decode cX12_house 87 = .ok (.iconst 3, 1) := by decide +kernel
theorem dX12_house_88 : decode cX12_house 88 = .ok (.iload_n 1, 1) := by decide +kernel
theorem dX12_house_89 : decode cX12_house 89 = .ok (.imul, 1) := by decide +kernel
theorem dX12_house_90 : decode cX12_house 90 = .ok (.iconst 1, 1) := by decide +kernel
theorem dX12_house_91 : decode cX12_house 91 = .ok (.iadd, 1) := by decide +kernel
theorem dX12_house_92 : decode cX12_house 92 = .ok (.iaload, 1) := by decide +kernel
theorem dX12_house_93 : decode cX12_house 93 = .ok (.ireturn, 1) := by decide +kernel
theorem dX12_house_94 : decode cX12_house 94 = .ok (.aload_n 0, 1) := by decide +kernel
theorem dX12_house_95 : decode cX12_house 95 = .ok (.getfield 61, 3) := by decide +kernel
theorem dX12_house_98 : decode cX12_house 98 = .ok (.iconst 3, 1) := by decide +kernel
theorem dX12_house_99 : decode cX12_house 99 = .ok (.iload_n 1, 1) := by decide +kernel
theorem dX12_house_100 : decode cX12_house 100 = .ok (.imul, 1) := by decide +kernel
theorem dX12_house_101 : decode cX12_house 101 = .ok (.iconst 0, 1) := by decide +kernel
theorem dX12_house_102 : decode cX12_house 102 = .ok (.iadd, 1) := by decide +kernel
theorem dX12_house_103 : decode cX12_house 103 = .ok (.iaload, 1) := by decide +kernel
theorem dX12_house_104 : decode cX12_house 104 = .ok (.ireturn, 1) := by decide +kernel
theorem dX12_house_105 : decode cX12_house 105 = .ok (.aload_n 0, 1) := by decide +kernel
theorem dX12_house_106 : decode cX12_house 106 = .ok (.getfield 61, 3) := by decide +kernel
theorem dX12_house_109 : decode cX12_house 109 = .ok (.iconst 3, 1) := by decide +kernel
theorem dX12_house_110 : decode cX12_house 110 = .ok (.iload_n 1, 1) := by decide +kernel
theorem dX12_house_111 : decode cX12_house 111 = .ok (.imul, 1) := by decide +kernel
theorem dX12_house_112 : decode cX12_house 112 = .ok (.iconst 2, 1) := by decide +kernel
theorem dX12_house_113 : decode cX12_house 113 = .ok (.iadd, 1) := by decide +kernel
theorem dX12_house_114 : decode cX12_house 114 = .ok (.iaload, 1) := by decide +kernel
theorem dX12_house_115 : decode cX12_house 115 = .ok (.ireturn, 1) := by decide +kernel
def X12_house_26 (x1 : Int32) (x2 : Int32) (s1 : Bool) (h : Mm) : Option (Int32 × Mm) := (if ((wI h 251 0 (b2i s1)).1 251 0) ≤ 0 then (if x2 = 0 then (if inB ((3) * x1) (aln 260) then (some (((wI h 251 0 (b2i s1)).1 260 ((3) * x1).toNatClampNeg), (wI h 251 0 (b2i s1)))) else none) else (if x2 = 1 then (bp (X12_strength x1 (wI h 251 0 (b2i s1))) (fun r13 => (some (r13, (wI h 251 0 (b2i s1)))))) else (if x2 = 2 then (if inB (((3) * x1) + (1)) (aln 264) then (some (((wI h 251 0 (b2i s1)).1 264 (((3) * x1) + (1)).toNatClampNeg), (wI h 251 0 (b2i s1)))) else none) else (if x2 = 3 then (if inB (((3) * x1) + (0)) (aln 264) then (some (((wI h 251 0 (b2i s1)).1 264 (((3) * x1) + (0)).toNatClampNeg), (wI h 251 0 (b2i s1)))) else none) else (if inB (((3) * x1) + (2)) (aln 264) then (some (((wI h 251 0 (b2i s1)).1 264 (((3) * x1) + (2)).toNatClampNeg), (wI h 251 0 (b2i s1)))) else none))))) else (some ((0), (wI h 251 0 (b2i s1)))))
set_option maxRecDepth 100000 in
set_option maxHeartbeats 4000000 in
theorem v_X12_house_26 {X : WX} {G : GX} {o : Mm} {rv : Int32} {hz : Mm} {x1 : Int32} {x2 : Int32} {s1 : Bool} {h : Mm} (hF : X12_house_26  x1 x2 s1 h = some (rv, hz)) : V X G RX12 cX12_house 3 (some .int) 2 0 0 (QR X G false o (some (.int rv)) hz) false o 26 [(0, .ref (xa X 251)), (1, .int x1), (2, .int x2)] [.int (b2i s1), .ref (xa X 251)] h := by
  unfold X12_house_26 at hF
  refine V.putI fl_X12_93 rfl (tyX12_ok 0 (by decide)) rfl rfl sh_251 rfl km_251 dX12_house_26 ?_
  refine V.aload_n 0 dX12_house_29 rfl rfl ?_
  refine V.getI fl_X12_93 sh_251 rfl km_251 dX12_house_30 ?_
  refine V.if_le (tgt := 38) dX12_house_33 rfl (fun c => ?_) (fun c => ?_)
  · replace hF := (if_pos c).symm.trans hF
    refine V.iload_n 2 dX12_house_38 rfl rfl ?_
    by_cases c0 : x2 = 0
    · replace hF := (if_pos c0).symm.trans hF
      refine V.tswIn (tgt := 68) c0 dX12_house_39 (by decide) (by decide) rfl rfl ?_
      refine V.aload_n 0 dX12_house_68 rfl rfl ?_
      refine V.getR (v := 260) fl_X12_49 sh_251 rfl fx_251_22 (by decide) dX12_house_69 ?_
      refine V.iconst (v := 3) dX12_house_72 rfl ?_
      refine V.iload_n 1 dX12_house_73 rfl rfl ?_
      refine V.imul dX12_house_74 ?_
      obtain ⟨hk, hF⟩ := ck hF
      refine V.iald io_260 hk dX12_house_75 ?_
      cases hF
      exact V.iret dX12_house_76
    replace hF := (if_neg c0).symm.trans hF
    by_cases c1 : x2 = 1
    · replace hF := (if_pos c1).symm.trans hF
      refine V.tswIn (tgt := 77) c1 dX12_house_39 (by decide) (by decide) rfl rfl ?_
      refine V.aload_n 0 dX12_house_77 rfl rfl ?_
      refine V.iload_n 1 dX12_house_78 rfl rfl ?_
      obtain ⟨r13, hc14, hF⟩ := bp_s hF
      refine V.callVi mf_X12_strength ml_X12_325 sh_251 (s_X12_strength hc14) (by decide) rfl rfl (Nat.le_of_ble_eq_true rfl) dX12_house_79 ?_
      cases hF
      exact V.iret dX12_house_82
    replace hF := (if_neg c1).symm.trans hF
    by_cases c2 : x2 = 2
    · replace hF := (if_pos c2).symm.trans hF
      refine V.tswIn (tgt := 83) c2 dX12_house_39 (by decide) (by decide) rfl rfl ?_
      refine V.aload_n 0 dX12_house_83 rfl rfl ?_
      refine V.getR (v := 264) fl_X12_61 sh_251 rfl fx_251_32 (by decide) dX12_house_84 ?_
      refine V.iconst (v := 3) dX12_house_87 rfl ?_
      refine V.iload_n 1 dX12_house_88 rfl rfl ?_
      refine V.imul dX12_house_89 ?_
      refine V.iconst (v := 1) dX12_house_90 rfl ?_
      refine V.iadd dX12_house_91 ?_
      obtain ⟨hk, hF⟩ := ck hF
      refine V.iald io_264 hk dX12_house_92 ?_
      cases hF
      exact V.iret dX12_house_93
    replace hF := (if_neg c2).symm.trans hF
    by_cases c3 : x2 = 3
    · replace hF := (if_pos c3).symm.trans hF
      refine V.tswIn (tgt := 94) c3 dX12_house_39 (by decide) (by decide) rfl rfl ?_
      refine V.aload_n 0 dX12_house_94 rfl rfl ?_
      refine V.getR (v := 264) fl_X12_61 sh_251 rfl fx_251_32 (by decide) dX12_house_95 ?_
      refine V.iconst (v := 3) dX12_house_98 rfl ?_
      refine V.iload_n 1 dX12_house_99 rfl rfl ?_
      refine V.imul dX12_house_100 ?_
      refine V.iconst (v := 0) dX12_house_101 rfl ?_
      refine V.iadd dX12_house_102 ?_
      obtain ⟨hk, hF⟩ := ck hF
      refine V.iald io_264 hk dX12_house_103 ?_
      cases hF
      exact V.iret dX12_house_104
    replace hF := (if_neg c3).symm.trans hF
    refine V.tswOut (tgt := 105) dX12_house_39 (tsw_out (by decide) (by decide) [0, 1, 2, 3] rfl (fun v hv => ?_)) rfl ?_
    · simp only [List.mem_cons, List.not_mem_nil, or_false] at hv
      rcases hv with rfl | rfl | rfl | rfl <;> assumption
    refine V.aload_n 0 dX12_house_105 rfl rfl ?_
    refine V.getR (v := 264) fl_X12_61 sh_251 rfl fx_251_32 (by decide) dX12_house_106 ?_
    refine V.iconst (v := 3) dX12_house_109 rfl ?_
    refine V.iload_n 1 dX12_house_110 rfl rfl ?_
    refine V.imul dX12_house_111 ?_
    refine V.iconst (v := 2) dX12_house_112 rfl ?_
    refine V.iadd dX12_house_113 ?_
    obtain ⟨hk, hF⟩ := ck hF
    refine V.iald io_264 hk dX12_house_114 ?_
    cases hF
    exact V.iret dX12_house_115
  · replace hF := (if_neg c).symm.trans hF
    refine V.iconst (v := 0) dX12_house_36 rfl ?_
    cases hF
    exact V.iret dX12_house_37
def X12_house_25 (x1 : Int32) (x2 : Int32) (h : Mm) : Option (Int32 × Mm) := (X12_house_26 x1 x2 true h)
set_option maxRecDepth 100000 in
set_option maxHeartbeats 4000000 in
theorem v_X12_house_25 {X : WX} {G : GX} {o : Mm} {rv : Int32} {hz : Mm} {x1 : Int32} {x2 : Int32} {h : Mm} (hF : X12_house_25  x1 x2 h = some (rv, hz)) : V X G RX12 cX12_house 3 (some .int) 2 0 0 (QR X G false o (some (.int rv)) hz) false o 25 [(0, .ref (xa X 251)), (1, .int x1), (2, .int x2)] [.ref (xa X 251)] h := by
  unfold X12_house_25 at hF
  refine V.iconst (v := 1) dX12_house_25 rfl ?_
  exact (v_X12_house_26 hF)
def X12_house (x1 : Int32) (x2 : Int32) (h : Mm) : Option (Int32 × Mm) := (bp (X12_isHouse x1 h) (fun r15 => (if r15 = true then (bp (X12_isIn x2.toInt64 (0 : Int64) (4 : Int64) h) (fun r17 => (if r17 = true then (X12_house_26 x1 x2 false h) else (X12_house_25 x1 x2 h)))) else (X12_house_25 x1 x2 h))))
set_option maxRecDepth 100000 in
set_option maxHeartbeats 4000000 in
theorem s_X12_house {X : WX} {o : Mm} {x1 : Int32} {x2 : Int32} {rv : Int32} {hz : Mm} {h : Mm} (hF : X12_house x1 x2 h = some (rv, hz)) : Sat X yX12_house cX12_house 3 (some .int) 2 [.ref (xa X 251), .int x1, .int x2] false o h (some (.int rv)) hz := by
  unfold X12_house at hF
  refine Sat.mk (own := RX12) rfl (by decide +kernel) (Nat.le_of_ble_eq_true rfl) (fun G => ?_)
  refine V.sub (lv2 := [(0, _), (1, _), (2, _)]) [0, 1, 2] rfl ?_
  refine V.aload_n 0 dX12_house_0 rfl rfl ?_
  refine V.aload_n 0 dX12_house_1 rfl rfl ?_
  refine V.iload_n 1 dX12_house_2 rfl rfl ?_
  obtain ⟨r15, hc16, hF⟩ := bp_s hF
  refine V.callVi mf_X12_isHouse ml_X12_337 sh_251 (s_X12_isHouse hc16) (by decide) rfl rfl (Nat.le_of_ble_eq_true rfl) dX12_house_3 ?_
  refine V.ifz_eq (tgt := 25) dX12_house_6 rfl (fun c => ?_) (fun c => ?_)
  · replace hF := (if_neg c).symm.trans hF
    exact (v_X12_house_25 hF)
  · replace hF := (if_pos c).symm.trans hF
    refine V.iload_n 2 dX12_house_9 rfl rfl ?_
    refine V.i2l dX12_house_10 ?_
    refine V.lconst (v := 0) dX12_house_11 rfl ?_
    refine V.ldc2 (v := 4) dX12_house_12 kc_X12_348 ?_
    obtain ⟨r17, hc18, hF⟩ := bp_s hF
    refine V.callSi mf_X12_isIn ml_X12_214 (s_X12_isIn hc18) (by decide) rfl rfl (Nat.le_of_ble_eq_true rfl) dX12_house_15 ?_
    refine V.ifz_eq (tgt := 25) dX12_house_18 rfl (fun c => ?_) (fun c => ?_)
    · replace hF := (if_neg c).symm.trans hF
      exact (v_X12_house_25 hF)
    · replace hF := (if_pos c).symm.trans hF
      refine V.iconst (v := 0) dX12_house_21 rfl ?_
      refine V.goto (tgt := 26) dX12_house_22 rfl ?_
      exact (v_X12_house_26 hF)
/-! MonsterCotModel.bored -/
theorem dX12_bored_0 : decode cX12_bored 0 = .ok (.aload_n 0, 1) := by decide +kernel
theorem dX12_bored_1 : decode cX12_bored 1 = .ok (.iconst 0, 1) := by decide +kernel
theorem dX12_bored_2 : decode cX12_bored 2 = .ok (.putfield 93, 3) := by decide +kernel
theorem dX12_bored_5 : decode cX12_bored 5 = .ok (.aload_n 0, 1) := by decide +kernel
theorem dX12_bored_6 : decode cX12_bored 6 = .ok (.getfield 291, 3) := by decide +kernel
theorem dX12_bored_9 : decode cX12_bored 9 = .ok (.ifCond .le 27, 3) := by decide +kernel
theorem dX12_bored_12 : decode cX12_bored 12 = .ok (.iload_n 1, 1) := by decide +kernel
theorem dX12_bored_13 : decode cX12_bored 13 = .ok (.i2l, 1) := by decide +kernel
theorem dX12_bored_14 : decode cX12_bored 14 = .ok (.lconst 0, 1) := by decide +kernel
theorem dX12_bored_15 : decode cX12_bored 15 = .ok (.ldc2_w 346, 3) := by decide +kernel
theorem dX12_bored_18 : decode cX12_bored 18 = .ok (.invokestatic 214, 3) := by decide +kernel
theorem dX12_bored_21 : decode cX12_bored 21 = .ok (.ifCond .eq 15, 3) := by decide +kernel
theorem dX12_bored_24 : decode cX12_bored 24 = .ok (.aload_n 0, 1) := by decide +kernel
theorem dX12_bored_25 : decode cX12_bored 25 = .ok (.getfield 61, 3) := by decide +kernel
theorem dX12_bored_28 : decode cX12_bored 28 = .ok (.bipush 18, 2) := by decide +kernel
theorem dX12_bored_30 : decode cX12_bored 30 = .ok (.iload_n 1, 1) := by decide +kernel
theorem dX12_bored_31 : decode cX12_bored 31 = .ok (.iadd, 1) := by decide +kernel
theorem dX12_bored_32 : decode cX12_bored 32 = .ok (.iaload, 1) := by decide +kernel
theorem dX12_bored_33 : decode cX12_bored 33 = .ok (.goto 4, 3) := by decide +kernel
theorem dX12_bored_36 : decode cX12_bored 36 = .ok (.iconst (-1), 1) := by decide +kernel
theorem dX12_bored_37 : decode cX12_bored 37 = .ok (.ireturn, 1) := by decide +kernel
def X12_bored (x1 : Int32) (h : Mm) : Option (Int32 × Mm) := (if ((wI h 251 0 (0)).1 251 27) ≤ 0 then (some ((-1), (wI h 251 0 (0)))) else (bp (X12_isIn x1.toInt64 (0 : Int64) (3 : Int64) (wI h 251 0 (0))) (fun r3 => (if r3 = true then (if inB ((18) + x1) (aln 264) then (some (((wI h 251 0 (0)).1 264 ((18) + x1).toNatClampNeg), (wI h 251 0 (0)))) else none) else (some ((-1), (wI h 251 0 (0))))))))
set_option maxRecDepth 100000 in
set_option maxHeartbeats 4000000 in
theorem s_X12_bored {X : WX} {o : Mm} {x1 : Int32} {rv : Int32} {hz : Mm} {h : Mm} (hF : X12_bored x1 h = some (rv, hz)) : Sat X yX12_bored cX12_bored 2 (some .int) 2 [.ref (xa X 251), .int x1] false o h (some (.int rv)) hz := by
  unfold X12_bored at hF
  refine Sat.mk (own := RX12) rfl (by decide +kernel) (Nat.le_of_ble_eq_true rfl) (fun G => ?_)
  refine V.sub (lv2 := [(0, _), (1, _)]) [0, 1] rfl ?_
  refine V.aload_n 0 dX12_bored_0 rfl rfl ?_
  refine V.iconst (v := 0) dX12_bored_1 rfl ?_
  refine V.putI fl_X12_93 rfl (tyX12_ok 0 (by decide)) rfl rfl sh_251 rfl km_251 dX12_bored_2 ?_
  refine V.aload_n 0 dX12_bored_5 rfl rfl ?_
  refine V.getI fl_X12_291 sh_251 rfl km_251 dX12_bored_6 ?_
  refine V.if_le (tgt := 36) dX12_bored_9 rfl (fun c => ?_) (fun c => ?_)
  · replace hF := (if_pos c).symm.trans hF
    refine V.iconst (v := -1) dX12_bored_36 rfl ?_
    cases hF
    exact V.iret dX12_bored_37
  · replace hF := (if_neg c).symm.trans hF
    refine V.iload_n 1 dX12_bored_12 rfl rfl ?_
    refine V.i2l dX12_bored_13 ?_
    refine V.lconst (v := 0) dX12_bored_14 rfl ?_
    refine V.ldc2 (v := 3) dX12_bored_15 kc_X12_346 ?_
    obtain ⟨r3, hc4, hF⟩ := bp_s hF
    refine V.callSi mf_X12_isIn ml_X12_214 (s_X12_isIn hc4) (by decide) rfl rfl (Nat.le_of_ble_eq_true rfl) dX12_bored_18 ?_
    refine V.ifz_eq (tgt := 36) dX12_bored_21 rfl (fun c => ?_) (fun c => ?_)
    · replace hF := (if_neg c).symm.trans hF
      refine V.iconst (v := -1) dX12_bored_36 rfl ?_
      cases hF
      exact V.iret dX12_bored_37
    · replace hF := (if_pos c).symm.trans hF
      refine V.aload_n 0 dX12_bored_24 rfl rfl ?_
      refine V.getR (v := 264) fl_X12_61 sh_251 rfl fx_251_32 (by decide) dX12_bored_25 ?_
      refine V.bipush (v := 18) dX12_bored_28 (by decide) ?_
      refine V.iload_n 1 dX12_bored_30 rfl rfl ?_
      refine V.iadd dX12_bored_31 ?_
      obtain ⟨hk, hF⟩ := ck hF
      refine V.iald io_264 hk dX12_bored_32 ?_
      refine V.goto (tgt := 37) dX12_bored_33 rfl ?_
      cases hF
      exact V.iret dX12_bored_37
/-! MonsterCotModel.law -/
theorem dX12_law_0 : decode cX12_law 0 = .ok (.aload_n 0, 1) := by decide +kernel
theorem dX12_law_1 : decode cX12_law 1 = .ok (.iconst 0, 1) := by decide +kernel
theorem dX12_law_2 : decode cX12_law 2 = .ok (.putfield 93, 3) := by decide +kernel
theorem dX12_law_5 : decode cX12_law 5 = .ok (.iload_n 1, 1) := by decide +kernel
theorem dX12_law_6 : decode cX12_law 6 = .ok (.iconst (-1), 1) := by decide +kernel
theorem dX12_law_7 : decode cX12_law 7 = .ok (.if_icmp .eq 21, 3) := by decide +kernel
theorem dX12_law_10 : decode cX12_law 10 = .ok (.iload_n 1, 1) := by decide +kernel
theorem dX12_law_11 : decode cX12_law 11 = .ok (.i2l, 1) := by decide +kernel
theorem dX12_law_12 : decode cX12_law 12 = .ok (.lconst 0, 1) := by decide +kernel
theorem dX12_law_13 : decode cX12_law 13 = .ok (.aload_n 0, 1) := by decide +kernel
theorem dX12_law_14 : decode cX12_law 14 = .ok (.getfield 280, 3) := by decide +kernel
theorem dX12_law_17 : decode cX12_law 17 = .ok (.iconst 1, 1) := by decide +kernel
theorem dX12_law_18 : decode cX12_law 18 = .ok (.isub, 1) := by decide +kernel
theorem dX12_law_19 : decode cX12_law 19 = .ok (.i2l, 1) := by decide +kernel
theorem dX12_law_20 : decode cX12_law 20 = .ok (.invokestatic 214, 3) := by decide +kernel
theorem dX12_law_23 : decode cX12_law 23 = .ok (.ifCond .ne 5, 3) := by decide +kernel
theorem dX12_law_26 : decode cX12_law 26 = .ok (.iconst 0, 1) := by decide +kernel
theorem dX12_law_27 : decode cX12_law 27 = .ok (.ireturn, 1) := by decide +kernel
theorem dX12_law_28 : decode cX12_law 28 = .ok (.aload_n 0, 1) := by decide +kernel
theorem dX12_law_29 : decode cX12_law 29 = .ok (.iload_n 1, 1) := by decide +kernel
theorem dX12_law_30 : decode cX12_law 30 = .ok (.putfield 67, 3) := by decide +kernel
theorem dX12_law_33 : decode cX12_law 33 = .ok (.iconst 1, 1) := by decide +kernel
theorem dX12_law_34 : decode cX12_law 34 = .ok (.ireturn, 1) := by decide +kernel
def X12_law_28 (x1 : Int32) (h : Mm) : Option (Bool × Mm) := (some (true, (wI h 251 34 x1)))
set_option maxRecDepth 100000 in
set_option maxHeartbeats 4000000 in
theorem v_X12_law_28 {X : WX} {G : GX} {o : Mm} {rv : Bool} {hz : Mm} {x1 : Int32} {h : Mm} (hF : X12_law_28  x1 h = some (rv, hz)) : V X G RX12 cX12_law 2 (some .boolean) 2 0 0 (QR X G false o (some (.int (b2i rv))) hz) false o 28 [(0, .ref (xa X 251)), (1, .int x1)] [] h := by
  unfold X12_law_28 at hF
  refine V.aload_n 0 dX12_law_28 rfl rfl ?_
  refine V.iload_n 1 dX12_law_29 rfl rfl ?_
  refine V.putI fl_X12_67 rfl (tyX12_ok 34 (by decide)) rfl rfl sh_251 rfl km_251 dX12_law_30 ?_
  refine V.iconst (v := 1) dX12_law_33 rfl ?_
  cases hF
  exact V.bret dX12_law_34
def X12_law (x1 : Int32) (h : Mm) : Option (Bool × Mm) := (if x1 = (-1) then (X12_law_28 x1 (wI h 251 0 (0))) else (bp (X12_isIn x1.toInt64 (0 : Int64) ((((wI h 251 0 (0)).1 251 7) - (1)).toInt64) (wI h 251 0 (0))) (fun r5 => (if r5 = true then (X12_law_28 x1 (wI h 251 0 (0))) else (some (false, (wI h 251 0 (0))))))))
set_option maxRecDepth 100000 in
set_option maxHeartbeats 4000000 in
theorem s_X12_law {X : WX} {o : Mm} {x1 : Int32} {rv : Bool} {hz : Mm} {h : Mm} (hF : X12_law x1 h = some (rv, hz)) : Sat X yX12_law cX12_law 2 (some .boolean) 2 [.ref (xa X 251), .int x1] false o h (some (.int (b2i rv))) hz := by
  unfold X12_law at hF
  refine Sat.mk (own := RX12) rfl (by decide +kernel) (Nat.le_of_ble_eq_true rfl) (fun G => ?_)
  refine V.sub (lv2 := [(0, _), (1, _)]) [0, 1] rfl ?_
  refine V.aload_n 0 dX12_law_0 rfl rfl ?_
  refine V.iconst (v := 0) dX12_law_1 rfl ?_
  refine V.putI fl_X12_93 rfl (tyX12_ok 0 (by decide)) rfl rfl sh_251 rfl km_251 dX12_law_2 ?_
  refine V.iload_n 1 dX12_law_5 rfl rfl ?_
  refine V.iconst (v := -1) dX12_law_6 rfl ?_
  refine V.icmp_eq (tgt := 28) dX12_law_7 rfl (fun c => ?_) (fun c => ?_)
  · replace hF := (if_pos c).symm.trans hF
    exact (v_X12_law_28 hF)
  · replace hF := (if_neg c).symm.trans hF
    refine V.iload_n 1 dX12_law_10 rfl rfl ?_
    refine V.i2l dX12_law_11 ?_
    refine V.lconst (v := 0) dX12_law_12 rfl ?_
    refine V.aload_n 0 dX12_law_13 rfl rfl ?_
    refine V.getI fl_X12_280 sh_251 rfl km_251 dX12_law_14 ?_
    refine V.iconst (v := 1) dX12_law_17 rfl ?_
    refine V.isub dX12_law_18 ?_
    refine V.i2l dX12_law_19 ?_
    obtain ⟨r5, hc6, hF⟩ := bp_s hF
    refine V.callSi mf_X12_isIn ml_X12_214 (s_X12_isIn hc6) (by decide) rfl rfl (Nat.le_of_ble_eq_true rfl) dX12_law_20 ?_
    refine V.ifz_ne (tgt := 28) dX12_law_23 rfl (fun c => ?_) (fun c => ?_)
    · replace hF := (if_pos c).symm.trans hF
      exact (v_X12_law_28 hF)
    · replace hF := (if_neg c).symm.trans hF
      refine V.iconst (v := 0) dX12_law_26 rfl ?_
      cases hF
      exact V.bret dX12_law_27
/-! MonsterCotModel.hush -/
theorem dX12_hush_0 : decode cX12_hush 0 = .ok (.aload_n 0, 1) := by decide +kernel
theorem dX12_hush_1 : decode cX12_hush 1 = .ok (.iconst 0, 1) := by decide +kernel
theorem dX12_hush_2 : decode cX12_hush 2 = .ok (.putfield 93, 3) := by decide +kernel
theorem dX12_hush_5 : decode cX12_hush 5 = .ok (.iload_n 1, 1) := by decide +kernel
theorem dX12_hush_6 : decode cX12_hush 6 = .ok (.i2l, 1) := by decide +kernel
theorem dX12_hush_7 : decode cX12_hush 7 = .ok (.lconst 0, 1) := by decide +kernel
theorem dX12_hush_8 : decode cX12_hush 8 = .ok (.ldc2_w 350, 3) := by decide +kernel
theorem dX12_hush_11 : decode cX12_hush 11 = .ok (.invokestatic 214, 3) := by decide +kernel
theorem dX12_hush_14 : decode cX12_hush 14 = .ok (.ifCond .eq 11, 3) := by decide +kernel
theorem dX12_hush_17 : decode cX12_hush 17 = .ok (.iload_n 1, 1) := by decide +kernel
theorem dX12_hush_18 : decode cX12_hush 18 = .ok (.aload_n 0, 1) := by decide +kernel
theorem dX12_hush_19 : decode cX12_hush 19 = .ok (.getfield 352, 3) := by decide +kernel
theorem dX12_hush_22 : decode cX12_hush 22 = .ok (.if_icmp .ne 5, 3) := by decide +kernel
theorem dX12_hush_25 : decode cX12_hush 25 = .ok (.iconst 0, 1) := by decide +kernel
theorem dX12_hush_26 : decode cX12_hush 26 = .ok (.ireturn, 1) := by decide +kernel
theorem dX12_hush_27 : decode cX12_hush 27 = .ok (.aload_n 0, 1) := by decide +kernel
theorem dX12_hush_28 : decode cX12_hush 28 = .ok (.iload_n 1, 1) := by decide +kernel
theorem dX12_hush_29 : decode cX12_hush 29 = .ok (.putfield 352, 3) := by decide +kernel
theorem dX12_hush_32 : decode cX12_hush 32 = .ok (.iconst 1, 1) := by decide +kernel
theorem dX12_hush_33 : decode cX12_hush 33 = .ok (.ireturn, 1) := by decide +kernel
def X12_hush (x1 : Int32) (h : Mm) : Option (Bool × Mm) := (bp (X12_isIn x1.toInt64 (0 : Int64) (9 : Int64) (wI h 251 0 (0))) (fun r3 => (if r3 = true then (if x1 = ((wI h 251 0 (0)).1 251 35) then (some (false, (wI h 251 0 (0)))) else (some (true, (wI (wI h 251 0 (0)) 251 35 x1)))) else (some (false, (wI h 251 0 (0)))))))
set_option maxRecDepth 100000 in
set_option maxHeartbeats 4000000 in
theorem s_X12_hush {X : WX} {o : Mm} {x1 : Int32} {rv : Bool} {hz : Mm} {h : Mm} (hF : X12_hush x1 h = some (rv, hz)) : Sat X yX12_hush cX12_hush 2 (some .boolean) 2 [.ref (xa X 251), .int x1] false o h (some (.int (b2i rv))) hz := by
  unfold X12_hush at hF
  refine Sat.mk (own := RX12) rfl (by decide +kernel) (Nat.le_of_ble_eq_true rfl) (fun G => ?_)
  refine V.sub (lv2 := [(0, _), (1, _)]) [0, 1] rfl ?_
  refine V.aload_n 0 dX12_hush_0 rfl rfl ?_
  refine V.iconst (v := 0) dX12_hush_1 rfl ?_
  refine V.putI fl_X12_93 rfl (tyX12_ok 0 (by decide)) rfl rfl sh_251 rfl km_251 dX12_hush_2 ?_
  refine V.iload_n 1 dX12_hush_5 rfl rfl ?_
  refine V.i2l dX12_hush_6 ?_
  refine V.lconst (v := 0) dX12_hush_7 rfl ?_
  refine V.ldc2 (v := 9) dX12_hush_8 kc_X12_350 ?_
  obtain ⟨r3, hc4, hF⟩ := bp_s hF
  refine V.callSi mf_X12_isIn ml_X12_214 (s_X12_isIn hc4) (by decide) rfl rfl (Nat.le_of_ble_eq_true rfl) dX12_hush_11 ?_
  refine V.ifz_eq (tgt := 25) dX12_hush_14 rfl (fun c => ?_) (fun c => ?_)
  · replace hF := (if_neg c).symm.trans hF
    refine V.iconst (v := 0) dX12_hush_25 rfl ?_
    cases hF
    exact V.bret dX12_hush_26
  · replace hF := (if_pos c).symm.trans hF
    refine V.iload_n 1 dX12_hush_17 rfl rfl ?_
    refine V.aload_n 0 dX12_hush_18 rfl rfl ?_
    refine V.getI fl_X12_352 sh_251 rfl km_251 dX12_hush_19 ?_
    refine V.icmp_ne (tgt := 27) dX12_hush_22 rfl (fun c => ?_) (fun c => ?_)
    · replace hF := (if_neg c).symm.trans hF
      refine V.aload_n 0 dX12_hush_27 rfl rfl ?_
      refine V.iload_n 1 dX12_hush_28 rfl rfl ?_
      refine V.putI fl_X12_352 rfl (tyX12_ok 35 (by decide)) rfl rfl sh_251 rfl km_251 dX12_hush_29 ?_
      refine V.iconst (v := 1) dX12_hush_32 rfl ?_
      cases hF
      exact V.bret dX12_hush_33
    · replace hF := (if_pos c).symm.trans hF
      refine V.iconst (v := 0) dX12_hush_25 rfl ?_
      cases hF
      exact V.bret dX12_hush_26
/-! MonsterCotModel.remember -/
theorem dX12_remember_0 : decode cX12_remember 0 = .ok (.aload_n 0, 1) := by decide +kernel
theorem dX12_remember_1 : decode cX12_remember 1 = .ok (.getfield 297, 3) := by decide +kernel
theorem dX12_remember_4 : decode cX12_remember 4 = .ok (.bipush 40, 2) := by decide +kernel
theorem dX12_remember_6 : decode cX12_remember 6 = .ok (.if_icmp .ne 44, 3) := by decide +kernel
theorem dX12_remember_9 : decode cX12_remember 9 = .ok (.iconst 0, 1) := by decide +kernel
theorem dX12_remember_10 : decode cX12_remember 10 = .ok (.istore_n 1, 1) := by decide +kernel
theorem dX12_remember_11 : decode cX12_remember 11 = .ok (.iload_n 1, 1) := by decide +kernel
theorem dX12_remember_12 : decode cX12_remember 12 = .ok (.sipush 8229, 3) := by decide +kernel
theorem dX12_remember_15 : decode cX12_remember 15 = .ok (.if_icmp .ge 25, 3) := by decide +kernel
theorem dX12_remember_18 : decode cX12_remember 18 = .ok (.aload_n 0, 1) := by decide +kernel
theorem dX12_remember_19 : decode cX12_remember 19 = .ok (.getfield 78, 3) := by decide +kernel
theorem dX12_remember_22 : decode cX12_remember 22 = .ok (.iload_n 1, 1) := by decide +kernel
theorem dX12_remember_23 : decode cX12_remember 23 = .ok (.aload_n 0, 1) := by decide +kernel
theorem dX12_remember_24 : decode cX12_remember 24 = .ok (.getfield 78, 3) := by decide +kernel
theorem dX12_remember_27 : decode cX12_remember 27 = .ok (.iload_n 1, 1) := by decide +kernel
theorem dX12_remember_28 : decode cX12_remember 28 = .ok (.sipush 211, 3) := by decide +kernel
theorem dX12_remember_31 : decode cX12_remember 31 = .ok (.iadd, 1) := by decide +kernel
theorem dX12_remember_32 : decode cX12_remember 32 = .ok (.iaload, 1) := by decide +kernel
theorem dX12_remember_33 : decode cX12_remember 33 = .ok (.iastore, 1) := by decide +kernel
theorem dX12_remember_34 : decode cX12_remember 34 = .ok (.iinc 1 1, 3) := by decide +kernel
theorem dX12_remember_37 : decode cX12_remember 37 = .ok (.goto (-26), 3) := by decide +kernel
theorem dX12_remember_40 : decode cX12_remember 40 = .ok (.aload_n 0, 1) := by decide +kernel
theorem dX12_remember_41 : decode cX12_remember 41 = .ok (.dup, 1) := by decide +kernel
theorem dX12_remember_42 : decode cX12_remember 42 = .ok (.getfield 297, 3) := by decide +kernel
theorem dX12_remember_45 : decode cX12_remember 45 = .ok (.iconst 1, 1) := by decide +kernel
theorem dX12_remember_46 : decode cX12_remember 46 = .ok (.isub, 1) := by decide +kernel
theorem dX12_remember_47 : decode cX12_remember 47 = .ok (.putfield 297, 3) := by decide +kernel
theorem dX12_remember_50 : decode cX12_remember 50 = .ok (.iconst 0, 1) := by decide +kernel
theorem dX12_remember_51 : decode cX12_remember 51 = .ok (.istore_n 1, 1) := by decide +kernel
theorem dX12_remember_52 : decode cX12_remember 52 = .ok (.iload_n 1, 1) := by decide +kernel
theorem dX12_remember_53 : decode cX12_remember 53 = .ok (.sipush 211, 3) := by decide +kernel
theorem dX12_remember_56 : decode cX12_remember 56 = .ok (.if_icmp .ge 30, 3) := by decide +kernel
theorem dX12_remember_59 : decode cX12_remember 59 = .ok (.aload_n 0, 1) := by decide +kernel
theorem dX12_remember_60 : decode cX12_remember 60 = .ok (.getfield 78, 3) := by decide +kernel
theorem dX12_remember_63 : decode cX12_remember 63 = .ok (.sipush 211, 3) := by decide +kernel
theorem dX12_remember_66 : decode cX12_remember 66 = .ok (.aload_n 0, 1) := by decide +kernel
theorem dX12_remember_67 : decode cX12_remember 67 = .ok (.getfield 297, 3) := by decide +kernel
theorem dX12_remember_70 : decode cX12_remember 70 = .ok (.imul, 1) := by decide +kernel
theorem dX12_remember_71 : decode cX12_remember 71 = .ok (.iload_n 1, 1) := by decide +kernel
theorem dX12_remember_72 : decode cX12_remember 72 = .ok (.iadd, 1) := by decide +kernel
theorem dX12_remember_73 : decode cX12_remember 73 = .ok (.aload_n 0, 1) := by decide +kernel
theorem dX12_remember_74 : decode cX12_remember 74 = .ok (.getfield 61, 3) := by decide +kernel
theorem dX12_remember_77 : decode cX12_remember 77 = .ok (.iload_n 1, 1) := by decide +kernel
theorem dX12_remember_78 : decode cX12_remember 78 = .ok (.iaload, 1) := by decide +kernel
theorem dX12_remember_79 : decode cX12_remember 79 = .ok (.iastore, 1) := by decide +kernel
theorem dX12_remember_80 : decode cX12_remember 80 = .ok (.iinc 1 1, 3) := by decide +kernel
theorem dX12_remember_83 : decode cX12_remember 83 = .ok (.goto (-31), 3) := by decide +kernel
theorem dX12_remember_86 : decode cX12_remember 86 = .ok (.aload_n 0, 1) := by decide +kernel
theorem dX12_remember_87 : decode cX12_remember 87 = .ok (.dup, 1) := by decide +kernel
theorem dX12_remember_88 : decode cX12_remember 88 = .ok (.getfield 297, 3) := by decide +kernel
theorem dX12_remember_91 : decode cX12_remember 91 = .ok (.iconst 1, 1) := by decide +kernel
theorem dX12_remember_92 : decode cX12_remember 92 = .ok (.iadd, 1) := by decide +kernel
theorem dX12_remember_93 : decode cX12_remember 93 = .ok (.putfield 297, 3) := by decide +kernel
theorem dX12_remember_96 : decode cX12_remember 96 = .ok (.return_, 1) := by decide +kernel
def X12_remember_52 (n : Nat) : Nat → Int32 → Mm → Option (Unit × Mm)
  | 0, _, _ => none
  | f + 1, x1, h => (if (211) ≤ x1 then (some ((), (wI h 251 39 ((h.1 251 39) + (1))))) else (if inB x1 (aln 264) then (if inB (((211) * (h.1 251 39)) + x1) (aln 268) then ((X12_remember_52 n f) (x1 + (1)) (wI h 268 (((211) * (h.1 251 39)) + x1).toNatClampNeg (h.1 264 x1.toNatClampNeg))) else none) else none))
set_option maxRecDepth 100000 in
set_option maxHeartbeats 4000000 in
theorem v_X12_remember_52 {X : WX} {G : GX} {o : Mm} {n : Nat} {rv : Unit} {hz : Mm} : ∀ (f : Nat) (x1 : Int32) (h : Mm), X12_remember_52 n f x1 h = some (rv, hz) → V X G RX12 cX12_remember 2 (none) 1 0 0 (QR X G false o none hz) false o 52 [(0, .ref (xa X 251)), (1, .int x1)] [] h := by
  intro f
  induction f with
  | zero => intro x1 h hF; exact nomatch (show (none : Option (Unit × Mm)) = some (rv, hz) from hF)
  | succ f ih =>
    intro x1 h hF
    unfold X12_remember_52 at hF
    refine V.iload_n 1 dX12_remember_52 rfl rfl ?_
    refine V.sipush (v := 211) dX12_remember_53 (by decide) ?_
    refine V.icmp_ge (tgt := 86) dX12_remember_56 rfl (fun c => ?_) (fun c => ?_)
    · replace hF := (if_pos c).symm.trans hF
      refine V.aload_n 0 dX12_remember_86 rfl rfl ?_
      refine V.dup dX12_remember_87 rfl ?_
      refine V.getI fl_X12_297 sh_251 rfl km_251 dX12_remember_88 ?_
      refine V.iconst (v := 1) dX12_remember_91 rfl ?_
      refine V.iadd dX12_remember_92 ?_
      refine V.putI fl_X12_297 rfl (tyX12_ok 39 (by decide)) rfl rfl sh_251 rfl km_251 dX12_remember_93 ?_
      cases hF
      exact V.vret dX12_remember_96
    · replace hF := (if_neg c).symm.trans hF
      refine V.aload_n 0 dX12_remember_59 rfl rfl ?_
      refine V.getR (v := 268) fl_X12_78 sh_251 rfl fx_251_38 (by decide) dX12_remember_60 ?_
      refine V.sipush (v := 211) dX12_remember_63 (by decide) ?_
      refine V.aload_n 0 dX12_remember_66 rfl rfl ?_
      refine V.getI fl_X12_297 sh_251 rfl km_251 dX12_remember_67 ?_
      refine V.imul dX12_remember_70 ?_
      refine V.iload_n 1 dX12_remember_71 rfl rfl ?_
      refine V.iadd dX12_remember_72 ?_
      refine V.aload_n 0 dX12_remember_73 rfl rfl ?_
      refine V.getR (v := 264) fl_X12_61 sh_251 rfl fx_251_32 (by decide) dX12_remember_74 ?_
      refine V.iload_n 1 dX12_remember_77 rfl rfl ?_
      obtain ⟨hk, hF⟩ := ck hF
      refine V.iald io_264 hk dX12_remember_78 ?_
      obtain ⟨hk, hF⟩ := ck hF
      refine V.iast io_268 hk dX12_remember_79 ?_
      refine V.iinc (v := (x1 + (1))) 1 [(1, _), (0, _)] dX12_remember_80 rfl rfl (by decide) rfl ?_
      refine V.goto (tgt := 52) dX12_remember_83 rfl ?_
      exact V.sub [1, 0] rfl (ih _ _ hF)
def X12_remember_50 (n : Nat) (h : Mm) : Option (Unit × Mm) := (X12_remember_52 n n (0) h)
set_option maxRecDepth 100000 in
set_option maxHeartbeats 4000000 in
theorem v_X12_remember_50 {X : WX} {G : GX} {o : Mm} {n : Nat} {rv : Unit} {hz : Mm} {h : Mm} (hF : X12_remember_50 n h = some (rv, hz)) : V X G RX12 cX12_remember 2 (none) 1 0 0 (QR X G false o none hz) false o 50 [(0, .ref (xa X 251))] [] h := by
  unfold X12_remember_50 at hF
  refine V.iconst (v := 0) dX12_remember_50 rfl ?_
  refine V.istore_n [(1, _), (0, _)] dX12_remember_51 rfl (by decide) rfl ?_
  exact V.sub [1, 0] rfl (v_X12_remember_52 n _ _ hF)
def X12_remember_11 (n : Nat) : Nat → Int32 → Mm → Option (Unit × Mm)
  | 0, _, _ => none
  | f + 1, x1, h => (if (8229) ≤ x1 then (X12_remember_50 n (wI h 251 39 ((h.1 251 39) - (1)))) else (if inB (x1 + (211)) (aln 268) then (if inB x1 (aln 268) then ((X12_remember_11 n f) (x1 + (1)) (wI h 268 x1.toNatClampNeg (h.1 268 (x1 + (211)).toNatClampNeg))) else none) else none))
set_option maxRecDepth 100000 in
set_option maxHeartbeats 4000000 in
theorem v_X12_remember_11 {X : WX} {G : GX} {o : Mm} {n : Nat} {rv : Unit} {hz : Mm} : ∀ (f : Nat) (x1 : Int32) (h : Mm), X12_remember_11 n f x1 h = some (rv, hz) → V X G RX12 cX12_remember 2 (none) 1 0 0 (QR X G false o none hz) false o 11 [(0, .ref (xa X 251)), (1, .int x1)] [] h := by
  intro f
  induction f with
  | zero => intro x1 h hF; exact nomatch (show (none : Option (Unit × Mm)) = some (rv, hz) from hF)
  | succ f ih =>
    intro x1 h hF
    unfold X12_remember_11 at hF
    refine V.iload_n 1 dX12_remember_11 rfl rfl ?_
    refine V.sipush (v := 8229) dX12_remember_12 (by decide) ?_
    refine V.icmp_ge (tgt := 40) dX12_remember_15 rfl (fun c => ?_) (fun c => ?_)
    · replace hF := (if_pos c).symm.trans hF
      refine V.aload_n 0 dX12_remember_40 rfl rfl ?_
      refine V.dup dX12_remember_41 rfl ?_
      refine V.getI fl_X12_297 sh_251 rfl km_251 dX12_remember_42 ?_
      refine V.iconst (v := 1) dX12_remember_45 rfl ?_
      refine V.isub dX12_remember_46 ?_
      refine V.putI fl_X12_297 rfl (tyX12_ok 39 (by decide)) rfl rfl sh_251 rfl km_251 dX12_remember_47 ?_
      exact V.sub [0] rfl (v_X12_remember_50 hF)
    · replace hF := (if_neg c).symm.trans hF
      refine V.aload_n 0 dX12_remember_18 rfl rfl ?_
      refine V.getR (v := 268) fl_X12_78 sh_251 rfl fx_251_38 (by decide) dX12_remember_19 ?_
      refine V.iload_n 1 dX12_remember_22 rfl rfl ?_
      refine V.aload_n 0 dX12_remember_23 rfl rfl ?_
      refine V.getR (v := 268) fl_X12_78 sh_251 rfl fx_251_38 (by decide) dX12_remember_24 ?_
      refine V.iload_n 1 dX12_remember_27 rfl rfl ?_
      refine V.sipush (v := 211) dX12_remember_28 (by decide) ?_
      refine V.iadd dX12_remember_31 ?_
      obtain ⟨hk, hF⟩ := ck hF
      refine V.iald io_268 hk dX12_remember_32 ?_
      obtain ⟨hk, hF⟩ := ck hF
      refine V.iast io_268 hk dX12_remember_33 ?_
      refine V.iinc (v := (x1 + (1))) 1 [(1, _), (0, _)] dX12_remember_34 rfl rfl (by decide) rfl ?_
      refine V.goto (tgt := 11) dX12_remember_37 rfl ?_
      exact V.sub [1, 0] rfl (ih _ _ hF)
def X12_remember (n : Nat) (h : Mm) : Option (Unit × Mm) := (if (h.1 251 39) = (40) then (X12_remember_11 n n (0) h) else (X12_remember_50 n h))
set_option maxRecDepth 100000 in
set_option maxHeartbeats 4000000 in
theorem s_X12_remember {X : WX} {o : Mm} {n : Nat} {rv : Unit} {hz : Mm} {h : Mm} (hF : X12_remember n h = some (rv, hz)) : Sat X yX12_remember cX12_remember 2 (none) 1 [.ref (xa X 251)] false o h none hz := by
  unfold X12_remember at hF
  refine Sat.mk (own := RX12) rfl (by decide +kernel) (Nat.le_of_ble_eq_true rfl) (fun G => ?_)
  refine V.sub (lv2 := [(0, _)]) [0] rfl ?_
  refine V.aload_n 0 dX12_remember_0 rfl rfl ?_
  refine V.getI fl_X12_297 sh_251 rfl km_251 dX12_remember_1 ?_
  refine V.bipush (v := 40) dX12_remember_4 (by decide) ?_
  refine V.icmp_ne (tgt := 50) dX12_remember_6 rfl (fun c => ?_) (fun c => ?_)
  · replace hF := (if_neg c).symm.trans hF
    exact (v_X12_remember_50 hF)
  · replace hF := (if_pos c).symm.trans hF
    refine V.iconst (v := 0) dX12_remember_9 rfl ?_
    refine V.istore_n [(1, _), (0, _)] dX12_remember_10 rfl (by decide) rfl ?_
    exact V.sub [1, 0] rfl (v_X12_remember_11 n _ _ hF)
/-! MonsterCotModel.mayRead -/
theorem dX12_mayRead_0 : decode cX12_mayRead 0 = .ok (.aload_n 0, 1) := by decide +kernel
theorem dX12_mayRead_1 : decode cX12_mayRead 1 = .ok (.aload_n 1, 1) := by decide +kernel
theorem dX12_mayRead_2 : decode cX12_mayRead 2 = .ok (.iload_n 2, 1) := by decide +kernel
theorem dX12_mayRead_3 : decode cX12_mayRead 3 = .ok (.iload_n 3, 1) := by decide +kernel
theorem dX12_mayRead_4 : decode cX12_mayRead 4 = .ok (.iload 4, 2) := by decide +kernel
theorem dX12_mayRead_6 : decode cX12_mayRead 6 = .ok (.invokevirtual 355, 3) := by decide +kernel
theorem dX12_mayRead_9 : decode cX12_mayRead 9 = .ok (.ifCond .eq 18, 3) := by decide +kernel
theorem dX12_mayRead_12 : decode cX12_mayRead 12 = .ok (.aload_n 1, 1) := by decide +kernel
theorem dX12_mayRead_13 : decode cX12_mayRead 13 = .ok (.bipush 24, 2) := by decide +kernel
theorem dX12_mayRead_15 : decode cX12_mayRead 15 = .ok (.iaload, 1) := by decide +kernel
theorem dX12_mayRead_16 : decode cX12_mayRead 16 = .ok (.iload_n 2, 1) := by decide +kernel
theorem dX12_mayRead_17 : decode cX12_mayRead 17 = .ok (.invokestatic 226, 3) := by decide +kernel
theorem dX12_mayRead_20 : decode cX12_mayRead 20 = .ok (.ifCond .ne 7, 3) := by decide +kernel
theorem dX12_mayRead_23 : decode cX12_mayRead 23 = .ok (.iconst 1, 1) := by decide +kernel
theorem dX12_mayRead_24 : decode cX12_mayRead 24 = .ok (.goto 4, 3) := by decide +kernel
theorem dX12_mayRead_27 : decode cX12_mayRead 27 = .ok (.iconst 0, 1) := by decide +kernel
theorem dX12_mayRead_28 : decode cX12_mayRead 28 = .ok (.ireturn, 1) := by decide +kernel
def X12_mayRead (a1 : Nat) (x2 : Int32) (x3 : Int32) (x4 : Bool) (h : Mm) : Option Bool := (bp (X12_canRead a1 x2 x3 x4 h) (fun r5 => (if r5 = true then (if inB (24) (aln a1) then (bp (X12_has (h.1 a1 (24).toNatClampNeg) x2 h) (fun r7 => (if r7 = true then (some false) else (some true)))) else none) else (some false))))
set_option maxRecDepth 100000 in
set_option maxHeartbeats 4000000 in
theorem s_X12_mayRead {X : WX} {o : Mm} {a1 : Nat} {x2 : Int32} {x3 : Int32} {x4 : Bool} {rv : Bool} {h : Mm} (ha1 : isO false 0 a1) (hF : X12_mayRead a1 x2 x3 x4 h = some rv) : Sat X yX12_mayRead cX12_mayRead 5 (some .boolean) 3 [.ref (xa X 251), .ref (xa X a1), .int x2, .int x3, .int (b2i x4)] false o h (some (.int (b2i rv))) h := by
  unfold X12_mayRead at hF
  refine Sat.mk (own := RX12) rfl (by decide +kernel) (Nat.le_of_ble_eq_true rfl) (fun G => ?_)
  refine V.sub (lv2 := [(0, _), (1, _), (2, _), (3, _), (4, _)]) [0, 1, 2, 3, 4] rfl ?_
  refine V.aload_n 0 dX12_mayRead_0 rfl rfl ?_
  refine V.aload_n 1 dX12_mayRead_1 rfl rfl ?_
  refine V.iload_n 2 dX12_mayRead_2 rfl rfl ?_
  refine V.iload_n 3 dX12_mayRead_3 rfl rfl ?_
  refine V.iload 4 dX12_mayRead_4 rfl ?_
  obtain ⟨r5, hc6, hF⟩ := bp_s hF
  refine V.callVi mf_X12_canRead ml_X12_355 sh_251 (s_X12_canRead ha1 hc6) (by decide) rfl rfl (Nat.le_of_ble_eq_true rfl) dX12_mayRead_6 ?_
  refine V.ifz_eq (tgt := 27) dX12_mayRead_9 rfl (fun c => ?_) (fun c => ?_)
  · replace hF := (if_neg c).symm.trans hF
    refine V.iconst (v := 0) dX12_mayRead_27 rfl ?_
    cases hF
    exact V.bret dX12_mayRead_28
  · replace hF := (if_pos c).symm.trans hF
    refine V.aload_n 1 dX12_mayRead_12 rfl rfl ?_
    refine V.bipush (v := 24) dX12_mayRead_13 (by decide) ?_
    obtain ⟨hk, hF⟩ := ck hF
    refine V.iald ha1 hk dX12_mayRead_15 ?_
    refine V.iload_n 2 dX12_mayRead_16 rfl rfl ?_
    obtain ⟨r7, hc8, hF⟩ := bp_s hF
    refine V.callSi mf_X12_has ml_X12_226 (s_X12_has hc8) (by decide) rfl rfl (Nat.le_of_ble_eq_true rfl) dX12_mayRead_17 ?_
    refine V.ifz_ne (tgt := 27) dX12_mayRead_20 rfl (fun c => ?_) (fun c => ?_)
    · replace hF := (if_pos c).symm.trans hF
      refine V.iconst (v := 0) dX12_mayRead_27 rfl ?_
      cases hF
      exact V.bret dX12_mayRead_28
    · replace hF := (if_neg c).symm.trans hF
      refine V.iconst (v := 1) dX12_mayRead_23 rfl ?_
      refine V.goto (tgt := 28) dX12_mayRead_24 rfl ?_
      cases hF
      exact V.bret dX12_mayRead_28
/-! MonsterCotModel.read -/
theorem dX12_read_0 : decode cX12_read 0 = .ok (.aload_n 0, 1) := by decide +kernel
theorem dX12_read_1 : decode cX12_read 1 = .ok (.iconst 0, 1) := by decide +kernel
theorem dX12_read_2 : decode cX12_read 2 = .ok (.putfield 93, 3) := by decide +kernel
theorem dX12_read_5 : decode cX12_read 5 = .ok (.aload_n 0, 1) := by decide +kernel
theorem dX12_read_6 : decode cX12_read 6 = .ok (.getfield 291, 3) := by decide +kernel
theorem dX12_read_9 : decode cX12_read 9 = .ok (.ifCond .eq 17, 3) := by decide +kernel
theorem dX12_read_12 : decode cX12_read 12 = .ok (.aload_n 0, 1) := by decide +kernel
theorem dX12_read_13 : decode cX12_read 13 = .ok (.aload_n 0, 1) := by decide +kernel
theorem dX12_read_14 : decode cX12_read 14 = .ok (.getfield 61, 3) := by decide +kernel
theorem dX12_read_17 : decode cX12_read 17 = .ok (.iload_n 1, 1) := by decide +kernel
theorem dX12_read_18 : decode cX12_read 18 = .ok (.iload_n 2, 1) := by decide +kernel
theorem dX12_read_19 : decode cX12_read 19 = .ok (.iload_n 3, 1) := by decide +kernel
theorem dX12_read_20 : decode cX12_read 20 = .ok (.invokevirtual 359, 3) := by decide +kernel
theorem dX12_read_23 : decode cX12_read 23 = .ok (.ifCond .ne 5, 3) := by decide +kernel
theorem dX12_read_26 : decode cX12_read 26 = .ok (.iconst (-1), 1) := by decide +kernel
theorem dX12_read_27 : decode cX12_read 27 = .ok (.ireturn, 1) := by decide +kernel
theorem dX12_read_28 : decode cX12_read 28 = .ok (.aload_n 0, 1) := by decide +kernel
theorem dX12_read_29 : decode cX12_read 29 = .ok (.invokevirtual 362, 3) := by decide +kernel
theorem dX12_read_32 : decode cX12_read 32 = .ok (.aload_n 0, 1) := by decide +kernel
theorem dX12_read_33 : decode cX12_read 33 = .ok (.aload_n 0, 1) := by decide +kernel
theorem dX12_read_34 : decode cX12_read 34 = .ok (.getfield 61, 3) := by decide +kernel
theorem dX12_read_37 : decode cX12_read 37 = .ok (.iload_n 1, 1) := by decide +kernel
theorem dX12_read_38 : decode cX12_read 38 = .ok (.iload_n 2, 1) := by decide +kernel
theorem dX12_read_39 : decode cX12_read 39 = .ok (.iload_n 3, 1) := by decide +kernel
theorem dX12_read_40 : decode cX12_read 40 = .ok (.invokevirtual 365, 3) := by decide +kernel
theorem dX12_read_43 : decode cX12_read 43 = .ok (.aload_n 0, 1) := by decide +kernel
theorem dX12_read_44 : decode cX12_read 44 = .ok (.getfield 61, 3) := by decide +kernel
theorem dX12_read_47 : decode cX12_read 47 = .ok (.bipush 22, 2) := by decide +kernel
theorem dX12_read_49 : decode cX12_read 49 = .ok (.iaload, 1) := by decide +kernel
theorem dX12_read_50 : decode cX12_read 50 = .ok (.ireturn, 1) := by decide +kernel
def X12_read (n : Nat) (x1 : Int32) (x2 : Int32) (x3 : Bool) (h : Mm) : Option (Int32 × Mm) := (if ((wI h 251 0 (0)).1 251 27) = 0 then (some ((-1), (wI h 251 0 (0)))) else (bp (X12_mayRead 264 x1 x2 x3 (wI h 251 0 (0))) (fun r9 => (if r9 = true then (bd (X12_remember n (wI h 251 0 (0))) (fun _ h13 => (bd (X12_reads n 264 x1 x2 x3 h13) (fun _ h16 => (if inB (22) (aln 264) then (some ((h16.1 264 (22).toNatClampNeg), h16)) else none))))) else (some ((-1), (wI h 251 0 (0))))))))
set_option maxRecDepth 100000 in
set_option maxHeartbeats 4000000 in
theorem s_X12_read {X : WX} {o : Mm} {n : Nat} {x1 : Int32} {x2 : Int32} {x3 : Bool} {rv : Int32} {hz : Mm} {h : Mm} (hF : X12_read n x1 x2 x3 h = some (rv, hz)) : Sat X yX12_read cX12_read 4 (some .int) 92 [.ref (xa X 251), .int x1, .int x2, .int (b2i x3)] false o h (some (.int rv)) hz := by
  unfold X12_read at hF
  refine Sat.mk (own := RX12) rfl (by decide +kernel) (Nat.le_of_ble_eq_true rfl) (fun G => ?_)
  refine V.sub (lv2 := [(0, _), (1, _), (2, _), (3, _)]) [0, 1, 2, 3] rfl ?_
  refine V.aload_n 0 dX12_read_0 rfl rfl ?_
  refine V.iconst (v := 0) dX12_read_1 rfl ?_
  refine V.putI fl_X12_93 rfl (tyX12_ok 0 (by decide)) rfl rfl sh_251 rfl km_251 dX12_read_2 ?_
  refine V.aload_n 0 dX12_read_5 rfl rfl ?_
  refine V.getI fl_X12_291 sh_251 rfl km_251 dX12_read_6 ?_
  refine V.if_eq (tgt := 26) dX12_read_9 rfl (fun c => ?_) (fun c => ?_)
  · replace hF := (if_pos c).symm.trans hF
    refine V.iconst (v := -1) dX12_read_26 rfl ?_
    cases hF
    exact V.iret dX12_read_27
  · replace hF := (if_neg c).symm.trans hF
    refine V.aload_n 0 dX12_read_12 rfl rfl ?_
    refine V.aload_n 0 dX12_read_13 rfl rfl ?_
    refine V.getR (v := 264) fl_X12_61 sh_251 rfl fx_251_32 (by decide) dX12_read_14 ?_
    refine V.iload_n 1 dX12_read_17 rfl rfl ?_
    refine V.iload_n 2 dX12_read_18 rfl rfl ?_
    refine V.iload_n 3 dX12_read_19 rfl rfl ?_
    obtain ⟨r9, hc10, hF⟩ := bp_s hF
    refine V.callVi mf_X12_mayRead ml_X12_359 sh_251 (s_X12_mayRead io_264 hc10) (by decide) rfl rfl (Nat.le_of_ble_eq_true rfl) dX12_read_20 ?_
    refine V.ifz_ne (tgt := 28) dX12_read_23 rfl (fun c => ?_) (fun c => ?_)
    · replace hF := (if_pos c).symm.trans hF
      refine V.aload_n 0 dX12_read_28 rfl rfl ?_
      obtain ⟨r11, h13, hc12, hF⟩ := bd_s hF
      refine V.callVv mf_X12_remember ml_X12_362 sh_251 (s_X12_remember hc12) (by decide) rfl rfl (Nat.le_of_ble_eq_true rfl) dX12_read_29 ?_
      refine V.aload_n 0 dX12_read_32 rfl rfl ?_
      refine V.aload_n 0 dX12_read_33 rfl rfl ?_
      refine V.getR (v := 264) fl_X12_61 sh_251 rfl fx_251_32 (by decide) dX12_read_34 ?_
      refine V.iload_n 1 dX12_read_37 rfl rfl ?_
      refine V.iload_n 2 dX12_read_38 rfl rfl ?_
      refine V.iload_n 3 dX12_read_39 rfl rfl ?_
      obtain ⟨r14, h16, hc15, hF⟩ := bd_s hF
      refine V.callVv mf_X12_reads ml_X12_365 sh_251 (s_X12_reads io_264 hc15) (by decide) rfl rfl (Nat.le_of_ble_eq_true rfl) dX12_read_40 ?_
      refine V.aload_n 0 dX12_read_43 rfl rfl ?_
      refine V.getR (v := 264) fl_X12_61 sh_251 rfl fx_251_32 (by decide) dX12_read_44 ?_
      refine V.bipush (v := 22) dX12_read_47 (by decide) ?_
      obtain ⟨hk, hF⟩ := ck hF
      refine V.iald io_264 hk dX12_read_49 ?_
      cases hF
      exact V.iret dX12_read_50
    · replace hF := (if_neg c).symm.trans hF
      refine V.iconst (v := -1) dX12_read_26 rfl ?_
      cases hF
      exact V.iret dX12_read_27
/-! MonsterCotModel.milk -/
theorem dX12_milk_0 : decode cX12_milk 0 = .ok (.aload_n 0, 1) := by decide +kernel
theorem dX12_milk_1 : decode cX12_milk 1 = .ok (.iconst 0, 1) := by decide +kernel
theorem dX12_milk_2 : decode cX12_milk 2 = .ok (.putfield 93, 3) := by decide +kernel
theorem dX12_milk_5 : decode cX12_milk 5 = .ok (.aload_n 0, 1) := by decide +kernel
theorem dX12_milk_6 : decode cX12_milk 6 = .ok (.getfield 291, 3) := by decide +kernel
theorem dX12_milk_9 : decode cX12_milk 9 = .ok (.ifCond .eq 14, 3) := by decide +kernel
theorem dX12_milk_12 : decode cX12_milk 12 = .ok (.aload_n 0, 1) := by decide +kernel
theorem dX12_milk_13 : decode cX12_milk 13 = .ok (.getfield 61, 3) := by decide +kernel
theorem dX12_milk_16 : decode cX12_milk 16 = .ok (.bipush 25, 2) := by decide +kernel
theorem dX12_milk_18 : decode cX12_milk 18 = .ok (.iaload, 1) := by decide +kernel
theorem dX12_milk_19 : decode cX12_milk 19 = .ok (.iconst 1, 1) := by decide +kernel
theorem dX12_milk_20 : decode cX12_milk 20 = .ok (.if_icmp .ne 5, 3) := by decide +kernel
theorem dX12_milk_23 : decode cX12_milk 23 = .ok (.iconst (-1), 1) := by decide +kernel
theorem dX12_milk_24 : decode cX12_milk 24 = .ok (.ireturn, 1) := by decide +kernel
theorem dX12_milk_25 : decode cX12_milk 25 = .ok (.aload_n 0, 1) := by decide +kernel
theorem dX12_milk_26 : decode cX12_milk 26 = .ok (.invokevirtual 362, 3) := by decide +kernel
theorem dX12_milk_29 : decode cX12_milk 29 = .ok (.aload_n 0, 1) := by decide +kernel
theorem dX12_milk_30 : decode cX12_milk 30 = .ok (.getfield 61, 3) := by decide +kernel
theorem dX12_milk_33 : decode cX12_milk 33 = .ok (.invokestatic 369, 3) := by decide +kernel
theorem dX12_milk_36 : decode cX12_milk 36 = .ok (.aload_n 0, 1) := by decide +kernel
theorem dX12_milk_37 : decode cX12_milk 37 = .ok (.getfield 61, 3) := by decide +kernel
theorem dX12_milk_40 : decode cX12_milk 40 = .ok (.bipush 22, 2) := by decide +kernel
theorem dX12_milk_42 : decode cX12_milk 42 = .ok (.iaload, 1) := by decide +kernel
theorem dX12_milk_43 : decode cX12_milk 43 = .ok (.ireturn, 1) := by decide +kernel
def X12_milk (n : Nat) (h : Mm) : Option (Int32 × Mm) := (if ((wI h 251 0 (0)).1 251 27) = 0 then (some ((-1), (wI h 251 0 (0)))) else (if inB (25) (aln 264) then (if ((wI h 251 0 (0)).1 264 (25).toNatClampNeg) = (1) then (some ((-1), (wI h 251 0 (0)))) else (bd (X12_remember n (wI h 251 0 (0))) (fun _ h9 => (bd (X12_drinks 264 h9) (fun _ h12 => (if inB (22) (aln 264) then (some ((h12.1 264 (22).toNatClampNeg), h12)) else none)))))) else none))
set_option maxRecDepth 100000 in
set_option maxHeartbeats 4000000 in
theorem s_X12_milk {X : WX} {o : Mm} {n : Nat} {rv : Int32} {hz : Mm} {h : Mm} (hF : X12_milk n h = some (rv, hz)) : Sat X yX12_milk cX12_milk 1 (some .int) 4 [.ref (xa X 251)] false o h (some (.int rv)) hz := by
  unfold X12_milk at hF
  refine Sat.mk (own := RX12) rfl (by decide +kernel) (Nat.le_of_ble_eq_true rfl) (fun G => ?_)
  refine V.sub (lv2 := [(0, _)]) [0] rfl ?_
  refine V.aload_n 0 dX12_milk_0 rfl rfl ?_
  refine V.iconst (v := 0) dX12_milk_1 rfl ?_
  refine V.putI fl_X12_93 rfl (tyX12_ok 0 (by decide)) rfl rfl sh_251 rfl km_251 dX12_milk_2 ?_
  refine V.aload_n 0 dX12_milk_5 rfl rfl ?_
  refine V.getI fl_X12_291 sh_251 rfl km_251 dX12_milk_6 ?_
  refine V.if_eq (tgt := 23) dX12_milk_9 rfl (fun c => ?_) (fun c => ?_)
  · replace hF := (if_pos c).symm.trans hF
    refine V.iconst (v := -1) dX12_milk_23 rfl ?_
    cases hF
    exact V.iret dX12_milk_24
  · replace hF := (if_neg c).symm.trans hF
    refine V.aload_n 0 dX12_milk_12 rfl rfl ?_
    refine V.getR (v := 264) fl_X12_61 sh_251 rfl fx_251_32 (by decide) dX12_milk_13 ?_
    refine V.bipush (v := 25) dX12_milk_16 (by decide) ?_
    obtain ⟨hk, hF⟩ := ck hF
    refine V.iald io_264 hk dX12_milk_18 ?_
    refine V.iconst (v := 1) dX12_milk_19 rfl ?_
    refine V.icmp_ne (tgt := 25) dX12_milk_20 rfl (fun c => ?_) (fun c => ?_)
    · replace hF := (if_neg c).symm.trans hF
      refine V.aload_n 0 dX12_milk_25 rfl rfl ?_
      obtain ⟨r7, h9, hc8, hF⟩ := bd_s hF
      refine V.callVv mf_X12_remember ml_X12_362 sh_251 (s_X12_remember hc8) (by decide) rfl rfl (Nat.le_of_ble_eq_true rfl) dX12_milk_26 ?_
      refine V.aload_n 0 dX12_milk_29 rfl rfl ?_
      refine V.getR (v := 264) fl_X12_61 sh_251 rfl fx_251_32 (by decide) dX12_milk_30 ?_
      obtain ⟨r10, h12, hc11, hF⟩ := bd_s hF
      refine V.callSv mf_X12_drinks ml_X12_369 (s_X12_drinks io_264 hc11) (by decide) rfl rfl (Nat.le_of_ble_eq_true rfl) dX12_milk_33 ?_
      refine V.aload_n 0 dX12_milk_36 rfl rfl ?_
      refine V.getR (v := 264) fl_X12_61 sh_251 rfl fx_251_32 (by decide) dX12_milk_37 ?_
      refine V.bipush (v := 22) dX12_milk_40 (by decide) ?_
      obtain ⟨hk, hF⟩ := ck hF
      refine V.iald io_264 hk dX12_milk_42 ?_
      cases hF
      exact V.iret dX12_milk_43
    · replace hF := (if_pos c).symm.trans hF
      refine V.iconst (v := -1) dX12_milk_23 rfl ?_
      cases hF
      exact V.iret dX12_milk_24
/-! MonsterCotModel.goes -/
theorem dX12_goes_0 : decode cX12_goes 0 = .ok (.aload_n 0, 1) := by decide +kernel
theorem dX12_goes_1 : decode cX12_goes 1 = .ok (.iconst 0, 1) := by decide +kernel
theorem dX12_goes_2 : decode cX12_goes 2 = .ok (.putfield 93, 3) := by decide +kernel
theorem dX12_goes_5 : decode cX12_goes 5 = .ok (.aload_n 0, 1) := by decide +kernel
theorem dX12_goes_6 : decode cX12_goes 6 = .ok (.aload_n 0, 1) := by decide +kernel
theorem dX12_goes_7 : decode cX12_goes 7 = .ok (.getfield 61, 3) := by decide +kernel
theorem dX12_goes_10 : decode cX12_goes 10 = .ok (.iload_n 1, 1) := by decide +kernel
theorem dX12_goes_11 : decode cX12_goes 11 = .ok (.invokevirtual 373, 3) := by decide +kernel
theorem dX12_goes_14 : decode cX12_goes 14 = .ok (.ifCond .ne 5, 3) := by decide +kernel
theorem dX12_goes_17 : decode cX12_goes 17 = .ok (.iconst (-1), 1) := by decide +kernel
theorem dX12_goes_18 : decode cX12_goes 18 = .ok (.ireturn, 1) := by decide +kernel
theorem dX12_goes_19 : decode cX12_goes 19 = .ok (.aload_n 0, 1) := by decide +kernel
theorem dX12_goes_20 : decode cX12_goes 20 = .ok (.invokevirtual 362, 3) := by decide +kernel
theorem dX12_goes_23 : decode cX12_goes 23 = .ok (.aload_n 0, 1) := by decide +kernel
theorem dX12_goes_24 : decode cX12_goes 24 = .ok (.getfield 61, 3) := by decide +kernel
theorem dX12_goes_27 : decode cX12_goes 27 = .ok (.bipush 23, 2) := by decide +kernel
theorem dX12_goes_29 : decode cX12_goes 29 = .ok (.iload_n 1, 1) := by decide +kernel
theorem dX12_goes_30 : decode cX12_goes 30 = .ok (.iastore, 1) := by decide +kernel
theorem dX12_goes_31 : decode cX12_goes 31 = .ok (.aload_n 0, 1) := by decide +kernel
theorem dX12_goes_32 : decode cX12_goes 32 = .ok (.getfield 61, 3) := by decide +kernel
theorem dX12_goes_35 : decode cX12_goes 35 = .ok (.bipush 26, 2) := by decide +kernel
theorem dX12_goes_37 : decode cX12_goes 37 = .ok (.iconst 1, 1) := by decide +kernel
theorem dX12_goes_38 : decode cX12_goes 38 = .ok (.iastore, 1) := by decide +kernel
theorem dX12_goes_39 : decode cX12_goes 39 = .ok (.iload_n 1, 1) := by decide +kernel
theorem dX12_goes_40 : decode cX12_goes 40 = .ok (.ireturn, 1) := by decide +kernel
def X12_goes (n : Nat) (x1 : Int32) (h : Mm) : Option (Int32 × Mm) := (bp (X12_canGo 264 x1 (wI h 251 0 (0))) (fun r6 => (if r6 = true then (bd (X12_remember n (wI h 251 0 (0))) (fun _ h10 => (if inB (23) (aln 264) then (if inB (26) (aln 264) then (some (x1, (wI (wI h10 264 (23).toNatClampNeg x1) 264 (26).toNatClampNeg (1)))) else none) else none))) else (some ((-1), (wI h 251 0 (0)))))))
set_option maxRecDepth 100000 in
set_option maxHeartbeats 4000000 in
theorem s_X12_goes {X : WX} {o : Mm} {n : Nat} {x1 : Int32} {rv : Int32} {hz : Mm} {h : Mm} (hF : X12_goes n x1 h = some (rv, hz)) : Sat X yX12_goes cX12_goes 2 (some .int) 3 [.ref (xa X 251), .int x1] false o h (some (.int rv)) hz := by
  unfold X12_goes at hF
  refine Sat.mk (own := RX12) rfl (by decide +kernel) (Nat.le_of_ble_eq_true rfl) (fun G => ?_)
  refine V.sub (lv2 := [(0, _), (1, _)]) [0, 1] rfl ?_
  refine V.aload_n 0 dX12_goes_0 rfl rfl ?_
  refine V.iconst (v := 0) dX12_goes_1 rfl ?_
  refine V.putI fl_X12_93 rfl (tyX12_ok 0 (by decide)) rfl rfl sh_251 rfl km_251 dX12_goes_2 ?_
  refine V.aload_n 0 dX12_goes_5 rfl rfl ?_
  refine V.aload_n 0 dX12_goes_6 rfl rfl ?_
  refine V.getR (v := 264) fl_X12_61 sh_251 rfl fx_251_32 (by decide) dX12_goes_7 ?_
  refine V.iload_n 1 dX12_goes_10 rfl rfl ?_
  obtain ⟨r6, hc7, hF⟩ := bp_s hF
  refine V.callVi mf_X12_canGo ml_X12_373 sh_251 (s_X12_canGo io_264 hc7) (by decide) rfl rfl (Nat.le_of_ble_eq_true rfl) dX12_goes_11 ?_
  refine V.ifz_ne (tgt := 19) dX12_goes_14 rfl (fun c => ?_) (fun c => ?_)
  · replace hF := (if_pos c).symm.trans hF
    refine V.aload_n 0 dX12_goes_19 rfl rfl ?_
    obtain ⟨r8, h10, hc9, hF⟩ := bd_s hF
    refine V.callVv mf_X12_remember ml_X12_362 sh_251 (s_X12_remember hc9) (by decide) rfl rfl (Nat.le_of_ble_eq_true rfl) dX12_goes_20 ?_
    refine V.aload_n 0 dX12_goes_23 rfl rfl ?_
    refine V.getR (v := 264) fl_X12_61 sh_251 rfl fx_251_32 (by decide) dX12_goes_24 ?_
    refine V.bipush (v := 23) dX12_goes_27 (by decide) ?_
    refine V.iload_n 1 dX12_goes_29 rfl rfl ?_
    obtain ⟨hk, hF⟩ := ck hF
    refine V.iast io_264 hk dX12_goes_30 ?_
    refine V.aload_n 0 dX12_goes_31 rfl rfl ?_
    refine V.getR (v := 264) fl_X12_61 sh_251 rfl fx_251_32 (by decide) dX12_goes_32 ?_
    refine V.bipush (v := 26) dX12_goes_35 (by decide) ?_
    refine V.iconst (v := 1) dX12_goes_37 rfl ?_
    obtain ⟨hk, hF⟩ := ck hF
    refine V.iast io_264 hk dX12_goes_38 ?_
    refine V.iload_n 1 dX12_goes_39 rfl rfl ?_
    cases hF
    exact V.iret dX12_goes_40
  · replace hF := (if_neg c).symm.trans hF
    refine V.iconst (v := -1) dX12_goes_17 rfl ?_
    cases hF
    exact V.iret dX12_goes_18
/-! MonsterCotModel.voice -/
theorem dX12_voice_0 : decode cX12_voice 0 = .ok (.aload_n 0, 1) := by decide +kernel
theorem dX12_voice_1 : decode cX12_voice 1 = .ok (.iconst 0, 1) := by decide +kernel
theorem dX12_voice_2 : decode cX12_voice 2 = .ok (.putfield 93, 3) := by decide +kernel
theorem dX12_voice_5 : decode cX12_voice 5 = .ok (.aload_n 0, 1) := by decide +kernel
theorem dX12_voice_6 : decode cX12_voice 6 = .ok (.iload_n 1, 1) := by decide +kernel
theorem dX12_voice_7 : decode cX12_voice 7 = .ok (.invokevirtual 337, 3) := by decide +kernel
theorem dX12_voice_10 : decode cX12_voice 10 = .ok (.ifCond .eq 29, 3) := by decide +kernel
theorem dX12_voice_13 : decode cX12_voice 13 = .ok (.iload_n 2, 1) := by decide +kernel
theorem dX12_voice_14 : decode cX12_voice 14 = .ok (.i2l, 1) := by decide +kernel
theorem dX12_voice_15 : decode cX12_voice 15 = .ok (.lconst 0, 1) := by decide +kernel
theorem dX12_voice_16 : decode cX12_voice 16 = .ok (.ldc2_w 350, 3) := by decide +kernel
theorem dX12_voice_19 : decode cX12_voice 19 = .ok (.invokestatic 214, 3) := by decide +kernel
theorem dX12_voice_22 : decode cX12_voice 22 = .ok (.ifCond .eq 17, 3) := by decide +kernel
theorem dX12_voice_25 : decode cX12_voice 25 = .ok (.aload_n 0, 1) := by decide +kernel
theorem dX12_voice_26 : decode cX12_voice 26 = .ok (.getfield 61, 3) := by decide +kernel
theorem dX12_voice_29 : decode cX12_voice 29 = .ok (.iconst 3, 1) := by decide +kernel
theorem dX12_voice_30 : decode cX12_voice 30 = .ok (.iload_n 1, 1) := by decide +kernel
theorem dX12_voice_31 : decode cX12_voice 31 = .ok (.imul, 1) := by decide +kernel
theorem dX12_voice_32 : decode cX12_voice 32 = .ok (.iconst 1, 1) := by decide +kernel
theorem dX12_voice_33 : decode cX12_voice 33 = .ok (.iadd, 1) := by decide +kernel
theorem dX12_voice_34 : decode cX12_voice 34 = .ok (.iaload, 1) := by decide +kernel
theorem dX12_voice_35 : decode cX12_voice 35 = .ok (.iload_n 2, 1) := by decide +kernel
theorem dX12_voice_36 : decode cX12_voice 36 = .ok (.if_icmp .ne 5, 3) := by decide +kernel
theorem dX12_voice_39 : decode cX12_voice 39 = .ok (.iconst (-1), 1) := by decide +kernel
theorem dX12_voice_40 : decode cX12_voice 40 = .ok (.ireturn, 1) := by decide +kernel
theorem dX12_voice_41 : decode cX12_voice 41 = .ok (.aload_n 0, 1) := by decide +kernel
theorem dX12_voice_42 : decode cX12_voice 42 = .ok (.invokevirtual 362, 3) := by decide +kernel
theorem dX12_voice_45 : decode cX12_voice 45 = .ok (.aload_n 0, 1) := by decide +kernel
theorem dX12_voice_46 : decode cX12_voice 46 = .ok (.getfield 61, 3) := by decide +kernel
theorem dX12_voice_49 : decode cX12_voice 49 = .ok (.iconst 3, 1) := by decide +kernel
theorem dX12_voice_50 : decode cX12_voice 50 = .ok (.iload_n 1, 1) := by decide +kernel
theorem dX12_voice_51 : decode cX12_voice 51 = .ok (.imul, 1) := by decide +kernel
theorem dX12_voice_52 : decode cX12_voice 52 = .ok (.iconst 1, 1) := by decide +kernel
theorem dX12_voice_53 : decode cX12_voice 53 = .ok (.iadd, 1) := by decide +kernel
theorem dX12_voice_54 : decode cX12_voice 54 = .ok (.iaload, 1) := by decide +kernel
theorem dX12_voice_55 : decode cX12_voice 55 = .ok (.istore_n 3, 1) := by decide +kernel
theorem dX12_voice_56 : decode cX12_voice 56 = .ok (.aload_n 0, 1) := by decide +kernel
theorem dX12_voice_57 : decode cX12_voice 57 = .ok (.getfield 61, 3) := by decide +kernel
theorem dX12_voice_60 : decode cX12_voice 60 = .ok (.iconst 3, 1) := by decide +kernel
theorem dX12_voice_61 : decode cX12_voice 61 = .ok (.iload_n 1, 1) := by decide +kernel
theorem dX12_voice_62 : decode cX12_voice 62 = .ok (.imul, 1) := by decide +kernel
theorem dX12_voice_63 : decode cX12_voice 63 = .ok (.iconst 1, 1) := by decide +kernel
theorem dX12_voice_64 : decode cX12_voice 64 = .ok (.iadd, 1) := by decide +kernel
theorem dX12_voice_65 : decode cX12_voice 65 = .ok (.iload_n 2, 1) := by decide +kernel
theorem dX12_voice_66 : decode cX12_voice 66 = .ok (.iastore, 1) := by decide +kernel
theorem dX12_voice_67 : decode cX12_voice 67 = .ok (.iload_n 3, 1) := by decide +kernel
theorem dX12_voice_68 : decode cX12_voice 68 = .ok (.ireturn, 1) := by decide +kernel
def X12_voice (n : Nat) (x1 : Int32) (x2 : Int32) (h : Mm) : Option (Int32 × Mm) := (bp (X12_isHouse x1 (wI h 251 0 (0))) (fun r8 => (if r8 = true then (bp (X12_isIn x2.toInt64 (0 : Int64) (9 : Int64) (wI h 251 0 (0))) (fun r10 => (if r10 = true then (if inB (((3) * x1) + (1)) (aln 264) then (if ((wI h 251 0 (0)).1 264 (((3) * x1) + (1)).toNatClampNeg) = x2 then (some ((-1), (wI h 251 0 (0)))) else (bd (X12_remember n (wI h 251 0 (0))) (fun _ h14 => (if inB (((3) * x1) + (1)) (aln 264) then (if inB (((3) * x1) + (1)) (aln 264) then (some ((h14.1 264 (((3) * x1) + (1)).toNatClampNeg), (wI h14 264 (((3) * x1) + (1)).toNatClampNeg x2))) else none) else none)))) else none) else (some ((-1), (wI h 251 0 (0))))))) else (some ((-1), (wI h 251 0 (0)))))))
set_option maxRecDepth 100000 in
set_option maxHeartbeats 4000000 in
theorem s_X12_voice {X : WX} {o : Mm} {n : Nat} {x1 : Int32} {x2 : Int32} {rv : Int32} {hz : Mm} {h : Mm} (hF : X12_voice n x1 x2 h = some (rv, hz)) : Sat X yX12_voice cX12_voice 4 (some .int) 2 [.ref (xa X 251), .int x1, .int x2] false o h (some (.int rv)) hz := by
  unfold X12_voice at hF
  refine Sat.mk (own := RX12) rfl (by decide +kernel) (Nat.le_of_ble_eq_true rfl) (fun G => ?_)
  refine V.sub (lv2 := [(0, _), (1, _), (2, _)]) [0, 1, 2] rfl ?_
  refine V.aload_n 0 dX12_voice_0 rfl rfl ?_
  refine V.iconst (v := 0) dX12_voice_1 rfl ?_
  refine V.putI fl_X12_93 rfl (tyX12_ok 0 (by decide)) rfl rfl sh_251 rfl km_251 dX12_voice_2 ?_
  refine V.aload_n 0 dX12_voice_5 rfl rfl ?_
  refine V.iload_n 1 dX12_voice_6 rfl rfl ?_
  obtain ⟨r8, hc9, hF⟩ := bp_s hF
  refine V.callVi mf_X12_isHouse ml_X12_337 sh_251 (s_X12_isHouse hc9) (by decide) rfl rfl (Nat.le_of_ble_eq_true rfl) dX12_voice_7 ?_
  refine V.ifz_eq (tgt := 39) dX12_voice_10 rfl (fun c => ?_) (fun c => ?_)
  · replace hF := (if_neg c).symm.trans hF
    refine V.iconst (v := -1) dX12_voice_39 rfl ?_
    cases hF
    exact V.iret dX12_voice_40
  · replace hF := (if_pos c).symm.trans hF
    refine V.iload_n 2 dX12_voice_13 rfl rfl ?_
    refine V.i2l dX12_voice_14 ?_
    refine V.lconst (v := 0) dX12_voice_15 rfl ?_
    refine V.ldc2 (v := 9) dX12_voice_16 kc_X12_350 ?_
    obtain ⟨r10, hc11, hF⟩ := bp_s hF
    refine V.callSi mf_X12_isIn ml_X12_214 (s_X12_isIn hc11) (by decide) rfl rfl (Nat.le_of_ble_eq_true rfl) dX12_voice_19 ?_
    refine V.ifz_eq (tgt := 39) dX12_voice_22 rfl (fun c => ?_) (fun c => ?_)
    · replace hF := (if_neg c).symm.trans hF
      refine V.iconst (v := -1) dX12_voice_39 rfl ?_
      cases hF
      exact V.iret dX12_voice_40
    · replace hF := (if_pos c).symm.trans hF
      refine V.aload_n 0 dX12_voice_25 rfl rfl ?_
      refine V.getR (v := 264) fl_X12_61 sh_251 rfl fx_251_32 (by decide) dX12_voice_26 ?_
      refine V.iconst (v := 3) dX12_voice_29 rfl ?_
      refine V.iload_n 1 dX12_voice_30 rfl rfl ?_
      refine V.imul dX12_voice_31 ?_
      refine V.iconst (v := 1) dX12_voice_32 rfl ?_
      refine V.iadd dX12_voice_33 ?_
      obtain ⟨hk, hF⟩ := ck hF
      refine V.iald io_264 hk dX12_voice_34 ?_
      refine V.iload_n 2 dX12_voice_35 rfl rfl ?_
      refine V.icmp_ne (tgt := 41) dX12_voice_36 rfl (fun c => ?_) (fun c => ?_)
      · replace hF := (if_neg c).symm.trans hF
        refine V.aload_n 0 dX12_voice_41 rfl rfl ?_
        obtain ⟨r12, h14, hc13, hF⟩ := bd_s hF
        refine V.callVv mf_X12_remember ml_X12_362 sh_251 (s_X12_remember hc13) (by decide) rfl rfl (Nat.le_of_ble_eq_true rfl) dX12_voice_42 ?_
        refine V.aload_n 0 dX12_voice_45 rfl rfl ?_
        refine V.getR (v := 264) fl_X12_61 sh_251 rfl fx_251_32 (by decide) dX12_voice_46 ?_
        refine V.iconst (v := 3) dX12_voice_49 rfl ?_
        refine V.iload_n 1 dX12_voice_50 rfl rfl ?_
        refine V.imul dX12_voice_51 ?_
        refine V.iconst (v := 1) dX12_voice_52 rfl ?_
        refine V.iadd dX12_voice_53 ?_
        obtain ⟨hk, hF⟩ := ck hF
        refine V.iald io_264 hk dX12_voice_54 ?_
        refine V.istore_n [(3, _), (0, _), (1, _), (2, _)] dX12_voice_55 rfl (by decide) rfl ?_
        refine V.aload_n 1 dX12_voice_56 rfl rfl ?_
        refine V.getR (v := 264) fl_X12_61 sh_251 rfl fx_251_32 (by decide) dX12_voice_57 ?_
        refine V.iconst (v := 3) dX12_voice_60 rfl ?_
        refine V.iload_n 2 dX12_voice_61 rfl rfl ?_
        refine V.imul dX12_voice_62 ?_
        refine V.iconst (v := 1) dX12_voice_63 rfl ?_
        refine V.iadd dX12_voice_64 ?_
        refine V.iload_n 3 dX12_voice_65 rfl rfl ?_
        obtain ⟨hk, hF⟩ := ck hF
        refine V.iast io_264 hk dX12_voice_66 ?_
        refine V.iload_n 0 dX12_voice_67 rfl rfl ?_
        cases hF
        exact V.iret dX12_voice_68
      · replace hF := (if_pos c).symm.trans hF
        refine V.iconst (v := -1) dX12_voice_39 rfl ?_
        cases hF
        exact V.iret dX12_voice_40
/-! MonsterCotModel.night -/
theorem dX12_night_0 : decode cX12_night 0 = .ok (.aload_n 0, 1) := by decide +kernel
theorem dX12_night_1 : decode cX12_night 1 = .ok (.iconst 0, 1) := by decide +kernel
theorem dX12_night_2 : decode cX12_night 2 = .ok (.putfield 93, 3) := by decide +kernel
theorem dX12_night_5 : decode cX12_night 5 = .ok (.aload_n 0, 1) := by decide +kernel
theorem dX12_night_6 : decode cX12_night 6 = .ok (.getfield 291, 3) := by decide +kernel
theorem dX12_night_9 : decode cX12_night 9 = .ok (.ifCond .eq 16, 3) := by decide +kernel
theorem dX12_night_12 : decode cX12_night 12 = .ok (.aload_n 0, 1) := by decide +kernel
theorem dX12_night_13 : decode cX12_night 13 = .ok (.getfield 61, 3) := by decide +kernel
theorem dX12_night_16 : decode cX12_night 16 = .ok (.bipush 29, 2) := by decide +kernel
theorem dX12_night_18 : decode cX12_night 18 = .ok (.iaload, 1) := by decide +kernel
theorem dX12_night_19 : decode cX12_night 19 = .ok (.sipush 9999, 3) := by decide +kernel
theorem dX12_night_22 : decode cX12_night 22 = .ok (.if_icmp .ne 5, 3) := by decide +kernel
theorem dX12_night_25 : decode cX12_night 25 = .ok (.iconst (-1), 1) := by decide +kernel
theorem dX12_night_26 : decode cX12_night 26 = .ok (.ireturn, 1) := by decide +kernel
theorem dX12_night_27 : decode cX12_night 27 = .ok (.aload_n 0, 1) := by decide +kernel
theorem dX12_night_28 : decode cX12_night 28 = .ok (.invokevirtual 362, 3) := by decide +kernel
theorem dX12_night_31 : decode cX12_night 31 = .ok (.aload_n 0, 1) := by decide +kernel
theorem dX12_night_32 : decode cX12_night 32 = .ok (.aload_n 0, 1) := by decide +kernel
theorem dX12_night_33 : decode cX12_night 33 = .ok (.getfield 61, 3) := by decide +kernel
theorem dX12_night_36 : decode cX12_night 36 = .ok (.invokevirtual 377, 3) := by decide +kernel
theorem dX12_night_39 : decode cX12_night 39 = .ok (.ireturn, 1) := by decide +kernel
def X12_night (n : Nat) (h : Mm) : Option (Int32 × Mm) := (if ((wI h 251 0 (0)).1 251 27) = 0 then (some ((-1), (wI h 251 0 (0)))) else (if inB (29) (aln 264) then (if ((wI h 251 0 (0)).1 264 (29).toNatClampNeg) = (9999) then (some ((-1), (wI h 251 0 (0)))) else (bd (X12_remember n (wI h 251 0 (0))) (fun _ h9 => (bd (X12_goNight n 264 h9) (fun r10 h12 => (some (r10, h12))))))) else none))
set_option maxRecDepth 100000 in
set_option maxHeartbeats 4000000 in
theorem s_X12_night {X : WX} {o : Mm} {n : Nat} {rv : Int32} {hz : Mm} {h : Mm} (hF : X12_night n h = some (rv, hz)) : Sat X yX12_night cX12_night 1 (some .int) 4 [.ref (xa X 251)] false o h (some (.int rv)) hz := by
  unfold X12_night at hF
  refine Sat.mk (own := RX12) rfl (by decide +kernel) (Nat.le_of_ble_eq_true rfl) (fun G => ?_)
  refine V.sub (lv2 := [(0, _)]) [0] rfl ?_
  refine V.aload_n 0 dX12_night_0 rfl rfl ?_
  refine V.iconst (v := 0) dX12_night_1 rfl ?_
  refine V.putI fl_X12_93 rfl (tyX12_ok 0 (by decide)) rfl rfl sh_251 rfl km_251 dX12_night_2 ?_
  refine V.aload_n 0 dX12_night_5 rfl rfl ?_
  refine V.getI fl_X12_291 sh_251 rfl km_251 dX12_night_6 ?_
  refine V.if_eq (tgt := 25) dX12_night_9 rfl (fun c => ?_) (fun c => ?_)
  · replace hF := (if_pos c).symm.trans hF
    refine V.iconst (v := -1) dX12_night_25 rfl ?_
    cases hF
    exact V.iret dX12_night_26
  · replace hF := (if_neg c).symm.trans hF
    refine V.aload_n 0 dX12_night_12 rfl rfl ?_
    refine V.getR (v := 264) fl_X12_61 sh_251 rfl fx_251_32 (by decide) dX12_night_13 ?_
    refine V.bipush (v := 29) dX12_night_16 (by decide) ?_
    obtain ⟨hk, hF⟩ := ck hF
    refine V.iald io_264 hk dX12_night_18 ?_
    refine V.sipush (v := 9999) dX12_night_19 (by decide) ?_
    refine V.icmp_ne (tgt := 27) dX12_night_22 rfl (fun c => ?_) (fun c => ?_)
    · replace hF := (if_neg c).symm.trans hF
      refine V.aload_n 0 dX12_night_27 rfl rfl ?_
      obtain ⟨r7, h9, hc8, hF⟩ := bd_s hF
      refine V.callVv mf_X12_remember ml_X12_362 sh_251 (s_X12_remember hc8) (by decide) rfl rfl (Nat.le_of_ble_eq_true rfl) dX12_night_28 ?_
      refine V.aload_n 0 dX12_night_31 rfl rfl ?_
      refine V.aload_n 0 dX12_night_32 rfl rfl ?_
      refine V.getR (v := 264) fl_X12_61 sh_251 rfl fx_251_32 (by decide) dX12_night_33 ?_
      obtain ⟨r10, h12, hc11, hF⟩ := bd_s hF
      refine V.callVi mf_X12_goNight ml_X12_377 sh_251 (s_X12_goNight io_264 hc11) (by decide) rfl rfl (Nat.le_of_ble_eq_true rfl) dX12_night_36 ?_
      cases hF
      exact V.iret dX12_night_39
    · replace hF := (if_pos c).symm.trans hF
      refine V.iconst (v := -1) dX12_night_25 rfl ?_
      cases hF
      exact V.iret dX12_night_26
/-! MonsterCotModel.draw -/
theorem dX12_draw_0 : decode cX12_draw 0 = .ok (.aload_n 0, 1) := by decide +kernel
theorem dX12_draw_1 : decode cX12_draw 1 = .ok (.aload_n 0, 1) := by decide +kernel
theorem dX12_draw_2 : decode cX12_draw 2 = .ok (.getfield 381, 3) := by decide +kernel
theorem dX12_draw_5 : decode cX12_draw 5 = .ok (.ldc2_w 385, 3) := by decide +kernel
theorem dX12_draw_8 : decode cX12_draw 8 = .ok (.lmul, 1) := by decide +kernel
theorem dX12_draw_9 : decode cX12_draw 9 = .ok (.ldc2_w 387, 3) := by decide +kernel
theorem dX12_draw_12 : decode cX12_draw 12 = .ok (.ladd, 1) := by decide +kernel
theorem dX12_draw_13 : decode cX12_draw 13 = .ok (.putfield 381, 3) := by decide +kernel
theorem dX12_draw_16 : decode cX12_draw 16 = .ok (.aload_n 0, 1) := by decide +kernel
theorem dX12_draw_17 : decode cX12_draw 17 = .ok (.getfield 381, 3) := by decide +kernel
theorem dX12_draw_20 : decode cX12_draw 20 = .ok (.bipush 33, 2) := by decide +kernel
theorem dX12_draw_22 : decode cX12_draw 22 = .ok (.lushr, 1) := by decide +kernel
theorem dX12_draw_23 : decode cX12_draw 23 = .ok (.iload_n 1, 1) := by decide +kernel
theorem dX12_draw_24 : decode cX12_draw 24 = .ok (.i2l, 1) := by decide +kernel
theorem dX12_draw_25 : decode cX12_draw 25 = .ok (.lrem, 1) := by decide +kernel
theorem dX12_draw_26 : decode cX12_draw 26 = .ok (.l2i, 1) := by decide +kernel
theorem dX12_draw_27 : decode cX12_draw 27 = .ok (.ireturn, 1) := by decide +kernel
def X12_draw (x1 : Int32) (h : Mm) : Option (Int32 × Mm) := (if ¬ x1.toInt64 = 0 then (some ((((((wL h 251 40 (((h.2 251 40) * (6364136223846793005 : Int64)) + (1442695040888963407 : Int64))).2 251 40).toUInt64 >>> ((33).toInt64.toUInt64 &&& Int64.toUInt64 63)).toInt64) - ((((wL h 251 40 (((h.2 251 40) * (6364136223846793005 : Int64)) + (1442695040888963407 : Int64))).2 251 40).toUInt64 >>> ((33).toInt64.toUInt64 &&& Int64.toUInt64 63)).toInt64) / x1.toInt64 * x1.toInt64).toInt32, (wL h 251 40 (((h.2 251 40) * (6364136223846793005 : Int64)) + (1442695040888963407 : Int64))))) else none)
set_option maxRecDepth 100000 in
set_option maxHeartbeats 4000000 in
theorem s_X12_draw {X : WX} {o : Mm} {x1 : Int32} {rv : Int32} {hz : Mm} {h : Mm} (hF : X12_draw x1 h = some (rv, hz)) : Sat X yX12_draw cX12_draw 2 (some .int) 1 [.ref (xa X 251), .int x1] false o h (some (.int rv)) hz := by
  unfold X12_draw at hF
  refine Sat.mk (own := RX12) rfl (by decide +kernel) (Nat.le_of_ble_eq_true rfl) (fun G => ?_)
  refine V.sub (lv2 := [(0, _), (1, _)]) [0, 1] rfl ?_
  refine V.aload_n 0 dX12_draw_0 rfl rfl ?_
  refine V.aload_n 0 dX12_draw_1 rfl rfl ?_
  refine V.getJ fl_X12_381 sh_251 rfl km_251 dX12_draw_2 ?_
  refine V.ldc2 (v := 6364136223846793005) dX12_draw_5 kc_X12_385 ?_
  refine V.lmul dX12_draw_8 ?_
  refine V.ldc2 (v := 1442695040888963407) dX12_draw_9 kc_X12_387 ?_
  refine V.ladd dX12_draw_12 ?_
  refine V.putJ fl_X12_381 rfl (tyX12_ok 40 (by decide)) sh_251 rfl km_251 dX12_draw_13 ?_
  refine V.aload_n 0 dX12_draw_16 rfl rfl ?_
  refine V.getJ fl_X12_381 sh_251 rfl km_251 dX12_draw_17 ?_
  refine V.bipush (v := 33) dX12_draw_20 (by decide) ?_
  refine V.lushr dX12_draw_22 ?_
  refine V.iload_n 1 dX12_draw_23 rfl rfl ?_
  refine V.i2l dX12_draw_24 ?_
  obtain ⟨hk, hF⟩ := ck hF
  refine V.lrem dX12_draw_25 hk ?_
  refine V.l2i dX12_draw_26 ?_
  cases hF
  exact V.iret dX12_draw_27
/-! MonsterCotModel.drawsReading -/
theorem dX12_drawsReading_0 : decode cX12_drawsReading 0 = .ok (.aload_n 0, 1) := by decide +kernel
theorem dX12_drawsReading_1 : decode cX12_drawsReading 1 = .ok (.aload_n 0, 1) := by decide +kernel
theorem dX12_drawsReading_2 : decode cX12_drawsReading 2 = .ok (.getfield 288, 3) := by decide +kernel
theorem dX12_drawsReading_5 : decode cX12_drawsReading 5 = .ok (.invokevirtual 389, 3) := by decide +kernel
theorem dX12_drawsReading_8 : decode cX12_drawsReading 8 = .ok (.istore_n 1, 1) := by decide +kernel
theorem dX12_drawsReading_9 : decode cX12_drawsReading 9 = .ok (.aload_n 0, 1) := by decide +kernel
theorem dX12_drawsReading_10 : decode cX12_drawsReading 10 = .ok (.iload_n 1, 1) := by decide +kernel
theorem dX12_drawsReading_11 : decode cX12_drawsReading 11 = .ok (.invokevirtual 322, 3) := by decide +kernel
theorem dX12_drawsReading_14 : decode cX12_drawsReading 14 = .ok (.aload_n 0, 1) := by decide +kernel
theorem dX12_drawsReading_15 : decode cX12_drawsReading 15 = .ok (.bipush 9, 2) := by decide +kernel
theorem dX12_drawsReading_17 : decode cX12_drawsReading 17 = .ok (.invokevirtual 389, 3) := by decide +kernel
theorem dX12_drawsReading_20 : decode cX12_drawsReading 20 = .ok (.iconst 1, 1) := by decide +kernel
theorem dX12_drawsReading_21 : decode cX12_drawsReading 21 = .ok (.iadd, 1) := by decide +kernel
theorem dX12_drawsReading_22 : decode cX12_drawsReading 22 = .ok (.invokestatic 315, 3) := by decide +kernel
theorem dX12_drawsReading_25 : decode cX12_drawsReading 25 = .ok (.istore_n 2, 1) := by decide +kernel
theorem dX12_drawsReading_26 : decode cX12_drawsReading 26 = .ok (.aload_n 0, 1) := by decide +kernel
theorem dX12_drawsReading_27 : decode cX12_drawsReading 27 = .ok (.aload_n 0, 1) := by decide +kernel
theorem dX12_drawsReading_28 : decode cX12_drawsReading 28 = .ok (.getfield 61, 3) := by decide +kernel
theorem dX12_drawsReading_31 : decode cX12_drawsReading 31 = .ok (.iload_n 1, 1) := by decide +kernel
theorem dX12_drawsReading_32 : decode cX12_drawsReading 32 = .ok (.iload_n 2, 1) := by decide +kernel
theorem dX12_drawsReading_33 : decode cX12_drawsReading 33 = .ok (.iconst 0, 1) := by decide +kernel
theorem dX12_drawsReading_34 : decode cX12_drawsReading 34 = .ok (.invokevirtual 359, 3) := by decide +kernel
theorem dX12_drawsReading_37 : decode cX12_drawsReading 37 = .ok (.ifCond .eq 14, 3) := by decide +kernel
theorem dX12_drawsReading_40 : decode cX12_drawsReading 40 = .ok (.aload_n 0, 1) := by decide +kernel
theorem dX12_drawsReading_41 : decode cX12_drawsReading 41 = .ok (.aload_n 0, 1) := by decide +kernel
theorem dX12_drawsReading_42 : decode cX12_drawsReading 42 = .ok (.getfield 61, 3) := by decide +kernel
theorem dX12_drawsReading_45 : decode cX12_drawsReading 45 = .ok (.iload_n 1, 1) := by decide +kernel
theorem dX12_drawsReading_46 : decode cX12_drawsReading 46 = .ok (.iload_n 2, 1) := by decide +kernel
theorem dX12_drawsReading_47 : decode cX12_drawsReading 47 = .ok (.iconst 0, 1) := by decide +kernel
theorem dX12_drawsReading_48 : decode cX12_drawsReading 48 = .ok (.invokevirtual 365, 3) := by decide +kernel
theorem dX12_drawsReading_51 : decode cX12_drawsReading 51 = .ok (.return_, 1) := by decide +kernel
def X12_drawsReading (n : Nat) (h : Mm) : Option (Unit × Mm) := (bd (X12_draw (h.1 251 26) h) (fun r16 h18 => (bp (X12_pagesOf r16 h18) (fun r19 => (bd (X12_draw (9) h18) (fun r21 h23 => (bp (J9_min_7cf53 r19 (r21 + (1)) h23) (fun r24 => (bp (X12_mayRead 264 r16 r24 false h23) (fun r26 => (if r26 = true then (bd (X12_reads n 264 r16 r24 false h23) (fun _ h30 => (some ((), h30)))) else (some ((), h23)))))))))))))
set_option maxRecDepth 100000 in
set_option maxHeartbeats 4000000 in
theorem s_X12_drawsReading {X : WX} {o : Mm} {n : Nat} {rv : Unit} {hz : Mm} {h : Mm} (hF : X12_drawsReading n h = some (rv, hz)) : Sat X yX12_drawsReading cX12_drawsReading 3 (none) 92 [.ref (xa X 251)] false o h none hz := by
  unfold X12_drawsReading at hF
  refine Sat.mk (own := RX12) rfl (by decide +kernel) (Nat.le_of_ble_eq_true rfl) (fun G => ?_)
  refine V.sub (lv2 := [(0, _)]) [0] rfl ?_
  refine V.aload_n 0 dX12_drawsReading_0 rfl rfl ?_
  refine V.aload_n 0 dX12_drawsReading_1 rfl rfl ?_
  refine V.getI fl_X12_288 sh_251 rfl km_251 dX12_drawsReading_2 ?_
  obtain ⟨r16, h18, hc17, hF⟩ := bd_s hF
  refine V.callVi mf_X12_draw ml_X12_389 sh_251 (s_X12_draw hc17) (by decide) rfl rfl (Nat.le_of_ble_eq_true rfl) dX12_drawsReading_5 ?_
  refine V.istore_n [(1, _), (0, _)] dX12_drawsReading_8 rfl (by decide) rfl ?_
  refine V.aload_n 1 dX12_drawsReading_9 rfl rfl ?_
  refine V.iload_n 0 dX12_drawsReading_10 rfl rfl ?_
  obtain ⟨r19, hc20, hF⟩ := bp_s hF
  refine V.callVi mf_X12_pagesOf ml_X12_322 sh_251 (s_X12_pagesOf hc20) (by decide) rfl rfl (Nat.le_of_ble_eq_true rfl) dX12_drawsReading_11 ?_
  refine V.aload_n 1 dX12_drawsReading_14 rfl rfl ?_
  refine V.bipush (v := 9) dX12_drawsReading_15 (by decide) ?_
  obtain ⟨r21, h23, hc22, hF⟩ := bd_s hF
  refine V.callVi mf_X12_draw ml_X12_389 sh_251 (s_X12_draw hc22) (by decide) rfl rfl (Nat.le_of_ble_eq_true rfl) dX12_drawsReading_17 ?_
  refine V.iconst (v := 1) dX12_drawsReading_20 rfl ?_
  refine V.iadd dX12_drawsReading_21 ?_
  obtain ⟨r24, hc25, hF⟩ := bp_s hF
  refine V.callSi mf_J9_min_7cf53 ml_X12_315 (s_J9_min_7cf53 hc25) (by decide) rfl rfl (Nat.le_of_ble_eq_true rfl) dX12_drawsReading_22 ?_
  refine V.istore_n [(2, _), (1, _), (0, _)] dX12_drawsReading_25 rfl (by decide) rfl ?_
  refine V.aload_n 2 dX12_drawsReading_26 rfl rfl ?_
  refine V.aload_n 2 dX12_drawsReading_27 rfl rfl ?_
  refine V.getR (v := 264) fl_X12_61 sh_251 rfl fx_251_32 (by decide) dX12_drawsReading_28 ?_
  refine V.iload_n 1 dX12_drawsReading_31 rfl rfl ?_
  refine V.iload_n 0 dX12_drawsReading_32 rfl rfl ?_
  refine V.iconst (v := 0) dX12_drawsReading_33 rfl ?_
  obtain ⟨r26, hc27, hF⟩ := bp_s hF
  refine V.callVi mf_X12_mayRead ml_X12_359 sh_251 (s_X12_mayRead io_264 hc27) (by decide) rfl rfl (Nat.le_of_ble_eq_true rfl) dX12_drawsReading_34 ?_
  refine V.ifz_eq (tgt := 51) dX12_drawsReading_37 rfl (fun c => ?_) (fun c => ?_)
  · replace hF := (if_neg c).symm.trans hF
    cases hF
    exact V.vret dX12_drawsReading_51
  · replace hF := (if_pos c).symm.trans hF
    refine V.aload_n 2 dX12_drawsReading_40 rfl rfl ?_
    refine V.aload_n 2 dX12_drawsReading_41 rfl rfl ?_
    refine V.getR (v := 264) fl_X12_61 sh_251 rfl fx_251_32 (by decide) dX12_drawsReading_42 ?_
    refine V.iload_n 1 dX12_drawsReading_45 rfl rfl ?_
    refine V.iload_n 0 dX12_drawsReading_46 rfl rfl ?_
    refine V.iconst (v := 0) dX12_drawsReading_47 rfl ?_
    obtain ⟨r28, h30, hc29, hF⟩ := bd_s hF
    refine V.callVv mf_X12_reads ml_X12_365 sh_251 (s_X12_reads io_264 hc29) (by decide) rfl rfl (Nat.le_of_ble_eq_true rfl) dX12_drawsReading_48 ?_
    cases hF
    exact V.vret dX12_drawsReading_51
/-! MonsterCotModel.years -/
theorem dX12_years_0 : decode cX12_years 0 = .ok (.aload_n 0, 1) := by decide +kernel
theorem dX12_years_1 : decode cX12_years 1 = .ok (.iconst 0, 1) := by decide +kernel
theorem dX12_years_2 : decode cX12_years 2 = .ok (.putfield 93, 3) := by decide +kernel
theorem dX12_years_5 : decode cX12_years 5 = .ok (.aload_n 0, 1) := by decide +kernel
theorem dX12_years_6 : decode cX12_years 6 = .ok (.getfield 291, 3) := by decide +kernel
theorem dX12_years_9 : decode cX12_years 9 = .ok (.ifCond .eq 30, 3) := by decide +kernel
theorem dX12_years_12 : decode cX12_years 12 = .ok (.iload_n 1, 1) := by decide +kernel
theorem dX12_years_13 : decode cX12_years 13 = .ok (.i2l, 1) := by decide +kernel
theorem dX12_years_14 : decode cX12_years 14 = .ok (.lconst 1, 1) := by decide +kernel
theorem dX12_years_15 : decode cX12_years 15 = .ok (.ldc2_w 392, 3) := by decide +kernel
theorem dX12_years_18 : decode cX12_years 18 = .ok (.invokestatic 214, 3) := by decide +kernel
theorem dX12_years_21 : decode cX12_years 21 = .ok (.ifCond .eq 18, 3) := by decide +kernel
theorem dX12_years_24 : decode cX12_years 24 = .ok (.aload_n 0, 1) := by decide +kernel
theorem dX12_years_25 : decode cX12_years 25 = .ok (.getfield 61, 3) := by decide +kernel
theorem dX12_years_28 : decode cX12_years 28 = .ok (.bipush 29, 2) := by decide +kernel
theorem dX12_years_30 : decode cX12_years 30 = .ok (.iaload, 1) := by decide +kernel
theorem dX12_years_31 : decode cX12_years 31 = .ok (.iload_n 1, 1) := by decide +kernel
theorem dX12_years_32 : decode cX12_years 32 = .ok (.iadd, 1) := by decide +kernel
theorem dX12_years_33 : decode cX12_years 33 = .ok (.sipush 9999, 3) := by decide +kernel
theorem dX12_years_36 : decode cX12_years 36 = .ok (.if_icmp .le 5, 3) := by decide +kernel
theorem dX12_years_39 : decode cX12_years 39 = .ok (.iconst (-1), 1) := by decide +kernel
theorem dX12_years_40 : decode cX12_years 40 = .ok (.ireturn, 1) := by decide +kernel
theorem dX12_years_41 : decode cX12_years 41 = .ok (.aload_n 0, 1) := by decide +kernel
theorem dX12_years_42 : decode cX12_years 42 = .ok (.lload_n 2, 1) := by decide +kernel
theorem dX12_years_43 : decode cX12_years 43 = .ok (.putfield 381, 3) := by decide +kernel
theorem dX12_years_46 : decode cX12_years 46 = .ok (.iconst 0, 1) := by decide +kernel
theorem dX12_years_47 : decode cX12_years 47 = .ok (.istore 4, 2) := by decide +kernel
theorem dX12_years_49 : decode cX12_years 49 = .ok (.iload 4, 2) := by decide +kernel
theorem dX12_years_51 : decode cX12_years 51 = .ok (.iload_n 1, 1) := by decide +kernel
theorem dX12_years_52 : decode cX12_years 52 = .ok (.if_icmp .ge 61, 3) := by decide +kernel
theorem dX12_years_55 : decode cX12_years 55 = .ok (.aload_n 0, 1) := by decide +kernel
theorem dX12_years_56 : decode cX12_years 56 = .ok (.invokevirtual 362, 3) := by decide +kernel
theorem dX12_years_59 : decode cX12_years 59 = .ok (.aload_n 0, 1) := by decide +kernel
theorem dX12_years_60 : decode cX12_years 60 = .ok (.invokevirtual 394, 3) := by decide +kernel
theorem dX12_years_63 : decode cX12_years 63 = .ok (.aload_n 0, 1) := by decide +kernel
theorem dX12_years_64 : decode cX12_years 64 = .ok (.invokevirtual 394, 3) := by decide +kernel
theorem dX12_years_67 : decode cX12_years 67 = .ok (.aload_n 0, 1) := by decide +kernel
theorem dX12_years_68 : decode cX12_years 68 = .ok (.bipush 10, 2) := by decide +kernel
theorem dX12_years_70 : decode cX12_years 70 = .ok (.invokevirtual 389, 3) := by decide +kernel
theorem dX12_years_73 : decode cX12_years 73 = .ok (.aload_n 0, 1) := by decide +kernel
theorem dX12_years_74 : decode cX12_years 74 = .ok (.getfield 352, 3) := by decide +kernel
theorem dX12_years_77 : decode cX12_years 77 = .ok (.if_icmp .ge 20, 3) := by decide +kernel
theorem dX12_years_80 : decode cX12_years 80 = .ok (.aload_n 0, 1) := by decide +kernel
theorem dX12_years_81 : decode cX12_years 81 = .ok (.getfield 61, 3) := by decide +kernel
theorem dX12_years_84 : decode cX12_years 84 = .ok (.bipush 25, 2) := by decide +kernel
theorem dX12_years_86 : decode cX12_years 86 = .ok (.iaload, 1) := by decide +kernel
theorem dX12_years_87 : decode cX12_years 87 = .ok (.ifCond .ne 10, 3) := by decide +kernel
theorem dX12_years_90 : decode cX12_years 90 = .ok (.aload_n 0, 1) := by decide +kernel
theorem dX12_years_91 : decode cX12_years 91 = .ok (.getfield 61, 3) := by decide +kernel
theorem dX12_years_94 : decode cX12_years 94 = .ok (.invokestatic 369, 3) := by decide +kernel
theorem dX12_years_97 : decode cX12_years 97 = .ok (.aload_n 0, 1) := by decide +kernel
theorem dX12_years_98 : decode cX12_years 98 = .ok (.aload_n 0, 1) := by decide +kernel
theorem dX12_years_99 : decode cX12_years 99 = .ok (.getfield 61, 3) := by decide +kernel
theorem dX12_years_102 : decode cX12_years 102 = .ok (.invokevirtual 377, 3) := by decide +kernel
theorem dX12_years_105 : decode cX12_years 105 = .ok (.istore 5, 2) := by decide +kernel
theorem dX12_years_107 : decode cX12_years 107 = .ok (.iinc 4 1, 3) := by decide +kernel
theorem dX12_years_110 : decode cX12_years 110 = .ok (.goto (-61), 3) := by decide +kernel
theorem dX12_years_113 : decode cX12_years 113 = .ok (.aload_n 0, 1) := by decide +kernel
theorem dX12_years_114 : decode cX12_years 114 = .ok (.getfield 61, 3) := by decide +kernel
theorem dX12_years_117 : decode cX12_years 117 = .ok (.bipush 29, 2) := by decide +kernel
theorem dX12_years_119 : decode cX12_years 119 = .ok (.iaload, 1) := by decide +kernel
theorem dX12_years_120 : decode cX12_years 120 = .ok (.ireturn, 1) := by decide +kernel
def X12_years_97 (n : Nat) (K49 : Int32 → Int32 → Mm → Option (Int32 × Mm)) (x1 : Int32) (x4 : Int32) (h : Mm) : Option (Int32 × Mm) := (bd (X12_goNight n 264 h) (fun r78 h80 => (K49 x1 (x4 + (1)) h80)))
set_option maxRecDepth 100000 in
set_option maxHeartbeats 4000000 in
theorem v_X12_years_97 {X : WX} {G : GX} {o : Mm} {n : Nat} {K49 : Int32 → Int32 → Mm → Option (Int32 × Mm)} {rv : Int32} {hz : Mm} (hK49 : ∀ (x1 : Int32) (x4 : Int32) (h : Mm), K49 x1 x4 h = some (rv, hz) → V X G RX12 cX12_years 6 (some .int) 93 0 0 (QR X G false o (some (.int rv)) hz) false o 49 [(0, .ref (xa X 251)), (1, .int x1), (4, .int x4)] [] h) {x1 : Int32} {x4 : Int32} {h : Mm} (hF : X12_years_97 n K49 x1 x4 h = some (rv, hz)) : V X G RX12 cX12_years 6 (some .int) 93 0 0 (QR X G false o (some (.int rv)) hz) false o 97 [(0, .ref (xa X 251)), (1, .int x1), (4, .int x4)] [] h := by
  unfold X12_years_97 at hF
  refine V.aload_n 0 dX12_years_97 rfl rfl ?_
  refine V.aload_n 0 dX12_years_98 rfl rfl ?_
  refine V.getR (v := 264) fl_X12_61 sh_251 rfl fx_251_32 (by decide) dX12_years_99 ?_
  obtain ⟨r78, h80, hc79, hF⟩ := bd_s hF
  refine V.callVi mf_X12_goNight ml_X12_377 sh_251 (s_X12_goNight io_264 hc79) (by decide) rfl rfl (Nat.le_of_ble_eq_true rfl) dX12_years_102 ?_
  refine V.istore [(5, _), (0, _), (1, _), (4, _)] dX12_years_105 (by decide) rfl ?_
  refine V.iinc (v := (x4 + (1))) 3 [(4, _), (5, _), (0, _), (1, _)] dX12_years_107 rfl rfl (by decide) rfl ?_
  refine V.goto (tgt := 49) dX12_years_110 rfl ?_
  exact V.sub [2, 3, 0] rfl (hK49 _ _ _ hF)
def X12_years_49 (n : Nat) : Nat → Int32 → Int32 → Mm → Option (Int32 × Mm)
  | 0, _, _, _ => none
  | f + 1, x1, x4, h => (if x1 ≤ x4 then (if inB (29) (aln 264) then (some ((h.1 264 (29).toNatClampNeg), h)) else none) else (bd (X12_remember n h) (fun _ h83 => (bd (X12_drawsReading n h83) (fun _ h86 => (bd (X12_drawsReading n h86) (fun _ h89 => (bd (X12_draw (10) h89) (fun r90 h92 => (if (h92.1 251 35) ≤ r90 then (X12_years_97 n (X12_years_49 n f) x1 x4 h92) else (if inB (25) (aln 264) then (if (h92.1 264 (25).toNatClampNeg) = 0 then (bd (X12_drinks 264 h92) (fun _ h95 => (X12_years_97 n (X12_years_49 n f) x1 x4 h95))) else (X12_years_97 n (X12_years_49 n f) x1 x4 h92)) else none)))))))))))
set_option maxRecDepth 100000 in
set_option maxHeartbeats 4000000 in
theorem v_X12_years_49 {X : WX} {G : GX} {o : Mm} {n : Nat} {rv : Int32} {hz : Mm} : ∀ (f : Nat) (x1 : Int32) (x4 : Int32) (h : Mm), X12_years_49 n f x1 x4 h = some (rv, hz) → V X G RX12 cX12_years 6 (some .int) 93 0 0 (QR X G false o (some (.int rv)) hz) false o 49 [(0, .ref (xa X 251)), (1, .int x1), (4, .int x4)] [] h := by
  intro f
  induction f with
  | zero => intro x1 x4 h hF; exact nomatch (show (none : Option (Int32 × Mm)) = some (rv, hz) from hF)
  | succ f ih =>
    intro x1 x4 h hF
    unfold X12_years_49 at hF
    refine V.iload 2 dX12_years_49 rfl ?_
    refine V.iload_n 1 dX12_years_51 rfl rfl ?_
    refine V.icmp_ge (tgt := 113) dX12_years_52 rfl (fun c => ?_) (fun c => ?_)
    · replace hF := (if_pos c).symm.trans hF
      refine V.aload_n 0 dX12_years_113 rfl rfl ?_
      refine V.getR (v := 264) fl_X12_61 sh_251 rfl fx_251_32 (by decide) dX12_years_114 ?_
      refine V.bipush (v := 29) dX12_years_117 (by decide) ?_
      obtain ⟨hk, hF⟩ := ck hF
      refine V.iald io_264 hk dX12_years_119 ?_
      cases hF
      exact V.iret dX12_years_120
    · replace hF := (if_neg c).symm.trans hF
      refine V.aload_n 0 dX12_years_55 rfl rfl ?_
      obtain ⟨r81, h83, hc82, hF⟩ := bd_s hF
      refine V.callVv mf_X12_remember ml_X12_362 sh_251 (s_X12_remember hc82) (by decide) rfl rfl (Nat.le_of_ble_eq_true rfl) dX12_years_56 ?_
      refine V.aload_n 0 dX12_years_59 rfl rfl ?_
      obtain ⟨r84, h86, hc85, hF⟩ := bd_s hF
      refine V.callVv mf_X12_drawsReading ml_X12_394 sh_251 (s_X12_drawsReading hc85) (by decide) rfl rfl (Nat.le_of_ble_eq_true rfl) dX12_years_60 ?_
      refine V.aload_n 0 dX12_years_63 rfl rfl ?_
      obtain ⟨r87, h89, hc88, hF⟩ := bd_s hF
      refine V.callVv mf_X12_drawsReading ml_X12_394 sh_251 (s_X12_drawsReading hc88) (by decide) rfl rfl (Nat.le_of_ble_eq_true rfl) dX12_years_64 ?_
      refine V.aload_n 0 dX12_years_67 rfl rfl ?_
      refine V.bipush (v := 10) dX12_years_68 (by decide) ?_
      obtain ⟨r90, h92, hc91, hF⟩ := bd_s hF
      refine V.callVi mf_X12_draw ml_X12_389 sh_251 (s_X12_draw hc91) (by decide) rfl rfl (Nat.le_of_ble_eq_true rfl) dX12_years_70 ?_
      refine V.aload_n 0 dX12_years_73 rfl rfl ?_
      refine V.getI fl_X12_352 sh_251 rfl km_251 dX12_years_74 ?_
      refine V.icmp_ge (tgt := 97) dX12_years_77 rfl (fun c => ?_) (fun c => ?_)
      · replace hF := (if_pos c).symm.trans hF
        exact (v_X12_years_97 ih hF)
      · replace hF := (if_neg c).symm.trans hF
        refine V.aload_n 0 dX12_years_80 rfl rfl ?_
        refine V.getR (v := 264) fl_X12_61 sh_251 rfl fx_251_32 (by decide) dX12_years_81 ?_
        refine V.bipush (v := 25) dX12_years_84 (by decide) ?_
        obtain ⟨hk, hF⟩ := ck hF
        refine V.iald io_264 hk dX12_years_86 ?_
        refine V.if_ne (tgt := 97) dX12_years_87 rfl (fun c => ?_) (fun c => ?_)
        · replace hF := (if_neg c).symm.trans hF
          exact (v_X12_years_97 ih hF)
        · replace hF := (if_pos c).symm.trans hF
          refine V.aload_n 0 dX12_years_90 rfl rfl ?_
          refine V.getR (v := 264) fl_X12_61 sh_251 rfl fx_251_32 (by decide) dX12_years_91 ?_
          obtain ⟨r93, h95, hc94, hF⟩ := bd_s hF
          refine V.callSv mf_X12_drinks ml_X12_369 (s_X12_drinks io_264 hc94) (by decide) rfl rfl (Nat.le_of_ble_eq_true rfl) dX12_years_94 ?_
          exact (v_X12_years_97 ih hF)
def X12_years (n : Nat) (x1 : Int32) (x2 : Int64) (h : Mm) : Option (Int32 × Mm) := (if ((wI h 251 0 (0)).1 251 27) = 0 then (some ((-1), (wI h 251 0 (0)))) else (bp (X12_isIn x1.toInt64 (1 : Int64) (30 : Int64) (wI h 251 0 (0))) (fun r96 => (if r96 = true then (if inB (29) (aln 264) then (if (((wI h 251 0 (0)).1 264 (29).toNatClampNeg) + x1) ≤ (9999) then (X12_years_49 n n x1 (0) (wL (wI h 251 0 (0)) 251 40 x2)) else (some ((-1), (wI h 251 0 (0))))) else none) else (some ((-1), (wI h 251 0 (0))))))))
set_option maxRecDepth 100000 in
set_option maxHeartbeats 4000000 in
theorem s_X12_years {X : WX} {o : Mm} {n : Nat} {x1 : Int32} {x2 : Int64} {rv : Int32} {hz : Mm} {h : Mm} (hF : X12_years n x1 x2 h = some (rv, hz)) : Sat X yX12_years cX12_years 6 (some .int) 93 [.ref (xa X 251), .int x1, .long x2] false o h (some (.int rv)) hz := by
  unfold X12_years at hF
  refine Sat.mk (own := RX12) rfl (by decide +kernel) (Nat.le_of_ble_eq_true rfl) (fun G => ?_)
  refine V.sub (lv2 := [(0, _), (1, _), (2, _)]) [0, 1, 2] rfl ?_
  refine V.aload_n 0 dX12_years_0 rfl rfl ?_
  refine V.iconst (v := 0) dX12_years_1 rfl ?_
  refine V.putI fl_X12_93 rfl (tyX12_ok 0 (by decide)) rfl rfl sh_251 rfl km_251 dX12_years_2 ?_
  refine V.aload_n 0 dX12_years_5 rfl rfl ?_
  refine V.getI fl_X12_291 sh_251 rfl km_251 dX12_years_6 ?_
  refine V.if_eq (tgt := 39) dX12_years_9 rfl (fun c => ?_) (fun c => ?_)
  · replace hF := (if_pos c).symm.trans hF
    refine V.iconst (v := -1) dX12_years_39 rfl ?_
    cases hF
    exact V.iret dX12_years_40
  · replace hF := (if_neg c).symm.trans hF
    refine V.iload_n 1 dX12_years_12 rfl rfl ?_
    refine V.i2l dX12_years_13 ?_
    refine V.lconst (v := 1) dX12_years_14 rfl ?_
    refine V.ldc2 (v := 30) dX12_years_15 kc_X12_392 ?_
    obtain ⟨r96, hc97, hF⟩ := bp_s hF
    refine V.callSi mf_X12_isIn ml_X12_214 (s_X12_isIn hc97) (by decide) rfl rfl (Nat.le_of_ble_eq_true rfl) dX12_years_18 ?_
    refine V.ifz_eq (tgt := 39) dX12_years_21 rfl (fun c => ?_) (fun c => ?_)
    · replace hF := (if_neg c).symm.trans hF
      refine V.iconst (v := -1) dX12_years_39 rfl ?_
      cases hF
      exact V.iret dX12_years_40
    · replace hF := (if_pos c).symm.trans hF
      refine V.aload_n 0 dX12_years_24 rfl rfl ?_
      refine V.getR (v := 264) fl_X12_61 sh_251 rfl fx_251_32 (by decide) dX12_years_25 ?_
      refine V.bipush (v := 29) dX12_years_28 (by decide) ?_
      obtain ⟨hk, hF⟩ := ck hF
      refine V.iald io_264 hk dX12_years_30 ?_
      refine V.iload_n 1 dX12_years_31 rfl rfl ?_
      refine V.iadd dX12_years_32 ?_
      refine V.sipush (v := 9999) dX12_years_33 (by decide) ?_
      refine V.icmp_le (tgt := 41) dX12_years_36 rfl (fun c => ?_) (fun c => ?_)
      · replace hF := (if_pos c).symm.trans hF
        refine V.aload_n 0 dX12_years_41 rfl rfl ?_
        refine V.lload_n 2 dX12_years_42 rfl rfl ?_
        refine V.putJ fl_X12_381 rfl (tyX12_ok 40 (by decide)) sh_251 rfl km_251 dX12_years_43 ?_
        refine V.iconst (v := 0) dX12_years_46 rfl ?_
        refine V.istore [(4, _), (0, _), (1, _), (2, _)] dX12_years_47 (by decide) rfl ?_
        exact V.sub [1, 2, 0] rfl (v_X12_years_49 n _ _ _ hF)
      · replace hF := (if_neg c).symm.trans hF
        refine V.iconst (v := -1) dX12_years_39 rfl ?_
        cases hF
        exact V.iret dX12_years_40
/-! MonsterCotModel.undo -/
theorem dX12_undo_0 : decode cX12_undo 0 = .ok (.aload_n 0, 1) := by decide +kernel
theorem dX12_undo_1 : decode cX12_undo 1 = .ok (.iconst 0, 1) := by decide +kernel
theorem dX12_undo_2 : decode cX12_undo 2 = .ok (.putfield 93, 3) := by decide +kernel
theorem dX12_undo_5 : decode cX12_undo 5 = .ok (.aload_n 0, 1) := by decide +kernel
theorem dX12_undo_6 : decode cX12_undo 6 = .ok (.getfield 297, 3) := by decide +kernel
theorem dX12_undo_9 : decode cX12_undo 9 = .ok (.ifCond .ne 5, 3) := by decide +kernel
theorem dX12_undo_12 : decode cX12_undo 12 = .ok (.iconst (-1), 1) := by decide +kernel
theorem dX12_undo_13 : decode cX12_undo 13 = .ok (.ireturn, 1) := by decide +kernel
theorem dX12_undo_14 : decode cX12_undo 14 = .ok (.aload_n 0, 1) := by decide +kernel
theorem dX12_undo_15 : decode cX12_undo 15 = .ok (.dup, 1) := by decide +kernel
theorem dX12_undo_16 : decode cX12_undo 16 = .ok (.getfield 297, 3) := by decide +kernel
theorem dX12_undo_19 : decode cX12_undo 19 = .ok (.iconst 1, 1) := by decide +kernel
theorem dX12_undo_20 : decode cX12_undo 20 = .ok (.isub, 1) := by decide +kernel
theorem dX12_undo_21 : decode cX12_undo 21 = .ok (.putfield 297, 3) := by decide +kernel
theorem dX12_undo_24 : decode cX12_undo 24 = .ok (.iconst 0, 1) := by decide +kernel
theorem dX12_undo_25 : decode cX12_undo 25 = .ok (.istore_n 1, 1) := by decide +kernel
theorem dX12_undo_26 : decode cX12_undo 26 = .ok (.iload_n 1, 1) := by decide +kernel
theorem dX12_undo_27 : decode cX12_undo 27 = .ok (.sipush 211, 3) := by decide +kernel
theorem dX12_undo_30 : decode cX12_undo 30 = .ok (.if_icmp .ge 30, 3) := by decide +kernel
theorem dX12_undo_33 : decode cX12_undo 33 = .ok (.aload_n 0, 1) := by decide +kernel
theorem dX12_undo_34 : decode cX12_undo 34 = .ok (.getfield 61, 3) := by decide +kernel
theorem dX12_undo_37 : decode cX12_undo 37 = .ok (.iload_n 1, 1) := by decide +kernel
theorem dX12_undo_38 : decode cX12_undo 38 = .ok (.aload_n 0, 1) := by decide +kernel
theorem dX12_undo_39 : decode cX12_undo 39 = .ok (.getfield 78, 3) := by decide +kernel
theorem dX12_undo_42 : decode cX12_undo 42 = .ok (.sipush 211, 3) := by decide +kernel
theorem dX12_undo_45 : decode cX12_undo 45 = .ok (.aload_n 0, 1) := by decide +kernel
theorem dX12_undo_46 : decode cX12_undo 46 = .ok (.getfield 297, 3) := by decide +kernel
theorem dX12_undo_49 : decode cX12_undo 49 = .ok (.imul, 1) := by decide +kernel
theorem dX12_undo_50 : decode cX12_undo 50 = .ok (.iload_n 1, 1) := by decide +kernel
theorem dX12_undo_51 : decode cX12_undo 51 = .ok (.iadd, 1) := by decide +kernel
theorem dX12_undo_52 : decode cX12_undo 52 = .ok (.iaload, 1) := by decide +kernel
theorem dX12_undo_53 : decode cX12_undo 53 = .ok (.iastore, 1) := by decide +kernel
theorem dX12_undo_54 : decode cX12_undo 54 = .ok (.iinc 1 1, 3) := by decide +kernel
theorem dX12_undo_57 : decode cX12_undo 57 = .ok (.goto (-31), 3) := by decide +kernel
theorem dX12_undo_60 : decode cX12_undo 60 = .ok (.aload_n 0, 1) := by decide +kernel
theorem dX12_undo_61 : decode cX12_undo 61 = .ok (.getfield 297, 3) := by decide +kernel
theorem dX12_undo_64 : decode cX12_undo 64 = .ok (.ireturn, 1) := by decide +kernel
def X12_undo_26 (n : Nat) : Nat → Int32 → Mm → Option (Int32 × Mm)
  | 0, _, _ => none
  | f + 1, x1, h => (if (211) ≤ x1 then (some ((h.1 251 39), h)) else (if inB (((211) * (h.1 251 39)) + x1) (aln 268) then (if inB x1 (aln 264) then ((X12_undo_26 n f) (x1 + (1)) (wI h 264 x1.toNatClampNeg (h.1 268 (((211) * (h.1 251 39)) + x1).toNatClampNeg))) else none) else none))
set_option maxRecDepth 100000 in
set_option maxHeartbeats 4000000 in
theorem v_X12_undo_26 {X : WX} {G : GX} {o : Mm} {n : Nat} {rv : Int32} {hz : Mm} : ∀ (f : Nat) (x1 : Int32) (h : Mm), X12_undo_26 n f x1 h = some (rv, hz) → V X G RX12 cX12_undo 2 (some .int) 1 0 0 (QR X G false o (some (.int rv)) hz) false o 26 [(0, .ref (xa X 251)), (1, .int x1)] [] h := by
  intro f
  induction f with
  | zero => intro x1 h hF; exact nomatch (show (none : Option (Int32 × Mm)) = some (rv, hz) from hF)
  | succ f ih =>
    intro x1 h hF
    unfold X12_undo_26 at hF
    refine V.iload_n 1 dX12_undo_26 rfl rfl ?_
    refine V.sipush (v := 211) dX12_undo_27 (by decide) ?_
    refine V.icmp_ge (tgt := 60) dX12_undo_30 rfl (fun c => ?_) (fun c => ?_)
    · replace hF := (if_pos c).symm.trans hF
      refine V.aload_n 0 dX12_undo_60 rfl rfl ?_
      refine V.getI fl_X12_297 sh_251 rfl km_251 dX12_undo_61 ?_
      cases hF
      exact V.iret dX12_undo_64
    · replace hF := (if_neg c).symm.trans hF
      refine V.aload_n 0 dX12_undo_33 rfl rfl ?_
      refine V.getR (v := 264) fl_X12_61 sh_251 rfl fx_251_32 (by decide) dX12_undo_34 ?_
      refine V.iload_n 1 dX12_undo_37 rfl rfl ?_
      refine V.aload_n 0 dX12_undo_38 rfl rfl ?_
      refine V.getR (v := 268) fl_X12_78 sh_251 rfl fx_251_38 (by decide) dX12_undo_39 ?_
      refine V.sipush (v := 211) dX12_undo_42 (by decide) ?_
      refine V.aload_n 0 dX12_undo_45 rfl rfl ?_
      refine V.getI fl_X12_297 sh_251 rfl km_251 dX12_undo_46 ?_
      refine V.imul dX12_undo_49 ?_
      refine V.iload_n 1 dX12_undo_50 rfl rfl ?_
      refine V.iadd dX12_undo_51 ?_
      obtain ⟨hk, hF⟩ := ck hF
      refine V.iald io_268 hk dX12_undo_52 ?_
      obtain ⟨hk, hF⟩ := ck hF
      refine V.iast io_264 hk dX12_undo_53 ?_
      refine V.iinc (v := (x1 + (1))) 1 [(1, _), (0, _)] dX12_undo_54 rfl rfl (by decide) rfl ?_
      refine V.goto (tgt := 26) dX12_undo_57 rfl ?_
      exact V.sub [1, 0] rfl (ih _ _ hF)
def X12_undo (n : Nat) (h : Mm) : Option (Int32 × Mm) := (if ((wI h 251 0 (0)).1 251 39) = 0 then (some ((-1), (wI h 251 0 (0)))) else (X12_undo_26 n n (0) (wI (wI h 251 0 (0)) 251 39 (((wI h 251 0 (0)).1 251 39) - (1)))))
set_option maxRecDepth 100000 in
set_option maxHeartbeats 4000000 in
theorem s_X12_undo {X : WX} {o : Mm} {n : Nat} {rv : Int32} {hz : Mm} {h : Mm} (hF : X12_undo n h = some (rv, hz)) : Sat X yX12_undo cX12_undo 2 (some .int) 1 [.ref (xa X 251)] false o h (some (.int rv)) hz := by
  unfold X12_undo at hF
  refine Sat.mk (own := RX12) rfl (by decide +kernel) (Nat.le_of_ble_eq_true rfl) (fun G => ?_)
  refine V.sub (lv2 := [(0, _)]) [0] rfl ?_
  refine V.aload_n 0 dX12_undo_0 rfl rfl ?_
  refine V.iconst (v := 0) dX12_undo_1 rfl ?_
  refine V.putI fl_X12_93 rfl (tyX12_ok 0 (by decide)) rfl rfl sh_251 rfl km_251 dX12_undo_2 ?_
  refine V.aload_n 0 dX12_undo_5 rfl rfl ?_
  refine V.getI fl_X12_297 sh_251 rfl km_251 dX12_undo_6 ?_
  refine V.if_ne (tgt := 14) dX12_undo_9 rfl (fun c => ?_) (fun c => ?_)
  · replace hF := (if_neg c).symm.trans hF
    refine V.aload_n 0 dX12_undo_14 rfl rfl ?_
    refine V.dup dX12_undo_15 rfl ?_
    refine V.getI fl_X12_297 sh_251 rfl km_251 dX12_undo_16 ?_
    refine V.iconst (v := 1) dX12_undo_19 rfl ?_
    refine V.isub dX12_undo_20 ?_
    refine V.putI fl_X12_297 rfl (tyX12_ok 39 (by decide)) rfl rfl sh_251 rfl km_251 dX12_undo_21 ?_
    refine V.iconst (v := 0) dX12_undo_24 rfl ?_
    refine V.istore_n [(1, _), (0, _)] dX12_undo_25 rfl (by decide) rfl ?_
    exact V.sub [1, 0] rfl (v_X12_undo_26 n _ _ hF)
  · replace hF := (if_pos c).symm.trans hF
    refine V.iconst (v := -1) dX12_undo_12 rfl ?_
    cases hF
    exact V.iret dX12_undo_13
/-! MonsterCotModel.log -/
theorem dX12_log_0 : decode cX12_log 0 = .ok (.aload_n 0, 1) := by decide +kernel
theorem dX12_log_1 : decode cX12_log 1 = .ok (.iconst 0, 1) := by decide +kernel
theorem dX12_log_2 : decode cX12_log 2 = .ok (.putfield 93, 3) := by decide +kernel
theorem dX12_log_5 : decode cX12_log 5 = .ok (.iload_n 1, 1) := by decide +kernel
theorem dX12_log_6 : decode cX12_log 6 = .ok (.i2l, 1) := by decide +kernel
theorem dX12_log_7 : decode cX12_log 7 = .ok (.lconst 0, 1) := by decide +kernel
theorem dX12_log_8 : decode cX12_log 8 = .ok (.aload_n 0, 1) := by decide +kernel
theorem dX12_log_9 : decode cX12_log 9 = .ok (.getfield 61, 3) := by decide +kernel
theorem dX12_log_12 : decode cX12_log 12 = .ok (.bipush 30, 2) := by decide +kernel
theorem dX12_log_14 : decode cX12_log 14 = .ok (.iaload, 1) := by decide +kernel
theorem dX12_log_15 : decode cX12_log 15 = .ok (.iconst 1, 1) := by decide +kernel
theorem dX12_log_16 : decode cX12_log 16 = .ok (.isub, 1) := by decide +kernel
theorem dX12_log_17 : decode cX12_log 17 = .ok (.i2l, 1) := by decide +kernel
theorem dX12_log_18 : decode cX12_log 18 = .ok (.invokestatic 214, 3) := by decide +kernel
theorem dX12_log_21 : decode cX12_log 21 = .ok (.ifCond .eq 41, 3) := by decide +kernel
theorem dX12_log_24 : decode cX12_log 24 = .ok (.iload_n 2, 1) := by decide +kernel
theorem dX12_log_25 : decode cX12_log 25 = .ok (.i2l, 1) := by decide +kernel
theorem dX12_log_26 : decode cX12_log 26 = .ok (.lconst 0, 1) := by decide +kernel
theorem dX12_log_27 : decode cX12_log 27 = .ok (.ldc2_w 269, 3) := by decide +kernel
theorem dX12_log_30 : decode cX12_log 30 = .ok (.invokestatic 214, 3) := by decide +kernel
theorem dX12_log_33 : decode cX12_log 33 = .ok (.ifCond .eq 29, 3) := by decide +kernel
theorem dX12_log_36 : decode cX12_log 36 = .ok (.aload_n 0, 1) := by decide +kernel
theorem dX12_log_37 : decode cX12_log 37 = .ok (.getfield 61, 3) := by decide +kernel
theorem dX12_log_40 : decode cX12_log 40 = .ok (.bipush 31, 2) := by decide +kernel
theorem dX12_log_42 : decode cX12_log 42 = .ok (.iconst 3, 1) := by decide +kernel
theorem dX12_log_43 : decode cX12_log 43 = .ok (.aload_n 0, 1) := by decide +kernel
theorem dX12_log_44 : decode cX12_log 44 = .ok (.getfield 61, 3) := by decide +kernel
theorem dX12_log_47 : decode cX12_log 47 = .ok (.bipush 30, 2) := by decide +kernel
theorem dX12_log_49 : decode cX12_log 49 = .ok (.iaload, 1) := by decide +kernel
theorem dX12_log_50 : decode cX12_log 50 = .ok (.iconst 1, 1) := by decide +kernel
theorem dX12_log_51 : decode cX12_log 51 = .ok (.isub, 1) := by decide +kernel
theorem dX12_log_52 : decode cX12_log 52 = .ok (.iload_n 1, 1) := by decide +kernel
theorem dX12_log_53 : decode cX12_log 53 = .ok (.isub, 1) := by decide +kernel
theorem dX12_log_54 : decode cX12_log 54 = .ok (.imul, 1) := by decide +kernel
theorem dX12_log_55 : decode cX12_log 55 = .ok (.iadd, 1) := by decide +kernel
theorem dX12_log_56 : decode cX12_log 56 = .ok (.iload_n 2, 1) := by decide +kernel
theorem dX12_log_57 : decode cX12_log 57 = .ok (.iadd, 1) := by decide +kernel
theorem dX12_log_58 : decode cX12_log 58 = .ok (.iaload, 1) := by decide +kernel
theorem dX12_log_59 : decode cX12_log 59 = .ok (.goto 4, 3) := by decide +kernel
theorem dX12_log_62 : decode cX12_log 62 = .ok (.iconst (-1), 1) := by decide +kernel
theorem dX12_log_63 : decode cX12_log 63 = .ok (.ireturn, 1) := by decide +kernel
def X12_log (x1 : Int32) (x2 : Int32) (h : Mm) : Option (Int32 × Mm) := (if inB (30) (aln 264) then (bp (X12_isIn x1.toInt64 (0 : Int64) ((((wI h 251 0 (0)).1 264 (30).toNatClampNeg) - (1)).toInt64) (wI h 251 0 (0))) (fun r5 => (if r5 = true then (bp (X12_isIn x2.toInt64 (0 : Int64) (2 : Int64) (wI h 251 0 (0))) (fun r7 => (if r7 = true then (if inB (30) (aln 264) then (if inB (((31) + ((3) * ((((wI h 251 0 (0)).1 264 (30).toNatClampNeg) - (1)) - x1))) + x2) (aln 264) then (some (((wI h 251 0 (0)).1 264 (((31) + ((3) * ((((wI h 251 0 (0)).1 264 (30).toNatClampNeg) - (1)) - x1))) + x2).toNatClampNeg), (wI h 251 0 (0)))) else none) else none) else (some ((-1), (wI h 251 0 (0))))))) else (some ((-1), (wI h 251 0 (0))))))) else none)
set_option maxRecDepth 100000 in
set_option maxHeartbeats 4000000 in
theorem s_X12_log {X : WX} {o : Mm} {x1 : Int32} {x2 : Int32} {rv : Int32} {hz : Mm} {h : Mm} (hF : X12_log x1 x2 h = some (rv, hz)) : Sat X yX12_log cX12_log 3 (some .int) 2 [.ref (xa X 251), .int x1, .int x2] false o h (some (.int rv)) hz := by
  unfold X12_log at hF
  refine Sat.mk (own := RX12) rfl (by decide +kernel) (Nat.le_of_ble_eq_true rfl) (fun G => ?_)
  refine V.sub (lv2 := [(0, _), (1, _), (2, _)]) [0, 1, 2] rfl ?_
  refine V.aload_n 0 dX12_log_0 rfl rfl ?_
  refine V.iconst (v := 0) dX12_log_1 rfl ?_
  refine V.putI fl_X12_93 rfl (tyX12_ok 0 (by decide)) rfl rfl sh_251 rfl km_251 dX12_log_2 ?_
  refine V.iload_n 1 dX12_log_5 rfl rfl ?_
  refine V.i2l dX12_log_6 ?_
  refine V.lconst (v := 0) dX12_log_7 rfl ?_
  refine V.aload_n 0 dX12_log_8 rfl rfl ?_
  refine V.getR (v := 264) fl_X12_61 sh_251 rfl fx_251_32 (by decide) dX12_log_9 ?_
  refine V.bipush (v := 30) dX12_log_12 (by decide) ?_
  obtain ⟨hk, hF⟩ := ck hF
  refine V.iald io_264 hk dX12_log_14 ?_
  refine V.iconst (v := 1) dX12_log_15 rfl ?_
  refine V.isub dX12_log_16 ?_
  refine V.i2l dX12_log_17 ?_
  obtain ⟨r5, hc6, hF⟩ := bp_s hF
  refine V.callSi mf_X12_isIn ml_X12_214 (s_X12_isIn hc6) (by decide) rfl rfl (Nat.le_of_ble_eq_true rfl) dX12_log_18 ?_
  refine V.ifz_eq (tgt := 62) dX12_log_21 rfl (fun c => ?_) (fun c => ?_)
  · replace hF := (if_neg c).symm.trans hF
    refine V.iconst (v := -1) dX12_log_62 rfl ?_
    cases hF
    exact V.iret dX12_log_63
  · replace hF := (if_pos c).symm.trans hF
    refine V.iload_n 2 dX12_log_24 rfl rfl ?_
    refine V.i2l dX12_log_25 ?_
    refine V.lconst (v := 0) dX12_log_26 rfl ?_
    refine V.ldc2 (v := 2) dX12_log_27 kc_X12_269 ?_
    obtain ⟨r7, hc8, hF⟩ := bp_s hF
    refine V.callSi mf_X12_isIn ml_X12_214 (s_X12_isIn hc8) (by decide) rfl rfl (Nat.le_of_ble_eq_true rfl) dX12_log_30 ?_
    refine V.ifz_eq (tgt := 62) dX12_log_33 rfl (fun c => ?_) (fun c => ?_)
    · replace hF := (if_neg c).symm.trans hF
      refine V.iconst (v := -1) dX12_log_62 rfl ?_
      cases hF
      exact V.iret dX12_log_63
    · replace hF := (if_pos c).symm.trans hF
      refine V.aload_n 0 dX12_log_36 rfl rfl ?_
      refine V.getR (v := 264) fl_X12_61 sh_251 rfl fx_251_32 (by decide) dX12_log_37 ?_
      refine V.bipush (v := 31) dX12_log_40 (by decide) ?_
      refine V.iconst (v := 3) dX12_log_42 rfl ?_
      refine V.aload_n 0 dX12_log_43 rfl rfl ?_
      refine V.getR (v := 264) fl_X12_61 sh_251 rfl fx_251_32 (by decide) dX12_log_44 ?_
      refine V.bipush (v := 30) dX12_log_47 (by decide) ?_
      obtain ⟨hk, hF⟩ := ck hF
      refine V.iald io_264 hk dX12_log_49 ?_
      refine V.iconst (v := 1) dX12_log_50 rfl ?_
      refine V.isub dX12_log_51 ?_
      refine V.iload_n 1 dX12_log_52 rfl rfl ?_
      refine V.isub dX12_log_53 ?_
      refine V.imul dX12_log_54 ?_
      refine V.iadd dX12_log_55 ?_
      refine V.iload_n 2 dX12_log_56 rfl rfl ?_
      refine V.iadd dX12_log_57 ?_
      obtain ⟨hk, hF⟩ := ck hF
      refine V.iald io_264 hk dX12_log_58 ?_
      refine V.goto (tgt := 63) dX12_log_59 rfl ?_
      cases hF
      exact V.iret dX12_log_63
/-! MonsterCotModel.isWeek -/
theorem dX12_isWeek_0 : decode cX12_isWeek 0 = .ok (.iload_n 1, 1) := by decide +kernel
theorem dX12_isWeek_1 : decode cX12_isWeek 1 = .ok (.ifCond .lt 15, 3) := by decide +kernel
theorem dX12_isWeek_4 : decode cX12_isWeek 4 = .ok (.iload_n 1, 1) := by decide +kernel
theorem dX12_isWeek_5 : decode cX12_isWeek 5 = .ok (.aload_n 0, 1) := by decide +kernel
theorem dX12_isWeek_6 : decode cX12_isWeek 6 = .ok (.getfield 283, 3) := by decide +kernel
theorem dX12_isWeek_9 : decode cX12_isWeek 9 = .ok (.if_icmp .ge 7, 3) := by decide +kernel
theorem dX12_isWeek_12 : decode cX12_isWeek 12 = .ok (.iconst 1, 1) := by decide +kernel
theorem dX12_isWeek_13 : decode cX12_isWeek 13 = .ok (.goto 4, 3) := by decide +kernel
theorem dX12_isWeek_16 : decode cX12_isWeek 16 = .ok (.iconst 0, 1) := by decide +kernel
theorem dX12_isWeek_17 : decode cX12_isWeek 17 = .ok (.ireturn, 1) := by decide +kernel
def X12_isWeek (x1 : Int32) (h : Mm) : Option Bool := (if x1 < 0 then (some false) else (if (h.1 251 30) ≤ x1 then (some false) else (some true)))
set_option maxRecDepth 100000 in
set_option maxHeartbeats 4000000 in
theorem s_X12_isWeek {X : WX} {o : Mm} {x1 : Int32} {rv : Bool} {h : Mm} (hF : X12_isWeek x1 h = some rv) : Sat X yX12_isWeek cX12_isWeek 2 (some .boolean) 1 [.ref (xa X 251), .int x1] false o h (some (.int (b2i rv))) h := by
  unfold X12_isWeek at hF
  refine Sat.mk (own := RX12) rfl (by decide +kernel) (Nat.le_of_ble_eq_true rfl) (fun G => ?_)
  refine V.sub (lv2 := [(0, _), (1, _)]) [0, 1] rfl ?_
  refine V.iload_n 1 dX12_isWeek_0 rfl rfl ?_
  refine V.if_lt (tgt := 16) dX12_isWeek_1 rfl (fun c => ?_) (fun c => ?_)
  · replace hF := (if_pos c).symm.trans hF
    refine V.iconst (v := 0) dX12_isWeek_16 rfl ?_
    cases hF
    exact V.bret dX12_isWeek_17
  · replace hF := (if_neg c).symm.trans hF
    refine V.iload_n 1 dX12_isWeek_4 rfl rfl ?_
    refine V.aload_n 0 dX12_isWeek_5 rfl rfl ?_
    refine V.getI fl_X12_283 sh_251 rfl km_251 dX12_isWeek_6 ?_
    refine V.icmp_ge (tgt := 16) dX12_isWeek_9 rfl (fun c => ?_) (fun c => ?_)
    · replace hF := (if_pos c).symm.trans hF
      refine V.iconst (v := 0) dX12_isWeek_16 rfl ?_
      cases hF
      exact V.bret dX12_isWeek_17
    · replace hF := (if_neg c).symm.trans hF
      refine V.iconst (v := 1) dX12_isWeek_12 rfl ?_
      refine V.goto (tgt := 17) dX12_isWeek_13 rfl ?_
      cases hF
      exact V.bret dX12_isWeek_17
/-! MonsterCotModel.step -/
theorem dX12_step_0 : decode cX12_step 0 = .ok (.aload_n 0, 1) := by decide +kernel
theorem dX12_step_1 : decode cX12_step 1 = .ok (.iconst 0, 1) := by decide +kernel
theorem dX12_step_2 : decode cX12_step 2 = .ok (.putfield 93, 3) := by decide +kernel
theorem dX12_step_5 : decode cX12_step 5 = .ok (.aload_n 0, 1) := by decide +kernel
theorem dX12_step_6 : decode cX12_step 6 = .ok (.iload_n 1, 1) := by decide +kernel
theorem dX12_step_7 : decode cX12_step 7 = .ok (.invokevirtual 397, 3) := by decide +kernel
theorem dX12_step_10 : decode cX12_step 10 = .ok (.ifCond .eq 51, 3) := by decide +kernel
theorem dX12_step_13 : decode cX12_step 13 = .ok (.iload_n 2, 1) := by decide +kernel
theorem dX12_step_14 : decode cX12_step 14 = .ok (.i2l, 1) := by decide +kernel
theorem dX12_step_15 : decode cX12_step 15 = .ok (.lconst 0, 1) := by decide +kernel
theorem dX12_step_16 : decode cX12_step 16 = .ok (.aload_n 0, 1) := by decide +kernel
theorem dX12_step_17 : decode cX12_step 17 = .ok (.getfield 58, 3) := by decide +kernel
theorem dX12_step_20 : decode cX12_step 20 = .ok (.iload_n 1, 1) := by decide +kernel
theorem dX12_step_21 : decode cX12_step 21 = .ok (.iaload, 1) := by decide +kernel
theorem dX12_step_22 : decode cX12_step 22 = .ok (.iconst 1, 1) := by decide +kernel
theorem dX12_step_23 : decode cX12_step 23 = .ok (.isub, 1) := by decide +kernel
theorem dX12_step_24 : decode cX12_step 24 = .ok (.i2l, 1) := by decide +kernel
theorem dX12_step_25 : decode cX12_step 25 = .ok (.invokestatic 214, 3) := by decide +kernel
theorem dX12_step_28 : decode cX12_step 28 = .ok (.ifCond .eq 33, 3) := by decide +kernel
theorem dX12_step_31 : decode cX12_step 31 = .ok (.iload_n 3, 1) := by decide +kernel
theorem dX12_step_32 : decode cX12_step 32 = .ok (.i2l, 1) := by decide +kernel
theorem dX12_step_33 : decode cX12_step 33 = .ok (.lconst 0, 1) := by decide +kernel
theorem dX12_step_34 : decode cX12_step 34 = .ok (.ldc2_w 269, 3) := by decide +kernel
theorem dX12_step_37 : decode cX12_step 37 = .ok (.invokestatic 214, 3) := by decide +kernel
theorem dX12_step_40 : decode cX12_step 40 = .ok (.ifCond .eq 21, 3) := by decide +kernel
theorem dX12_step_43 : decode cX12_step 43 = .ok (.aload_n 0, 1) := by decide +kernel
theorem dX12_step_44 : decode cX12_step 44 = .ok (.getfield 55, 3) := by decide +kernel
theorem dX12_step_47 : decode cX12_step 47 = .ok (.iconst 3, 1) := by decide +kernel
theorem dX12_step_48 : decode cX12_step 48 = .ok (.bipush 16, 2) := by decide +kernel
theorem dX12_step_50 : decode cX12_step 50 = .ok (.iload_n 1, 1) := by decide +kernel
theorem dX12_step_51 : decode cX12_step 51 = .ok (.imul, 1) := by decide +kernel
theorem dX12_step_52 : decode cX12_step 52 = .ok (.iload_n 2, 1) := by decide +kernel
theorem dX12_step_53 : decode cX12_step 53 = .ok (.iadd, 1) := by decide +kernel
theorem dX12_step_54 : decode cX12_step 54 = .ok (.imul, 1) := by decide +kernel
theorem dX12_step_55 : decode cX12_step 55 = .ok (.iload_n 3, 1) := by decide +kernel
theorem dX12_step_56 : decode cX12_step 56 = .ok (.iadd, 1) := by decide +kernel
theorem dX12_step_57 : decode cX12_step 57 = .ok (.iaload, 1) := by decide +kernel
theorem dX12_step_58 : decode cX12_step 58 = .ok (.goto 6, 3) := by decide +kernel
theorem dX12_step_61 : decode cX12_step 61 = .ok (.ldc_w 400, 3) := by decide +kernel
theorem dX12_step_64 : decode cX12_step 64 = .ok (.ireturn, 1) := by decide +kernel
def X12_step_61 (h : Mm) : Option (Int32 × Mm) := (some ((-1000000), h))
set_option maxRecDepth 100000 in
set_option maxHeartbeats 4000000 in
theorem v_X12_step_61 {X : WX} {G : GX} {o : Mm} {rv : Int32} {hz : Mm} {h : Mm} (hF : X12_step_61  h = some (rv, hz)) : V X G RX12 cX12_step 4 (some .int) 2 0 0 (QR X G false o (some (.int rv)) hz) false o 61 [] [] h := by
  unfold X12_step_61 at hF
  refine V.ldcw (v := -1000000) dX12_step_61 kc_X12_400 ?_
  cases hF
  exact V.iret dX12_step_64
def X12_step (x1 : Int32) (x2 : Int32) (x3 : Int32) (h : Mm) : Option (Int32 × Mm) := (bp (X12_isWeek x1 (wI h 251 0 (0))) (fun r13 => (if r13 = true then (if inB x1 (aln 263) then (bp (X12_isIn x2.toInt64 (0 : Int64) ((((wI h 251 0 (0)).1 263 x1.toNatClampNeg) - (1)).toInt64) (wI h 251 0 (0))) (fun r15 => (if r15 = true then (bp (X12_isIn x3.toInt64 (0 : Int64) (2 : Int64) (wI h 251 0 (0))) (fun r17 => (if r17 = true then (if inB (((3) * (((16) * x1) + x2)) + x3) (aln 262) then (some (((wI h 251 0 (0)).1 262 (((3) * (((16) * x1) + x2)) + x3).toNatClampNeg), (wI h 251 0 (0)))) else none) else (X12_step_61 (wI h 251 0 (0)))))) else (X12_step_61 (wI h 251 0 (0)))))) else none) else (X12_step_61 (wI h 251 0 (0))))))
set_option maxRecDepth 100000 in
set_option maxHeartbeats 4000000 in
theorem s_X12_step {X : WX} {o : Mm} {x1 : Int32} {x2 : Int32} {x3 : Int32} {rv : Int32} {hz : Mm} {h : Mm} (hF : X12_step x1 x2 x3 h = some (rv, hz)) : Sat X yX12_step cX12_step 4 (some .int) 2 [.ref (xa X 251), .int x1, .int x2, .int x3] false o h (some (.int rv)) hz := by
  unfold X12_step at hF
  refine Sat.mk (own := RX12) rfl (by decide +kernel) (Nat.le_of_ble_eq_true rfl) (fun G => ?_)
  refine V.sub (lv2 := [(0, _), (1, _), (2, _), (3, _)]) [0, 1, 2, 3] rfl ?_
  refine V.aload_n 0 dX12_step_0 rfl rfl ?_
  refine V.iconst (v := 0) dX12_step_1 rfl ?_
  refine V.putI fl_X12_93 rfl (tyX12_ok 0 (by decide)) rfl rfl sh_251 rfl km_251 dX12_step_2 ?_
  refine V.aload_n 0 dX12_step_5 rfl rfl ?_
  refine V.iload_n 1 dX12_step_6 rfl rfl ?_
  obtain ⟨r13, hc14, hF⟩ := bp_s hF
  refine V.callVi mf_X12_isWeek ml_X12_397 sh_251 (s_X12_isWeek hc14) (by decide) rfl rfl (Nat.le_of_ble_eq_true rfl) dX12_step_7 ?_
  refine V.ifz_eq (tgt := 61) dX12_step_10 rfl (fun c => ?_) (fun c => ?_)
  · replace hF := (if_neg c).symm.trans hF
    exact V.sub [] rfl (v_X12_step_61 hF)
  · replace hF := (if_pos c).symm.trans hF
    refine V.iload_n 2 dX12_step_13 rfl rfl ?_
    refine V.i2l dX12_step_14 ?_
    refine V.lconst (v := 0) dX12_step_15 rfl ?_
    refine V.aload_n 0 dX12_step_16 rfl rfl ?_
    refine V.getR (v := 263) fl_X12_58 sh_251 rfl fx_251_25 (by decide) dX12_step_17 ?_
    refine V.iload_n 1 dX12_step_20 rfl rfl ?_
    obtain ⟨hk, hF⟩ := ck hF
    refine V.iald io_263 hk dX12_step_21 ?_
    refine V.iconst (v := 1) dX12_step_22 rfl ?_
    refine V.isub dX12_step_23 ?_
    refine V.i2l dX12_step_24 ?_
    obtain ⟨r15, hc16, hF⟩ := bp_s hF
    refine V.callSi mf_X12_isIn ml_X12_214 (s_X12_isIn hc16) (by decide) rfl rfl (Nat.le_of_ble_eq_true rfl) dX12_step_25 ?_
    refine V.ifz_eq (tgt := 61) dX12_step_28 rfl (fun c => ?_) (fun c => ?_)
    · replace hF := (if_neg c).symm.trans hF
      exact V.sub [] rfl (v_X12_step_61 hF)
    · replace hF := (if_pos c).symm.trans hF
      refine V.iload_n 3 dX12_step_31 rfl rfl ?_
      refine V.i2l dX12_step_32 ?_
      refine V.lconst (v := 0) dX12_step_33 rfl ?_
      refine V.ldc2 (v := 2) dX12_step_34 kc_X12_269 ?_
      obtain ⟨r17, hc18, hF⟩ := bp_s hF
      refine V.callSi mf_X12_isIn ml_X12_214 (s_X12_isIn hc18) (by decide) rfl rfl (Nat.le_of_ble_eq_true rfl) dX12_step_37 ?_
      refine V.ifz_eq (tgt := 61) dX12_step_40 rfl (fun c => ?_) (fun c => ?_)
      · replace hF := (if_neg c).symm.trans hF
        exact V.sub [] rfl (v_X12_step_61 hF)
      · replace hF := (if_pos c).symm.trans hF
        refine V.aload_n 0 dX12_step_43 rfl rfl ?_
        refine V.getR (v := 262) fl_X12_55 sh_251 rfl fx_251_24 (by decide) dX12_step_44 ?_
        refine V.iconst (v := 3) dX12_step_47 rfl ?_
        refine V.bipush (v := 16) dX12_step_48 (by decide) ?_
        refine V.iload_n 1 dX12_step_50 rfl rfl ?_
        refine V.imul dX12_step_51 ?_
        refine V.iload_n 2 dX12_step_52 rfl rfl ?_
        refine V.iadd dX12_step_53 ?_
        refine V.imul dX12_step_54 ?_
        refine V.iload_n 3 dX12_step_55 rfl rfl ?_
        refine V.iadd dX12_step_56 ?_
        obtain ⟨hk, hF⟩ := ck hF
        refine V.iald io_262 hk dX12_step_57 ?_
        refine V.goto (tgt := 64) dX12_step_58 rfl ?_
        cases hF
        exact V.iret dX12_step_64
/-! MonsterCotModel.canStep -/
theorem dX12_canStep_0 : decode cX12_canStep 0 = .ok (.aload_n 0, 1) := by decide +kernel
theorem dX12_canStep_1 : decode cX12_canStep 1 = .ok (.getfield 55, 3) := by decide +kernel
theorem dX12_canStep_4 : decode cX12_canStep 4 = .ok (.iload_n 2, 1) := by decide +kernel
theorem dX12_canStep_5 : decode cX12_canStep 5 = .ok (.iaload, 1) := by decide +kernel
theorem dX12_canStep_6 : decode cX12_canStep 6 = .ok (.tableswitch 105 0 3 #[30, 53, 76, 89], 30) := by decide +kernel
theorem dX12_canStep_36 : decode cX12_canStep 36 = .ok (.aload_n 0, 1) := by decide +kernel
theorem dX12_canStep_37 : decode cX12_canStep 37 = .ok (.aload_n 1, 1) := by decide +kernel
theorem dX12_canStep_38 : decode cX12_canStep 38 = .ok (.aload_n 0, 1) := by decide +kernel
theorem dX12_canStep_39 : decode cX12_canStep 39 = .ok (.getfield 55, 3) := by decide +kernel
theorem dX12_canStep_42 : decode cX12_canStep 42 = .ok (.iload_n 2, 1) := by decide +kernel
theorem dX12_canStep_43 : decode cX12_canStep 43 = .ok (.iconst 1, 1) := by decide +kernel
theorem dX12_canStep_44 : decode cX12_canStep 44 = .ok (.iadd, 1) := by decide +kernel
theorem dX12_canStep_45 : decode cX12_canStep 45 = .ok (.iaload, 1) := by decide +kernel
theorem dX12_canStep_46 : decode cX12_canStep 46 = .ok (.aload_n 0, 1) := by decide +kernel
theorem dX12_canStep_47 : decode cX12_canStep 47 = .ok (.getfield 55, 3) := by decide +kernel
theorem dX12_canStep_50 : decode cX12_canStep 50 = .ok (.iload_n 2, 1) := by decide +kernel
theorem dX12_canStep_51 : decode cX12_canStep 51 = .ok (.iconst 2, 1) := by decide +kernel
theorem dX12_canStep_52 : decode cX12_canStep 52 = .ok (.iadd, 1) := by decide +kernel
theorem dX12_canStep_53 : decode cX12_canStep 53 = .ok (.iaload, 1) := by decide +kernel
theorem dX12_canStep_54 : decode cX12_canStep 54 = .ok (.iconst 0, 1) := by decide +kernel
theorem dX12_canStep_55 : decode cX12_canStep 55 = .ok (.invokevirtual 359, 3) := by decide +kernel
theorem dX12_canStep_58 : decode cX12_canStep 58 = .ok (.ireturn, 1) := by decide +kernel
theorem dX12_canStep_59 : decode cX12_canStep 59 = .ok (.aload_n 0, 1) := by decide +kernel
theorem dX12_canStep_60 : decode cX12_canStep 60 = .ok (.aload_n 1, 1) := by decide +kernel
theorem dX12_canStep_61 : decode cX12_canStep 61 = .ok (.aload_n 0, 1) := by decide +kernel
theorem dX12_canStep_62 : decode cX12_canStep 62 = .ok (.getfield 55, 3) := by decide +kernel
theorem dX12_canStep_65 : decode cX12_canStep 65 = .ok (.iload_n 2, 1) := by decide +kernel
theorem dX12_canStep_66 : decode cX12_canStep 66 = .ok (.iconst 1, 1) := by decide +kernel
theorem dX12_canStep_67 : decode cX12_canStep 67 = .ok (.iadd, 1) := by decide +kernel
theorem dX12_canStep_68 : decode cX12_canStep 68 = .ok (.iaload, 1) := by decide +kernel
theorem dX12_canStep_69 : decode cX12_canStep 69 = .ok (.aload_n 0, 1) := by decide +kernel
theorem dX12_canStep_70 : decode cX12_canStep 70 = .ok (.getfield 55, 3) := by decide +kernel
theorem dX12_canStep_73 : decode cX12_canStep 73 = .ok (.iload_n 2, 1) := by decide +kernel
theorem dX12_canStep_74 : decode cX12_canStep 74 = .ok (.iconst 2, 1) := by decide +kernel
theorem dX12_canStep_75 : decode cX12_canStep 75 = .ok (.iadd, 1) := by decide +kernel
theorem dX12_canStep_76 : decode cX12_canStep 76 = .ok (.iaload, 1) := by decide +kernel
theorem dX12_canStep_77 : decode cX12_canStep 77 = .ok (.iconst 1, 1) := by decide +kernel
theorem dX12_canStep_78 : decode cX12_canStep 78 = .ok (.invokevirtual 359, 3) := by decide +kernel
theorem dX12_canStep_81 : decode cX12_canStep 81 = .ok (.ireturn, 1) := by decide +kernel
theorem dX12_canStep_82 : decode cX12_canStep 82 = .ok (.aload_n 1, 1) := by decide +kernel
theorem dX12_canStep_83 : decode cX12_canStep 83 = .ok (.bipush 25, 2) := by decide +kernel
theorem dX12_canStep_85 : decode cX12_canStep 85 = .ok (.iaload, 1) := by decide +kernel
theorem dX12_canStep_86 : decode cX12_canStep 86 = .ok (.ifCond .ne 7, 3) := by decide +kernel
theorem dX12_canStep_89 : decode cX12_canStep 89 = .ok (.iconst 1, 1) := by decide +kernel
theorem dX12_canStep_90 : decode cX12_canStep 90 = .ok (.goto 4, 3) := by decide +kernel
theorem dX12_canStep_93 : decode cX12_canStep 93 = .ok (.iconst 0, 1) := by decide +kernel
theorem dX12_canStep_94 : decode cX12_canStep 94 = .ok (.ireturn, 1) := by decide +kernel
theorem dX12_canStep_95 : decode cX12_canStep 95 = .ok (.aload_n 1, 1) := by decide +kernel
theorem dX12_canStep_96 : decode cX12_canStep 96 = .ok (.bipush 29, 2) := by decide +kernel
theorem dX12_canStep_98 : decode cX12_canStep 98 = .ok (.iaload, 1) := by decide +kernel
theorem dX12_canStep_99 : decode cX12_canStep 99 = .ok (.sipush 9999, 3) := by decide +kernel
theorem dX12_canStep_102 : decode cX12_canStep 102 = .ok (.if_icmp .ge 7, 3) := by decide +kernel
theorem dX12_canStep_105 : decode cX12_canStep 105 = .ok (.iconst 1, 1) := by decide +kernel
theorem dX12_canStep_106 : decode cX12_canStep 106 = .ok (.goto 4, 3) := by decide +kernel
theorem dX12_canStep_109 : decode cX12_canStep 109 = .ok (.iconst 0, 1) := by decide +kernel
theorem dX12_canStep_110 : decode cX12_canStep 110 = .ok (.ireturn, 1) := by decide +kernel
theorem dX12_canStep_111 : decode cX12_canStep 111 = .ok (.aload_n 0, 1) := by decide +kernel
theorem dX12_canStep_112 : decode cX12_canStep 112 = .ok (.aload_n 1, 1) := by decide +kernel
theorem dX12_canStep_113 : decode cX12_canStep 113 = .ok (.aload_n 0, 1) := by decide +kernel
theorem dX12_canStep_114 : decode cX12_canStep 114 = .ok (.getfield 55, 3) := by decide +kernel
theorem dX12_canStep_117 : decode cX12_canStep 117 = .ok (.iload_n 2, 1) := by decide +kernel
theorem dX12_canStep_118 : decode cX12_canStep 118 = .ok (.iconst 1, 1) := by decide +kernel
theorem dX12_canStep_119 : decode cX12_canStep 119 = .ok (.iadd, 1) := by decide +kernel
theorem dX12_canStep_120 : decode cX12_canStep 120 = .ok (.iaload, 1) := by decide +kernel
theorem dX12_canStep_121 : decode cX12_canStep 121 = .ok (.invokevirtual 373, 3) := by decide +kernel
theorem dX12_canStep_124 : decode cX12_canStep 124 = .ok (.ireturn, 1) := by decide +kernel
def X12_canStep (a1 : Nat) (x2 : Int32) (h : Mm) : Option Bool := (if inB x2 (aln 262) then (if (h.1 262 x2.toNatClampNeg) = 0 then (if inB (x2 + (1)) (aln 262) then (if inB (x2 + (2)) (aln 262) then (bp (X12_mayRead a1 (h.1 262 (x2 + (1)).toNatClampNeg) (h.1 262 (x2 + (2)).toNatClampNeg) false h) (fun r7 => (some r7))) else none) else none) else (if (h.1 262 x2.toNatClampNeg) = 1 then (if inB (x2 + (1)) (aln 262) then (if inB (x2 + (2)) (aln 262) then (bp (X12_mayRead a1 (h.1 262 (x2 + (1)).toNatClampNeg) (h.1 262 (x2 + (2)).toNatClampNeg) true h) (fun r9 => (some r9))) else none) else none) else (if (h.1 262 x2.toNatClampNeg) = 2 then (if inB (25) (aln a1) then (if (h.1 a1 (25).toNatClampNeg) = 0 then (some true) else (some false)) else none) else (if (h.1 262 x2.toNatClampNeg) = 3 then (if inB (29) (aln a1) then (if (9999) ≤ (h.1 a1 (29).toNatClampNeg) then (some false) else (some true)) else none) else (if inB (x2 + (1)) (aln 262) then (bp (X12_canGo a1 (h.1 262 (x2 + (1)).toNatClampNeg) h) (fun r11 => (some r11))) else none))))) else none)
set_option maxRecDepth 100000 in
set_option maxHeartbeats 4000000 in
theorem s_X12_canStep {X : WX} {o : Mm} {a1 : Nat} {x2 : Int32} {rv : Bool} {h : Mm} (ha1 : isO false 0 a1) (hF : X12_canStep a1 x2 h = some rv) : Sat X yX12_canStep cX12_canStep 3 (some .boolean) 4 [.ref (xa X 251), .ref (xa X a1), .int x2] false o h (some (.int (b2i rv))) h := by
  unfold X12_canStep at hF
  refine Sat.mk (own := RX12) rfl (by decide +kernel) (Nat.le_of_ble_eq_true rfl) (fun G => ?_)
  refine V.sub (lv2 := [(0, _), (1, _), (2, _)]) [0, 1, 2] rfl ?_
  refine V.aload_n 0 dX12_canStep_0 rfl rfl ?_
  refine V.getR (v := 262) fl_X12_55 sh_251 rfl fx_251_24 (by decide) dX12_canStep_1 ?_
  refine V.iload_n 2 dX12_canStep_4 rfl rfl ?_
  obtain ⟨hk, hF⟩ := ck hF
  refine V.iald io_262 hk dX12_canStep_5 ?_
  by_cases c0 : (h.1 262 x2.toNatClampNeg) = 0
  · replace hF := (if_pos c0).symm.trans hF
    refine V.tswIn (tgt := 36) c0 dX12_canStep_6 (by decide) (by decide) rfl rfl ?_
    refine V.aload_n 0 dX12_canStep_36 rfl rfl ?_
    refine V.aload_n 1 dX12_canStep_37 rfl rfl ?_
    refine V.aload_n 0 dX12_canStep_38 rfl rfl ?_
    refine V.getR (v := 262) fl_X12_55 sh_251 rfl fx_251_24 (by decide) dX12_canStep_39 ?_
    refine V.iload_n 2 dX12_canStep_42 rfl rfl ?_
    refine V.iconst (v := 1) dX12_canStep_43 rfl ?_
    refine V.iadd dX12_canStep_44 ?_
    obtain ⟨hk, hF⟩ := ck hF
    refine V.iald io_262 hk dX12_canStep_45 ?_
    refine V.aload_n 0 dX12_canStep_46 rfl rfl ?_
    refine V.getR (v := 262) fl_X12_55 sh_251 rfl fx_251_24 (by decide) dX12_canStep_47 ?_
    refine V.iload_n 2 dX12_canStep_50 rfl rfl ?_
    refine V.iconst (v := 2) dX12_canStep_51 rfl ?_
    refine V.iadd dX12_canStep_52 ?_
    obtain ⟨hk, hF⟩ := ck hF
    refine V.iald io_262 hk dX12_canStep_53 ?_
    refine V.iconst (v := 0) dX12_canStep_54 rfl ?_
    obtain ⟨r7, hc8, hF⟩ := bp_s hF
    refine V.callVi mf_X12_mayRead ml_X12_359 sh_251 (s_X12_mayRead ha1 hc8) (by decide) rfl rfl (Nat.le_of_ble_eq_true rfl) dX12_canStep_55 ?_
    cases hF
    exact V.bret dX12_canStep_58
  replace hF := (if_neg c0).symm.trans hF
  by_cases c1 : (h.1 262 x2.toNatClampNeg) = 1
  · replace hF := (if_pos c1).symm.trans hF
    refine V.tswIn (tgt := 59) c1 dX12_canStep_6 (by decide) (by decide) rfl rfl ?_
    refine V.aload_n 0 dX12_canStep_59 rfl rfl ?_
    refine V.aload_n 1 dX12_canStep_60 rfl rfl ?_
    refine V.aload_n 0 dX12_canStep_61 rfl rfl ?_
    refine V.getR (v := 262) fl_X12_55 sh_251 rfl fx_251_24 (by decide) dX12_canStep_62 ?_
    refine V.iload_n 2 dX12_canStep_65 rfl rfl ?_
    refine V.iconst (v := 1) dX12_canStep_66 rfl ?_
    refine V.iadd dX12_canStep_67 ?_
    obtain ⟨hk, hF⟩ := ck hF
    refine V.iald io_262 hk dX12_canStep_68 ?_
    refine V.aload_n 0 dX12_canStep_69 rfl rfl ?_
    refine V.getR (v := 262) fl_X12_55 sh_251 rfl fx_251_24 (by decide) dX12_canStep_70 ?_
    refine V.iload_n 2 dX12_canStep_73 rfl rfl ?_
    refine V.iconst (v := 2) dX12_canStep_74 rfl ?_
    refine V.iadd dX12_canStep_75 ?_
    obtain ⟨hk, hF⟩ := ck hF
    refine V.iald io_262 hk dX12_canStep_76 ?_
    refine V.iconst (v := 1) dX12_canStep_77 rfl ?_
    obtain ⟨r9, hc10, hF⟩ := bp_s hF
    refine V.callVi mf_X12_mayRead ml_X12_359 sh_251 (s_X12_mayRead ha1 hc10) (by decide) rfl rfl (Nat.le_of_ble_eq_true rfl) dX12_canStep_78 ?_
    cases hF
    exact V.bret dX12_canStep_81
  replace hF := (if_neg c1).symm.trans hF
  by_cases c2 : (h.1 262 x2.toNatClampNeg) = 2
  · replace hF := (if_pos c2).symm.trans hF
    refine V.tswIn (tgt := 82) c2 dX12_canStep_6 (by decide) (by decide) rfl rfl ?_
    refine V.aload_n 1 dX12_canStep_82 rfl rfl ?_
    refine V.bipush (v := 25) dX12_canStep_83 (by decide) ?_
    obtain ⟨hk, hF⟩ := ck hF
    refine V.iald ha1 hk dX12_canStep_85 ?_
    refine V.if_ne (tgt := 93) dX12_canStep_86 rfl (fun c => ?_) (fun c => ?_)
    · replace hF := (if_neg c).symm.trans hF
      refine V.iconst (v := 0) dX12_canStep_93 rfl ?_
      cases hF
      exact V.bret dX12_canStep_94
    · replace hF := (if_pos c).symm.trans hF
      refine V.iconst (v := 1) dX12_canStep_89 rfl ?_
      refine V.goto (tgt := 94) dX12_canStep_90 rfl ?_
      cases hF
      exact V.bret dX12_canStep_94
  replace hF := (if_neg c2).symm.trans hF
  by_cases c3 : (h.1 262 x2.toNatClampNeg) = 3
  · replace hF := (if_pos c3).symm.trans hF
    refine V.tswIn (tgt := 95) c3 dX12_canStep_6 (by decide) (by decide) rfl rfl ?_
    refine V.aload_n 1 dX12_canStep_95 rfl rfl ?_
    refine V.bipush (v := 29) dX12_canStep_96 (by decide) ?_
    obtain ⟨hk, hF⟩ := ck hF
    refine V.iald ha1 hk dX12_canStep_98 ?_
    refine V.sipush (v := 9999) dX12_canStep_99 (by decide) ?_
    refine V.icmp_ge (tgt := 109) dX12_canStep_102 rfl (fun c => ?_) (fun c => ?_)
    · replace hF := (if_pos c).symm.trans hF
      refine V.iconst (v := 0) dX12_canStep_109 rfl ?_
      cases hF
      exact V.bret dX12_canStep_110
    · replace hF := (if_neg c).symm.trans hF
      refine V.iconst (v := 1) dX12_canStep_105 rfl ?_
      refine V.goto (tgt := 110) dX12_canStep_106 rfl ?_
      cases hF
      exact V.bret dX12_canStep_110
  replace hF := (if_neg c3).symm.trans hF
  refine V.tswOut (tgt := 111) dX12_canStep_6 (tsw_out (by decide) (by decide) [0, 1, 2, 3] rfl (fun v hv => ?_)) rfl ?_
  · simp only [List.mem_cons, List.not_mem_nil, or_false] at hv
    rcases hv with rfl | rfl | rfl | rfl <;> assumption
  refine V.aload_n 0 dX12_canStep_111 rfl rfl ?_
  refine V.aload_n 1 dX12_canStep_112 rfl rfl ?_
  refine V.aload_n 0 dX12_canStep_113 rfl rfl ?_
  refine V.getR (v := 262) fl_X12_55 sh_251 rfl fx_251_24 (by decide) dX12_canStep_114 ?_
  refine V.iload_n 2 dX12_canStep_117 rfl rfl ?_
  refine V.iconst (v := 1) dX12_canStep_118 rfl ?_
  refine V.iadd dX12_canStep_119 ?_
  obtain ⟨hk, hF⟩ := ck hF
  refine V.iald io_262 hk dX12_canStep_120 ?_
  obtain ⟨r11, hc12, hF⟩ := bp_s hF
  refine V.callVi mf_X12_canGo ml_X12_373 sh_251 (s_X12_canGo ha1 hc12) (by decide) rfl rfl (Nat.le_of_ble_eq_true rfl) dX12_canStep_121 ?_
  cases hF
  exact V.bret dX12_canStep_124
