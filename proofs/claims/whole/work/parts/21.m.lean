/-! MonsterCotModel.milk -/
theorem dX12_milk_0 : decode cX12_milk 0 = .ok (.aload_n 0, 1) := by decide +kernel
theorem dX12_milk_1 : decode cX12_milk 1 = .ok (.iconst 0, 1) := by decide +kernel
theorem dX12_milk_2 : decode cX12_milk 2 = .ok (.putfield 93, 3) := by decide +kernel
theorem dX12_milk_5 : decode cX12_milk 5 = .ok (.aload_n 0, 1) := by decide +kernel
theorem dX12_milk_6 : decode cX12_milk 6 = .ok (.getfield 291, 3) := by decide +kernel
theorem dX12_milk_9 : decode cX12_milk 9 = .ok (.ifCond .eq 14, 3) := by decide +kernel
theorem dX12_milk_12 : decode cX12_milk 12 = .ok (.aload_n 0, 1) := by decide +kernel
theorem dX12_milk_13 : decode cX12_milk 13 = .ok (.getfield 61, 3) := by decide +kernel
theorem dX12_milk_16 : decode cX12_milk 16 = .ok (.bipush 25, 2) := by decide +kernel
theorem dX12_milk_18 : decode cX12_milk 18 = .ok (.iaload, 1) := by decide +kernel
theorem dX12_milk_19 : decode cX12_milk 19 = .ok (.iconst 1, 1) := by decide +kernel
theorem dX12_milk_20 : decode cX12_milk 20 = .ok (.if_icmp .ne 5, 3) := by decide +kernel
theorem dX12_milk_23 : decode cX12_milk 23 = .ok (.iconst (-1), 1) := by decide +kernel
theorem dX12_milk_24 : decode cX12_milk 24 = .ok (.ireturn, 1) := by decide +kernel
theorem dX12_milk_25 : decode cX12_milk 25 = .ok (.aload_n 0, 1) := by decide +kernel
theorem dX12_milk_26 : decode cX12_milk 26 = .ok (.invokevirtual 362, 3) := by decide +kernel
theorem dX12_milk_29 : decode cX12_milk 29 = .ok (.aload_n 0, 1) := by decide +kernel
theorem dX12_milk_30 : decode cX12_milk 30 = .ok (.getfield 61, 3) := by decide +kernel
theorem dX12_milk_33 : decode cX12_milk 33 = .ok (.invokestatic 369, 3) := by decide +kernel
theorem dX12_milk_36 : decode cX12_milk 36 = .ok (.aload_n 0, 1) := by decide +kernel
theorem dX12_milk_37 : decode cX12_milk 37 = .ok (.getfield 61, 3) := by decide +kernel
theorem dX12_milk_40 : decode cX12_milk 40 = .ok (.bipush 22, 2) := by decide +kernel
theorem dX12_milk_42 : decode cX12_milk 42 = .ok (.iaload, 1) := by decide +kernel
theorem dX12_milk_43 : decode cX12_milk 43 = .ok (.ireturn, 1) := by decide +kernel
def X12_milk (n : Nat) (h : Mm) : Option (Int32 × Mm) := (if ((wI h 251 0 (0 : Int32)).1 251 27) = 0 then (some ((-1 : Int32), (wI h 251 0 (0 : Int32)))) else (if inB (25 : Int32) (aln 264) then (if ((wI h 251 0 (0 : Int32)).1 264 (25 : Int32).toNatClampNeg) = (1 : Int32) then (some ((-1 : Int32), (wI h 251 0 (0 : Int32)))) else (bd (X12_remember n (wI h 251 0 (0 : Int32))) (fun _ h9 => (bd (X12_drinks 264 h9) (fun _ h12 => (if inB (22 : Int32) (aln 264) then (some ((h12.1 264 (22 : Int32).toNatClampNeg), h12)) else none)))))) else none))
set_option maxRecDepth 100000 in
set_option maxHeartbeats 4000000 in
theorem s_X12_milk {X : WX} {o : Mm} {n : Nat} {rv : Int32} {hz : Mm} {h : Mm} (hF : X12_milk n h = some (rv, hz)) : Sat X yX12_milk cX12_milk 1 (some .int) 4 [.ref (xa X 251)] false o h (some (.int rv)) hz := by
  unfold X12_milk at hF
  refine Sat.mk (own := RX12) rfl (by decide +kernel) (Nat.le_of_ble_eq_true rfl) (fun G => ?_)
  refine V.sub (lv2 := [(0, _)]) [0] rfl ?_
  refine V.aload_n 0 dX12_milk_0 rfl rfl ?_
  refine V.iconst (v := 0) dX12_milk_1 rfl ?_
  refine V.putI fl_X12_93 rfl (tyX12_ok 0 (by decide)) rfl rfl sh_251 rfl km_251 dX12_milk_2 ?_
  refine V.aload_n 0 dX12_milk_5 rfl rfl ?_
  refine V.getI fl_X12_291 sh_251 rfl km_251 dX12_milk_6 ?_
  refine V.if_eq (tgt := 23) dX12_milk_9 rfl (fun c => ?_) (fun c => ?_)
  · replace hF := ip c hF
    refine V.iconst (v := -1) dX12_milk_23 rfl ?_
    cases hF
    exact V.iret dX12_milk_24
  · replace hF := iq c hF
    refine V.aload_n 0 dX12_milk_12 rfl rfl ?_
    refine V.getR (v := 264) fl_X12_61 sh_251 rfl fx_251_32 (by decide) dX12_milk_13 ?_
    refine V.bipush (v := 25) dX12_milk_16 (by decide) ?_
    obtain ⟨hk, hF⟩ := ck hF
    refine V.iald io_264 hk dX12_milk_18 ?_
    refine V.iconst (v := 1) dX12_milk_19 rfl ?_
    refine V.icmp_ne (tgt := 25) dX12_milk_20 rfl (fun c => ?_) (fun c => ?_)
    · replace hF := iq c hF
      refine V.aload_n 0 dX12_milk_25 rfl rfl ?_
      obtain ⟨r7, h9, hc8, hF⟩ := bd_s hF
      refine V.callVv mf_X12_remember ml_X12_362 sh_251 (s_X12_remember hc8) (by decide) rfl rfl (Nat.le_of_ble_eq_true rfl) dX12_milk_26 ?_
      refine V.aload_n 0 dX12_milk_29 rfl rfl ?_
      refine V.getR (v := 264) fl_X12_61 sh_251 rfl fx_251_32 (by decide) dX12_milk_30 ?_
      obtain ⟨r10, h12, hc11, hF⟩ := bd_s hF
      refine V.callSv mf_X12_drinks ml_X12_369 (s_X12_drinks io_264 hc11) (by decide) rfl rfl (Nat.le_of_ble_eq_true rfl) dX12_milk_33 ?_
      refine V.aload_n 0 dX12_milk_36 rfl rfl ?_
      refine V.getR (v := 264) fl_X12_61 sh_251 rfl fx_251_32 (by decide) dX12_milk_37 ?_
      refine V.bipush (v := 22) dX12_milk_40 (by decide) ?_
      obtain ⟨hk, hF⟩ := ck hF
      refine V.iald io_264 hk dX12_milk_42 ?_
      cases hF
      exact V.iret dX12_milk_43
    · replace hF := ip c hF
      refine V.iconst (v := -1) dX12_milk_23 rfl ?_
      cases hF
      exact V.iret dX12_milk_24
/-! MonsterCotModel.goes -/
theorem dX12_goes_0 : decode cX12_goes 0 = .ok (.aload_n 0, 1) := by decide +kernel
theorem dX12_goes_1 : decode cX12_goes 1 = .ok (.iconst 0, 1) := by decide +kernel
theorem dX12_goes_2 : decode cX12_goes 2 = .ok (.putfield 93, 3) := by decide +kernel
theorem dX12_goes_5 : decode cX12_goes 5 = .ok (.aload_n 0, 1) := by decide +kernel
theorem dX12_goes_6 : decode cX12_goes 6 = .ok (.aload_n 0, 1) := by decide +kernel
theorem dX12_goes_7 : decode cX12_goes 7 = .ok (.getfield 61, 3) := by decide +kernel
theorem dX12_goes_10 : decode cX12_goes 10 = .ok (.iload_n 1, 1) := by decide +kernel
theorem dX12_goes_11 : decode cX12_goes 11 = .ok (.invokevirtual 373, 3) := by decide +kernel
theorem dX12_goes_14 : decode cX12_goes 14 = .ok (.ifCond .ne 5, 3) := by decide +kernel
theorem dX12_goes_17 : decode cX12_goes 17 = .ok (.iconst (-1), 1) := by decide +kernel
theorem dX12_goes_18 : decode cX12_goes 18 = .ok (.ireturn, 1) := by decide +kernel
theorem dX12_goes_19 : decode cX12_goes 19 = .ok (.aload_n 0, 1) := by decide +kernel
theorem dX12_goes_20 : decode cX12_goes 20 = .ok (.invokevirtual 362, 3) := by decide +kernel
theorem dX12_goes_23 : decode cX12_goes 23 = .ok (.aload_n 0, 1) := by decide +kernel
theorem dX12_goes_24 : decode cX12_goes 24 = .ok (.getfield 61, 3) := by decide +kernel
theorem dX12_goes_27 : decode cX12_goes 27 = .ok (.bipush 23, 2) := by decide +kernel
theorem dX12_goes_29 : decode cX12_goes 29 = .ok (.iload_n 1, 1) := by decide +kernel
theorem dX12_goes_30 : decode cX12_goes 30 = .ok (.iastore, 1) := by decide +kernel
theorem dX12_goes_31 : decode cX12_goes 31 = .ok (.aload_n 0, 1) := by decide +kernel
theorem dX12_goes_32 : decode cX12_goes 32 = .ok (.getfield 61, 3) := by decide +kernel
theorem dX12_goes_35 : decode cX12_goes 35 = .ok (.bipush 26, 2) := by decide +kernel
theorem dX12_goes_37 : decode cX12_goes 37 = .ok (.iconst 1, 1) := by decide +kernel
theorem dX12_goes_38 : decode cX12_goes 38 = .ok (.iastore, 1) := by decide +kernel
theorem dX12_goes_39 : decode cX12_goes 39 = .ok (.iload_n 1, 1) := by decide +kernel
theorem dX12_goes_40 : decode cX12_goes 40 = .ok (.ireturn, 1) := by decide +kernel
def X12_goes (n : Nat) (x1 : Int32) (h : Mm) : Option (Int32 × Mm) := (bp (X12_canGo 264 x1 (wI h 251 0 (0 : Int32))) (fun r6 => (if r6 = true then (bd (X12_remember n (wI h 251 0 (0 : Int32))) (fun _ h10 => (if inB (23 : Int32) (aln 264) then (if inB (26 : Int32) (aln 264) then (some (x1, (wI (wI h10 264 (23 : Int32).toNatClampNeg x1) 264 (26 : Int32).toNatClampNeg (1 : Int32)))) else none) else none))) else (some ((-1 : Int32), (wI h 251 0 (0 : Int32)))))))
set_option maxRecDepth 100000 in
set_option maxHeartbeats 4000000 in
theorem s_X12_goes {X : WX} {o : Mm} {n : Nat} {x1 : Int32} {rv : Int32} {hz : Mm} {h : Mm} (hF : X12_goes n x1 h = some (rv, hz)) : Sat X yX12_goes cX12_goes 2 (some .int) 3 [.ref (xa X 251), .int x1] false o h (some (.int rv)) hz := by
  unfold X12_goes at hF
  refine Sat.mk (own := RX12) rfl (by decide +kernel) (Nat.le_of_ble_eq_true rfl) (fun G => ?_)
  refine V.sub (lv2 := [(0, _), (1, _)]) [0, 1] rfl ?_
  refine V.aload_n 0 dX12_goes_0 rfl rfl ?_
  refine V.iconst (v := 0) dX12_goes_1 rfl ?_
  refine V.putI fl_X12_93 rfl (tyX12_ok 0 (by decide)) rfl rfl sh_251 rfl km_251 dX12_goes_2 ?_
  refine V.aload_n 0 dX12_goes_5 rfl rfl ?_
  refine V.aload_n 0 dX12_goes_6 rfl rfl ?_
  refine V.getR (v := 264) fl_X12_61 sh_251 rfl fx_251_32 (by decide) dX12_goes_7 ?_
  refine V.iload_n 1 dX12_goes_10 rfl rfl ?_
  obtain ⟨r6, hc7, hF⟩ := bp_s hF
  refine V.callVi mf_X12_canGo ml_X12_373 sh_251 (s_X12_canGo io_264 hc7) (by decide) rfl rfl (Nat.le_of_ble_eq_true rfl) dX12_goes_11 ?_
  refine V.ifz_ne (tgt := 19) dX12_goes_14 rfl (fun c => ?_) (fun c => ?_)
  · replace hF := ip c hF
    refine V.aload_n 0 dX12_goes_19 rfl rfl ?_
    obtain ⟨r8, h10, hc9, hF⟩ := bd_s hF
    refine V.callVv mf_X12_remember ml_X12_362 sh_251 (s_X12_remember hc9) (by decide) rfl rfl (Nat.le_of_ble_eq_true rfl) dX12_goes_20 ?_
    refine V.aload_n 0 dX12_goes_23 rfl rfl ?_
    refine V.getR (v := 264) fl_X12_61 sh_251 rfl fx_251_32 (by decide) dX12_goes_24 ?_
    refine V.bipush (v := 23) dX12_goes_27 (by decide) ?_
    refine V.iload_n 1 dX12_goes_29 rfl rfl ?_
    obtain ⟨hk, hF⟩ := ck hF
    refine V.iast io_264 hk dX12_goes_30 ?_
    refine V.aload_n 0 dX12_goes_31 rfl rfl ?_
    refine V.getR (v := 264) fl_X12_61 sh_251 rfl fx_251_32 (by decide) dX12_goes_32 ?_
    refine V.bipush (v := 26) dX12_goes_35 (by decide) ?_
    refine V.iconst (v := 1) dX12_goes_37 rfl ?_
    obtain ⟨hk, hF⟩ := ck hF
    refine V.iast io_264 hk dX12_goes_38 ?_
    refine V.iload_n 1 dX12_goes_39 rfl rfl ?_
    cases hF
    exact V.iret dX12_goes_40
  · replace hF := iq c hF
    refine V.iconst (v := -1) dX12_goes_17 rfl ?_
    cases hF
    exact V.iret dX12_goes_18
/-! MonsterCotModel.voice -/
theorem dX12_voice_0 : decode cX12_voice 0 = .ok (.aload_n 0, 1) := by decide +kernel
theorem dX12_voice_1 : decode cX12_voice 1 = .ok (.iconst 0, 1) := by decide +kernel
theorem dX12_voice_2 : decode cX12_voice 2 = .ok (.putfield 93, 3) := by decide +kernel
theorem dX12_voice_5 : decode cX12_voice 5 = .ok (.aload_n 0, 1) := by decide +kernel
theorem dX12_voice_6 : decode cX12_voice 6 = .ok (.iload_n 1, 1) := by decide +kernel
theorem dX12_voice_7 : decode cX12_voice 7 = .ok (.invokevirtual 337, 3) := by decide +kernel
theorem dX12_voice_10 : decode cX12_voice 10 = .ok (.ifCond .eq 29, 3) := by decide +kernel
theorem dX12_voice_13 : decode cX12_voice 13 = .ok (.iload_n 2, 1) := by decide +kernel
theorem dX12_voice_14 : decode cX12_voice 14 = .ok (.i2l, 1) := by decide +kernel
theorem dX12_voice_15 : decode cX12_voice 15 = .ok (.lconst 0, 1) := by decide +kernel
theorem dX12_voice_16 : decode cX12_voice 16 = .ok (.ldc2_w 350, 3) := by decide +kernel
theorem dX12_voice_19 : decode cX12_voice 19 = .ok (.invokestatic 214, 3) := by decide +kernel
theorem dX12_voice_22 : decode cX12_voice 22 = .ok (.ifCond .eq 17, 3) := by decide +kernel
theorem dX12_voice_25 : decode cX12_voice 25 = .ok (.aload_n 0, 1) := by decide +kernel
theorem dX12_voice_26 : decode cX12_voice 26 = .ok (.getfield 61, 3) := by decide +kernel
theorem dX12_voice_29 : decode cX12_voice 29 = .ok (.iconst 3, 1) := by decide +kernel
theorem dX12_voice_30 : decode cX12_voice 30 = .ok (.iload_n 1, 1) := by decide +kernel
theorem dX12_voice_31 : decode cX12_voice 31 = .ok (.imul, 1) := by decide +kernel
theorem dX12_voice_32 : decode cX12_voice 32 = .ok (.iconst 1, 1) := by decide +kernel
theorem dX12_voice_33 : decode cX12_voice 33 = .ok (.iadd, 1) := by decide +kernel
theorem dX12_voice_34 : decode cX12_voice 34 = .ok (.iaload, 1) := by decide +kernel
theorem dX12_voice_35 : decode cX12_voice 35 = .ok (.iload_n 2, 1) := by decide +kernel
theorem dX12_voice_36 : decode cX12_voice 36 = .ok (.if_icmp .ne 5, 3) := by decide +kernel
theorem dX12_voice_39 : decode cX12_voice 39 = .ok (.iconst (-1), 1) := by decide +kernel
theorem dX12_voice_40 : decode cX12_voice 40 = .ok (.ireturn, 1) := by decide +kernel
theorem dX12_voice_41 : decode cX12_voice 41 = .ok (.aload_n 0, 1) := by decide +kernel
theorem dX12_voice_42 : decode cX12_voice 42 = .ok (.invokevirtual 362, 3) := by decide +kernel
theorem dX12_voice_45 : decode cX12_voice 45 = .ok (.aload_n 0, 1) := by decide +kernel
theorem dX12_voice_46 : decode cX12_voice 46 = .ok (.getfield 61, 3) := by decide +kernel
theorem dX12_voice_49 : decode cX12_voice 49 = .ok (.iconst 3, 1) := by decide +kernel
theorem dX12_voice_50 : decode cX12_voice 50 = .ok (.iload_n 1, 1) := by decide +kernel
theorem dX12_voice_51 : decode cX12_voice 51 = .ok (.imul, 1) := by decide +kernel
theorem dX12_voice_52 : decode cX12_voice 52 = .ok (.iconst 1, 1) := by decide +kernel
theorem dX12_voice_53 : decode cX12_voice 53 = .ok (.iadd, 1) := by decide +kernel
theorem dX12_voice_54 : decode cX12_voice 54 = .ok (.iaload, 1) := by decide +kernel
theorem dX12_voice_55 : decode cX12_voice 55 = .ok (.istore_n 3, 1) := by decide +kernel
theorem dX12_voice_56 : decode cX12_voice 56 = .ok (.aload_n 0, 1) := by decide +kernel
theorem dX12_voice_57 : decode cX12_voice 57 = .ok (.getfield 61, 3) := by decide +kernel
theorem dX12_voice_60 : decode cX12_voice 60 = .ok (.iconst 3, 1) := by decide +kernel
theorem dX12_voice_61 : decode cX12_voice 61 = .ok (.iload_n 1, 1) := by decide +kernel
theorem dX12_voice_62 : decode cX12_voice 62 = .ok (.imul, 1) := by decide +kernel
theorem dX12_voice_63 : decode cX12_voice 63 = .ok (.iconst 1, 1) := by decide +kernel
theorem dX12_voice_64 : decode cX12_voice 64 = .ok (.iadd, 1) := by decide +kernel
theorem dX12_voice_65 : decode cX12_voice 65 = .ok (.iload_n 2, 1) := by decide +kernel
theorem dX12_voice_66 : decode cX12_voice 66 = .ok (.iastore, 1) := by decide +kernel
theorem dX12_voice_67 : decode cX12_voice 67 = .ok (.iload_n 3, 1) := by decide +kernel
theorem dX12_voice_68 : decode cX12_voice 68 = .ok (.ireturn, 1) := by decide +kernel
def X12_voice (n : Nat) (x1 : Int32) (x2 : Int32) (h : Mm) : Option (Int32 × Mm) := (bp (X12_isHouse x1 (wI h 251 0 (0 : Int32))) (fun r8 => (if r8 = true then (bp (X12_isIn x2.toInt64 (0 : Int64) (9 : Int64) (wI h 251 0 (0 : Int32))) (fun r10 => (if r10 = true then (if inB (((3 : Int32) * x1) + (1 : Int32)) (aln 264) then (if ((wI h 251 0 (0 : Int32)).1 264 (((3 : Int32) * x1) + (1 : Int32)).toNatClampNeg) = x2 then (some ((-1 : Int32), (wI h 251 0 (0 : Int32)))) else (bd (X12_remember n (wI h 251 0 (0 : Int32))) (fun _ h14 => (if inB (((3 : Int32) * x1) + (1 : Int32)) (aln 264) then (if inB (((3 : Int32) * x1) + (1 : Int32)) (aln 264) then (some ((h14.1 264 (((3 : Int32) * x1) + (1 : Int32)).toNatClampNeg), (wI h14 264 (((3 : Int32) * x1) + (1 : Int32)).toNatClampNeg x2))) else none) else none)))) else none) else (some ((-1 : Int32), (wI h 251 0 (0 : Int32))))))) else (some ((-1 : Int32), (wI h 251 0 (0 : Int32)))))))
set_option maxRecDepth 100000 in
set_option maxHeartbeats 4000000 in
theorem s_X12_voice {X : WX} {o : Mm} {n : Nat} {x1 : Int32} {x2 : Int32} {rv : Int32} {hz : Mm} {h : Mm} (hF : X12_voice n x1 x2 h = some (rv, hz)) : Sat X yX12_voice cX12_voice 4 (some .int) 2 [.ref (xa X 251), .int x1, .int x2] false o h (some (.int rv)) hz := by
  unfold X12_voice at hF
  refine Sat.mk (own := RX12) rfl (by decide +kernel) (Nat.le_of_ble_eq_true rfl) (fun G => ?_)
  refine V.sub (lv2 := [(0, _), (1, _), (2, _)]) [0, 1, 2] rfl ?_
  refine V.aload_n 0 dX12_voice_0 rfl rfl ?_
  refine V.iconst (v := 0) dX12_voice_1 rfl ?_
  refine V.putI fl_X12_93 rfl (tyX12_ok 0 (by decide)) rfl rfl sh_251 rfl km_251 dX12_voice_2 ?_
  refine V.aload_n 0 dX12_voice_5 rfl rfl ?_
  refine V.iload_n 1 dX12_voice_6 rfl rfl ?_
  obtain ⟨r8, hc9, hF⟩ := bp_s hF
  refine V.callVi mf_X12_isHouse ml_X12_337 sh_251 (s_X12_isHouse hc9) (by decide) rfl rfl (Nat.le_of_ble_eq_true rfl) dX12_voice_7 ?_
  refine V.ifz_eq (tgt := 39) dX12_voice_10 rfl (fun c => ?_) (fun c => ?_)
  · replace hF := iq c hF
    refine V.iconst (v := -1) dX12_voice_39 rfl ?_
    cases hF
    exact V.iret dX12_voice_40
  · replace hF := ip c hF
    refine V.iload_n 2 dX12_voice_13 rfl rfl ?_
    refine V.i2l dX12_voice_14 ?_
    refine V.lconst (v := 0) dX12_voice_15 rfl ?_
    refine V.ldc2 (v := 9) dX12_voice_16 kc_X12_350 ?_
    obtain ⟨r10, hc11, hF⟩ := bp_s hF
    refine V.callSi mf_X12_isIn ml_X12_214 (s_X12_isIn hc11) (by decide) rfl rfl (Nat.le_of_ble_eq_true rfl) dX12_voice_19 ?_
    refine V.ifz_eq (tgt := 39) dX12_voice_22 rfl (fun c => ?_) (fun c => ?_)
    · replace hF := iq c hF
      refine V.iconst (v := -1) dX12_voice_39 rfl ?_
      cases hF
      exact V.iret dX12_voice_40
    · replace hF := ip c hF
      refine V.aload_n 0 dX12_voice_25 rfl rfl ?_
      refine V.getR (v := 264) fl_X12_61 sh_251 rfl fx_251_32 (by decide) dX12_voice_26 ?_
      refine V.iconst (v := 3) dX12_voice_29 rfl ?_
      refine V.iload_n 1 dX12_voice_30 rfl rfl ?_
      refine V.imul dX12_voice_31 ?_
      refine V.iconst (v := 1) dX12_voice_32 rfl ?_
      refine V.iadd dX12_voice_33 ?_
      obtain ⟨hk, hF⟩ := ck hF
      refine V.iald io_264 hk dX12_voice_34 ?_
      refine V.iload_n 2 dX12_voice_35 rfl rfl ?_
      refine V.icmp_ne (tgt := 41) dX12_voice_36 rfl (fun c => ?_) (fun c => ?_)
      · replace hF := iq c hF
        refine V.aload_n 0 dX12_voice_41 rfl rfl ?_
        obtain ⟨r12, h14, hc13, hF⟩ := bd_s hF
        refine V.callVv mf_X12_remember ml_X12_362 sh_251 (s_X12_remember hc13) (by decide) rfl rfl (Nat.le_of_ble_eq_true rfl) dX12_voice_42 ?_
        refine V.aload_n 0 dX12_voice_45 rfl rfl ?_
        refine V.getR (v := 264) fl_X12_61 sh_251 rfl fx_251_32 (by decide) dX12_voice_46 ?_
        refine V.iconst (v := 3) dX12_voice_49 rfl ?_
        refine V.iload_n 1 dX12_voice_50 rfl rfl ?_
        refine V.imul dX12_voice_51 ?_
        refine V.iconst (v := 1) dX12_voice_52 rfl ?_
        refine V.iadd dX12_voice_53 ?_
        obtain ⟨hk, hF⟩ := ck hF
        refine V.iald io_264 hk dX12_voice_54 ?_
        refine V.istore_n [(3, _), (0, _), (1, _), (2, _)] dX12_voice_55 rfl (by decide) rfl ?_
        refine V.aload_n 1 dX12_voice_56 rfl rfl ?_
        refine V.getR (v := 264) fl_X12_61 sh_251 rfl fx_251_32 (by decide) dX12_voice_57 ?_
        refine V.iconst (v := 3) dX12_voice_60 rfl ?_
        refine V.iload_n 2 dX12_voice_61 rfl rfl ?_
        refine V.imul dX12_voice_62 ?_
        refine V.iconst (v := 1) dX12_voice_63 rfl ?_
        refine V.iadd dX12_voice_64 ?_
        refine V.iload_n 3 dX12_voice_65 rfl rfl ?_
        obtain ⟨hk, hF⟩ := ck hF
        refine V.iast io_264 hk dX12_voice_66 ?_
        refine V.iload_n 0 dX12_voice_67 rfl rfl ?_
        cases hF
        exact V.iret dX12_voice_68
      · replace hF := ip c hF
        refine V.iconst (v := -1) dX12_voice_39 rfl ?_
        cases hF
        exact V.iret dX12_voice_40
/-! MonsterCotModel.night -/
theorem dX12_night_0 : decode cX12_night 0 = .ok (.aload_n 0, 1) := by decide +kernel
theorem dX12_night_1 : decode cX12_night 1 = .ok (.iconst 0, 1) := by decide +kernel
theorem dX12_night_2 : decode cX12_night 2 = .ok (.putfield 93, 3) := by decide +kernel
theorem dX12_night_5 : decode cX12_night 5 = .ok (.aload_n 0, 1) := by decide +kernel
theorem dX12_night_6 : decode cX12_night 6 = .ok (.getfield 291, 3) := by decide +kernel
theorem dX12_night_9 : decode cX12_night 9 = .ok (.ifCond .eq 16, 3) := by decide +kernel
theorem dX12_night_12 : decode cX12_night 12 = .ok (.aload_n 0, 1) := by decide +kernel
theorem dX12_night_13 : decode cX12_night 13 = .ok (.getfield 61, 3) := by decide +kernel
theorem dX12_night_16 : decode cX12_night 16 = .ok (.bipush 29, 2) := by decide +kernel
theorem dX12_night_18 : decode cX12_night 18 = .ok (.iaload, 1) := by decide +kernel
theorem dX12_night_19 : decode cX12_night 19 = .ok (.sipush 9999, 3) := by decide +kernel
theorem dX12_night_22 : decode cX12_night 22 = .ok (.if_icmp .ne 5, 3) := by decide +kernel
theorem dX12_night_25 : decode cX12_night 25 = .ok (.iconst (-1), 1) := by decide +kernel
theorem dX12_night_26 : decode cX12_night 26 = .ok (.ireturn, 1) := by decide +kernel
theorem dX12_night_27 : decode cX12_night 27 = .ok (.aload_n 0, 1) := by decide +kernel
theorem dX12_night_28 : decode cX12_night 28 = .ok (.invokevirtual 362, 3) := by decide +kernel
theorem dX12_night_31 : decode cX12_night 31 = .ok (.aload_n 0, 1) := by decide +kernel
theorem dX12_night_32 : decode cX12_night 32 = .ok (.aload_n 0, 1) := by decide +kernel
theorem dX12_night_33 : decode cX12_night 33 = .ok (.getfield 61, 3) := by decide +kernel
theorem dX12_night_36 : decode cX12_night 36 = .ok (.invokevirtual 377, 3) := by decide +kernel
theorem dX12_night_39 : decode cX12_night 39 = .ok (.ireturn, 1) := by decide +kernel
def X12_night (n : Nat) (h : Mm) : Option (Int32 × Mm) := (if ((wI h 251 0 (0 : Int32)).1 251 27) = 0 then (some ((-1 : Int32), (wI h 251 0 (0 : Int32)))) else (if inB (29 : Int32) (aln 264) then (if ((wI h 251 0 (0 : Int32)).1 264 (29 : Int32).toNatClampNeg) = (9999 : Int32) then (some ((-1 : Int32), (wI h 251 0 (0 : Int32)))) else (bd (X12_remember n (wI h 251 0 (0 : Int32))) (fun _ h9 => (bd (X12_goNight n 264 h9) (fun r10 h12 => (some (r10, h12))))))) else none))
set_option maxRecDepth 100000 in
set_option maxHeartbeats 4000000 in
theorem s_X12_night {X : WX} {o : Mm} {n : Nat} {rv : Int32} {hz : Mm} {h : Mm} (hF : X12_night n h = some (rv, hz)) : Sat X yX12_night cX12_night 1 (some .int) 4 [.ref (xa X 251)] false o h (some (.int rv)) hz := by
  unfold X12_night at hF
  refine Sat.mk (own := RX12) rfl (by decide +kernel) (Nat.le_of_ble_eq_true rfl) (fun G => ?_)
  refine V.sub (lv2 := [(0, _)]) [0] rfl ?_
  refine V.aload_n 0 dX12_night_0 rfl rfl ?_
  refine V.iconst (v := 0) dX12_night_1 rfl ?_
  refine V.putI fl_X12_93 rfl (tyX12_ok 0 (by decide)) rfl rfl sh_251 rfl km_251 dX12_night_2 ?_
  refine V.aload_n 0 dX12_night_5 rfl rfl ?_
  refine V.getI fl_X12_291 sh_251 rfl km_251 dX12_night_6 ?_
  refine V.if_eq (tgt := 25) dX12_night_9 rfl (fun c => ?_) (fun c => ?_)
  · replace hF := ip c hF
    refine V.iconst (v := -1) dX12_night_25 rfl ?_
    cases hF
    exact V.iret dX12_night_26
  · replace hF := iq c hF
    refine V.aload_n 0 dX12_night_12 rfl rfl ?_
    refine V.getR (v := 264) fl_X12_61 sh_251 rfl fx_251_32 (by decide) dX12_night_13 ?_
    refine V.bipush (v := 29) dX12_night_16 (by decide) ?_
    obtain ⟨hk, hF⟩ := ck hF
    refine V.iald io_264 hk dX12_night_18 ?_
    refine V.sipush (v := 9999) dX12_night_19 (by decide) ?_
    refine V.icmp_ne (tgt := 27) dX12_night_22 rfl (fun c => ?_) (fun c => ?_)
    · replace hF := iq c hF
      refine V.aload_n 0 dX12_night_27 rfl rfl ?_
      obtain ⟨r7, h9, hc8, hF⟩ := bd_s hF
      refine V.callVv mf_X12_remember ml_X12_362 sh_251 (s_X12_remember hc8) (by decide) rfl rfl (Nat.le_of_ble_eq_true rfl) dX12_night_28 ?_
      refine V.aload_n 0 dX12_night_31 rfl rfl ?_
      refine V.aload_n 0 dX12_night_32 rfl rfl ?_
      refine V.getR (v := 264) fl_X12_61 sh_251 rfl fx_251_32 (by decide) dX12_night_33 ?_
      obtain ⟨r10, h12, hc11, hF⟩ := bd_s hF
      refine V.callVi mf_X12_goNight ml_X12_377 sh_251 (s_X12_goNight io_264 hc11) (by decide) rfl rfl (Nat.le_of_ble_eq_true rfl) dX12_night_36 ?_
      cases hF
      exact V.iret dX12_night_39
    · replace hF := ip c hF
      refine V.iconst (v := -1) dX12_night_25 rfl ?_
      cases hF
      exact V.iret dX12_night_26
/-! MonsterCotModel.draw -/
theorem dX12_draw_0 : decode cX12_draw 0 = .ok (.aload_n 0, 1) := by decide +kernel
theorem dX12_draw_1 : decode cX12_draw 1 = .ok (.aload_n 0, 1) := by decide +kernel
theorem dX12_draw_2 : decode cX12_draw 2 = .ok (.getfield 381, 3) := by decide +kernel
theorem dX12_draw_5 : decode cX12_draw 5 = .ok (.ldc2_w 385, 3) := by decide +kernel
theorem dX12_draw_8 : decode cX12_draw 8 = .ok (.lmul, 1) := by decide +kernel
theorem dX12_draw_9 : decode cX12_draw 9 = .ok (.ldc2_w 387, 3) := by decide +kernel
theorem dX12_draw_12 : decode cX12_draw 12 = .ok (.ladd, 1) := by decide +kernel
theorem dX12_draw_13 : decode cX12_draw 13 = .ok (.putfield 381, 3) := by decide +kernel
theorem dX12_draw_16 : decode cX12_draw 16 = .ok (.aload_n 0, 1) := by decide +kernel
theorem dX12_draw_17 : decode cX12_draw 17 = .ok (.getfield 381, 3) := by decide +kernel
theorem dX12_draw_20 : decode cX12_draw 20 = .ok (.bipush 33, 2) := by decide +kernel
theorem dX12_draw_22 : decode cX12_draw 22 = .ok (.lushr, 1) := by decide +kernel
theorem dX12_draw_23 : decode cX12_draw 23 = .ok (.iload_n 1, 1) := by decide +kernel
theorem dX12_draw_24 : decode cX12_draw 24 = .ok (.i2l, 1) := by decide +kernel
theorem dX12_draw_25 : decode cX12_draw 25 = .ok (.lrem, 1) := by decide +kernel
theorem dX12_draw_26 : decode cX12_draw 26 = .ok (.l2i, 1) := by decide +kernel
theorem dX12_draw_27 : decode cX12_draw 27 = .ok (.ireturn, 1) := by decide +kernel
def X12_draw (x1 : Int32) (h : Mm) : Option (Int32 × Mm) := (if ¬ x1.toInt64 = 0 then (some ((((((wL h 251 40 (((h.2 251 40) * (6364136223846793005 : Int64)) + (1442695040888963407 : Int64))).2 251 40).toUInt64 >>> ((33 : Int32).toInt64.toUInt64 &&& Int64.toUInt64 63)).toInt64) - ((((wL h 251 40 (((h.2 251 40) * (6364136223846793005 : Int64)) + (1442695040888963407 : Int64))).2 251 40).toUInt64 >>> ((33 : Int32).toInt64.toUInt64 &&& Int64.toUInt64 63)).toInt64) / x1.toInt64 * x1.toInt64).toInt32, (wL h 251 40 (((h.2 251 40) * (6364136223846793005 : Int64)) + (1442695040888963407 : Int64))))) else none)
set_option maxRecDepth 100000 in
set_option maxHeartbeats 4000000 in
theorem s_X12_draw {X : WX} {o : Mm} {x1 : Int32} {rv : Int32} {hz : Mm} {h : Mm} (hF : X12_draw x1 h = some (rv, hz)) : Sat X yX12_draw cX12_draw 2 (some .int) 1 [.ref (xa X 251), .int x1] false o h (some (.int rv)) hz := by
  unfold X12_draw at hF
  refine Sat.mk (own := RX12) rfl (by decide +kernel) (Nat.le_of_ble_eq_true rfl) (fun G => ?_)
  refine V.sub (lv2 := [(0, _), (1, _)]) [0, 1] rfl ?_
  refine V.aload_n 0 dX12_draw_0 rfl rfl ?_
  refine V.aload_n 0 dX12_draw_1 rfl rfl ?_
  refine V.getJ fl_X12_381 sh_251 rfl km_251 dX12_draw_2 ?_
  refine V.ldc2 (v := 6364136223846793005) dX12_draw_5 kc_X12_385 ?_
  refine V.lmul dX12_draw_8 ?_
  refine V.ldc2 (v := 1442695040888963407) dX12_draw_9 kc_X12_387 ?_
  refine V.ladd dX12_draw_12 ?_
  refine V.putJ fl_X12_381 rfl (tyX12_ok 40 (by decide)) sh_251 rfl km_251 dX12_draw_13 ?_
  refine V.aload_n 0 dX12_draw_16 rfl rfl ?_
  refine V.getJ fl_X12_381 sh_251 rfl km_251 dX12_draw_17 ?_
  refine V.bipush (v := 33) dX12_draw_20 (by decide) ?_
  refine V.lushr dX12_draw_22 ?_
  refine V.iload_n 1 dX12_draw_23 rfl rfl ?_
  refine V.i2l dX12_draw_24 ?_
  obtain ⟨hk, hF⟩ := ck hF
  refine V.lrem dX12_draw_25 hk ?_
  refine V.l2i dX12_draw_26 ?_
  cases hF
  exact V.iret dX12_draw_27
/-! MonsterCotModel.drawsReading -/
theorem dX12_drawsReading_0 : decode cX12_drawsReading 0 = .ok (.aload_n 0, 1) := by decide +kernel
theorem dX12_drawsReading_1 : decode cX12_drawsReading 1 = .ok (.aload_n 0, 1) := by decide +kernel
theorem dX12_drawsReading_2 : decode cX12_drawsReading 2 = .ok (.getfield 288, 3) := by decide +kernel
theorem dX12_drawsReading_5 : decode cX12_drawsReading 5 = .ok (.invokevirtual 389, 3) := by decide +kernel
theorem dX12_drawsReading_8 : decode cX12_drawsReading 8 = .ok (.istore_n 1, 1) := by decide +kernel
theorem dX12_drawsReading_9 : decode cX12_drawsReading 9 = .ok (.aload_n 0, 1) := by decide +kernel
theorem dX12_drawsReading_10 : decode cX12_drawsReading 10 = .ok (.iload_n 1, 1) := by decide +kernel
theorem dX12_drawsReading_11 : decode cX12_drawsReading 11 = .ok (.invokevirtual 322, 3) := by decide +kernel
theorem dX12_drawsReading_14 : decode cX12_drawsReading 14 = .ok (.aload_n 0, 1) := by decide +kernel
theorem dX12_drawsReading_15 : decode cX12_drawsReading 15 = .ok (.bipush 9, 2) := by decide +kernel
theorem dX12_drawsReading_17 : decode cX12_drawsReading 17 = .ok (.invokevirtual 389, 3) := by decide +kernel
theorem dX12_drawsReading_20 : decode cX12_drawsReading 20 = .ok (.iconst 1, 1) := by decide +kernel
theorem dX12_drawsReading_21 : decode cX12_drawsReading 21 = .ok (.iadd, 1) := by decide +kernel
theorem dX12_drawsReading_22 : decode cX12_drawsReading 22 = .ok (.invokestatic 315, 3) := by decide +kernel
theorem dX12_drawsReading_25 : decode cX12_drawsReading 25 = .ok (.istore_n 2, 1) := by decide +kernel
theorem dX12_drawsReading_26 : decode cX12_drawsReading 26 = .ok (.aload_n 0, 1) := by decide +kernel
theorem dX12_drawsReading_27 : decode cX12_drawsReading 27 = .ok (.aload_n 0, 1) := by decide +kernel
theorem dX12_drawsReading_28 : decode cX12_drawsReading 28 = .ok (.getfield 61, 3) := by decide +kernel
theorem dX12_drawsReading_31 : decode cX12_drawsReading 31 = .ok (.iload_n 1, 1) := by decide +kernel
theorem dX12_drawsReading_32 : decode cX12_drawsReading 32 = .ok (.iload_n 2, 1) := by decide +kernel
theorem dX12_drawsReading_33 : decode cX12_drawsReading 33 = .ok (.iconst 0, 1) := by decide +kernel
theorem dX12_drawsReading_34 : decode cX12_drawsReading 34 = .ok (.invokevirtual 359, 3) := by decide +kernel
theorem dX12_drawsReading_37 : decode cX12_drawsReading 37 = .ok (.ifCond .eq 14, 3) := by decide +kernel
theorem dX12_drawsReading_40 : decode cX12_drawsReading 40 = .ok (.aload_n 0, 1) := by decide +kernel
theorem dX12_drawsReading_41 : decode cX12_drawsReading 41 = .ok (.aload_n 0, 1) := by decide +kernel
theorem dX12_drawsReading_42 : decode cX12_drawsReading 42 = .ok (.getfield 61, 3) := by decide +kernel
theorem dX12_drawsReading_45 : decode cX12_drawsReading 45 = .ok (.iload_n 1, 1) := by decide +kernel
theorem dX12_drawsReading_46 : decode cX12_drawsReading 46 = .ok (.iload_n 2, 1) := by decide +kernel
theorem dX12_drawsReading_47 : decode cX12_drawsReading 47 = .ok (.iconst 0, 1) := by decide +kernel
theorem dX12_drawsReading_48 : decode cX12_drawsReading 48 = .ok (.invokevirtual 365, 3) := by decide +kernel
theorem dX12_drawsReading_51 : decode cX12_drawsReading 51 = .ok (.return_, 1) := by decide +kernel
def X12_drawsReading (n : Nat) (h : Mm) : Option (Unit × Mm) := (bd (X12_draw (h.1 251 26) h) (fun r16 h18 => (bp (X12_pagesOf r16 h18) (fun r19 => (bd (X12_draw (9 : Int32) h18) (fun r21 h23 => (bp (J9_min_7cf53 r19 (r21 + (1 : Int32)) h23) (fun r24 => (bp (X12_mayRead 264 r16 r24 false h23) (fun r26 => (if r26 = true then (bd (X12_reads n 264 r16 r24 false h23) (fun _ h30 => (some ((), h30)))) else (some ((), h23)))))))))))))
set_option maxRecDepth 100000 in
set_option maxHeartbeats 4000000 in
theorem s_X12_drawsReading {X : WX} {o : Mm} {n : Nat} {rv : Unit} {hz : Mm} {h : Mm} (hF : X12_drawsReading n h = some (rv, hz)) : Sat X yX12_drawsReading cX12_drawsReading 3 (none) 92 [.ref (xa X 251)] false o h none hz := by
  unfold X12_drawsReading at hF
  refine Sat.mk (own := RX12) rfl (by decide +kernel) (Nat.le_of_ble_eq_true rfl) (fun G => ?_)
  refine V.sub (lv2 := [(0, _)]) [0] rfl ?_
  refine V.aload_n 0 dX12_drawsReading_0 rfl rfl ?_
  refine V.aload_n 0 dX12_drawsReading_1 rfl rfl ?_
  refine V.getI fl_X12_288 sh_251 rfl km_251 dX12_drawsReading_2 ?_
  obtain ⟨r16, h18, hc17, hF⟩ := bd_s hF
  refine V.callVi mf_X12_draw ml_X12_389 sh_251 (s_X12_draw hc17) (by decide) rfl rfl (Nat.le_of_ble_eq_true rfl) dX12_drawsReading_5 ?_
  refine V.istore_n [(1, _), (0, _)] dX12_drawsReading_8 rfl (by decide) rfl ?_
  refine V.aload_n 1 dX12_drawsReading_9 rfl rfl ?_
  refine V.iload_n 0 dX12_drawsReading_10 rfl rfl ?_
  obtain ⟨r19, hc20, hF⟩ := bp_s hF
  refine V.callVi mf_X12_pagesOf ml_X12_322 sh_251 (s_X12_pagesOf hc20) (by decide) rfl rfl (Nat.le_of_ble_eq_true rfl) dX12_drawsReading_11 ?_
  refine V.aload_n 1 dX12_drawsReading_14 rfl rfl ?_
  refine V.bipush (v := 9) dX12_drawsReading_15 (by decide) ?_
  obtain ⟨r21, h23, hc22, hF⟩ := bd_s hF
  refine V.callVi mf_X12_draw ml_X12_389 sh_251 (s_X12_draw hc22) (by decide) rfl rfl (Nat.le_of_ble_eq_true rfl) dX12_drawsReading_17 ?_
  refine V.iconst (v := 1) dX12_drawsReading_20 rfl ?_
  refine V.iadd dX12_drawsReading_21 ?_
  obtain ⟨r24, hc25, hF⟩ := bp_s hF
  refine V.callSi mf_J9_min_7cf53 ml_X12_315 (s_J9_min_7cf53 hc25) (by decide) rfl rfl (Nat.le_of_ble_eq_true rfl) dX12_drawsReading_22 ?_
  refine V.istore_n [(2, _), (1, _), (0, _)] dX12_drawsReading_25 rfl (by decide) rfl ?_
  refine V.aload_n 2 dX12_drawsReading_26 rfl rfl ?_
  refine V.aload_n 2 dX12_drawsReading_27 rfl rfl ?_
  refine V.getR (v := 264) fl_X12_61 sh_251 rfl fx_251_32 (by decide) dX12_drawsReading_28 ?_
  refine V.iload_n 1 dX12_drawsReading_31 rfl rfl ?_
  refine V.iload_n 0 dX12_drawsReading_32 rfl rfl ?_
  refine V.iconst (v := 0) dX12_drawsReading_33 rfl ?_
  obtain ⟨r26, hc27, hF⟩ := bp_s hF
  refine V.callVi mf_X12_mayRead ml_X12_359 sh_251 (s_X12_mayRead io_264 hc27) (by decide) rfl rfl (Nat.le_of_ble_eq_true rfl) dX12_drawsReading_34 ?_
  refine V.ifz_eq (tgt := 51) dX12_drawsReading_37 rfl (fun c => ?_) (fun c => ?_)
  · replace hF := iq c hF
    cases hF
    exact V.vret dX12_drawsReading_51
  · replace hF := ip c hF
    refine V.aload_n 2 dX12_drawsReading_40 rfl rfl ?_
    refine V.aload_n 2 dX12_drawsReading_41 rfl rfl ?_
    refine V.getR (v := 264) fl_X12_61 sh_251 rfl fx_251_32 (by decide) dX12_drawsReading_42 ?_
    refine V.iload_n 1 dX12_drawsReading_45 rfl rfl ?_
    refine V.iload_n 0 dX12_drawsReading_46 rfl rfl ?_
    refine V.iconst (v := 0) dX12_drawsReading_47 rfl ?_
    obtain ⟨r28, h30, hc29, hF⟩ := bd_s hF
    refine V.callVv mf_X12_reads ml_X12_365 sh_251 (s_X12_reads io_264 hc29) (by decide) rfl rfl (Nat.le_of_ble_eq_true rfl) dX12_drawsReading_48 ?_
    cases hF
    exact V.vret dX12_drawsReading_51
/-! MonsterCotModel.years -/
theorem dX12_years_0 : decode cX12_years 0 = .ok (.aload_n 0, 1) := by decide +kernel
theorem dX12_years_1 : decode cX12_years 1 = .ok (.iconst 0, 1) := by decide +kernel
theorem dX12_years_2 : decode cX12_years 2 = .ok (.putfield 93, 3) := by decide +kernel
theorem dX12_years_5 : decode cX12_years 5 = .ok (.aload_n 0, 1) := by decide +kernel
theorem dX12_years_6 : decode cX12_years 6 = .ok (.getfield 291, 3) := by decide +kernel
theorem dX12_years_9 : decode cX12_years 9 = .ok (.ifCond .eq 30, 3) := by decide +kernel
theorem dX12_years_12 : decode cX12_years 12 = .ok (.iload_n 1, 1) := by decide +kernel
theorem dX12_years_13 : decode cX12_years 13 = .ok (.i2l, 1) := by decide +kernel
theorem dX12_years_14 : decode cX12_years 14 = .ok (.lconst 1, 1) := by decide +kernel
theorem dX12_years_15 : decode cX12_years 15 = .ok (.ldc2_w 392, 3) := by decide +kernel
theorem dX12_years_18 : decode cX12_years 18 = .ok (.invokestatic 214, 3) := by decide +kernel
theorem dX12_years_21 : decode cX12_years 21 = .ok (.ifCond .eq 18, 3) := by decide +kernel
theorem dX12_years_24 : decode cX12_years 24 = .ok (.aload_n 0, 1) := by decide +kernel
theorem dX12_years_25 : decode cX12_years 25 = .ok (.getfield 61, 3) := by decide +kernel
theorem dX12_years_28 : decode cX12_years 28 = .ok (.bipush 29, 2) := by decide +kernel
theorem dX12_years_30 : decode cX12_years 30 = .ok (.iaload, 1) := by decide +kernel
theorem dX12_years_31 : decode cX12_years 31 = .ok (.iload_n 1, 1) := by decide +kernel
theorem dX12_years_32 : decode cX12_years 32 = .ok (.iadd, 1) := by decide +kernel
theorem dX12_years_33 : decode cX12_years 33 = .ok (.sipush 9999, 3) := by decide +kernel
theorem dX12_years_36 : decode cX12_years 36 = .ok (.if_icmp .le 5, 3) := by decide +kernel
theorem dX12_years_39 : decode cX12_years 39 = .ok (.iconst (-1), 1) := by decide +kernel
theorem dX12_years_40 : decode cX12_years 40 = .ok (.ireturn, 1) := by decide +kernel
theorem dX12_years_41 : decode cX12_years 41 = .ok (.aload_n 0, 1) := by decide +kernel
theorem dX12_years_42 : decode cX12_years 42 = .ok (.lload_n 2, 1) := by decide +kernel
theorem dX12_years_43 : decode cX12_years 43 = .ok (.putfield 381, 3) := by decide +kernel
theorem dX12_years_46 : decode cX12_years 46 = .ok (.iconst 0, 1) := by decide +kernel
theorem dX12_years_47 : decode cX12_years 47 = .ok (.istore 4, 2) := by decide +kernel
theorem dX12_years_49 : decode cX12_years 49 = .ok (.iload 4, 2) := by decide +kernel
theorem dX12_years_51 : decode cX12_years 51 = .ok (.iload_n 1, 1) := by decide +kernel
theorem dX12_years_52 : decode cX12_years 52 = .ok (.if_icmp .ge 61, 3) := by decide +kernel
theorem dX12_years_55 : decode cX12_years 55 = .ok (.aload_n 0, 1) := by decide +kernel
theorem dX12_years_56 : decode cX12_years 56 = .ok (.invokevirtual 362, 3) := by decide +kernel
theorem dX12_years_59 : decode cX12_years 59 = .ok (.aload_n 0, 1) := by decide +kernel
theorem dX12_years_60 : decode cX12_years 60 = .ok (.invokevirtual 394, 3) := by decide +kernel
theorem dX12_years_63 : decode cX12_years 63 = .ok (.aload_n 0, 1) := by decide +kernel
theorem dX12_years_64 : decode cX12_years 64 = .ok (.invokevirtual 394, 3) := by decide +kernel
theorem dX12_years_67 : decode cX12_years 67 = .ok (.aload_n 0, 1) := by decide +kernel
theorem dX12_years_68 : decode cX12_years 68 = .ok (.bipush 10, 2) := by decide +kernel
theorem dX12_years_70 : decode cX12_years 70 = .ok (.invokevirtual 389, 3) := by decide +kernel
theorem dX12_years_73 : decode cX12_years 73 = .ok (.aload_n 0, 1) := by decide +kernel
theorem dX12_years_74 : decode cX12_years 74 = .ok (.getfield 352, 3) := by decide +kernel
theorem dX12_years_77 : decode cX12_years 77 = .ok (.if_icmp .ge 20, 3) := by decide +kernel
theorem dX12_years_80 : decode cX12_years 80 = .ok (.aload_n 0, 1) := by decide +kernel
theorem dX12_years_81 : decode cX12_years 81 = .ok (.getfield 61, 3) := by decide +kernel
theorem dX12_years_84 : decode cX12_years 84 = .ok (.bipush 25, 2) := by decide +kernel
theorem dX12_years_86 : decode cX12_years 86 = .ok (.iaload, 1) := by decide +kernel
theorem dX12_years_87 : decode cX12_years 87 = .ok (.ifCond .ne 10, 3) := by decide +kernel
theorem dX12_years_90 : decode cX12_years 90 = .ok (.aload_n 0, 1) := by decide +kernel
theorem dX12_years_91 : decode cX12_years 91 = .ok (.getfield 61, 3) := by decide +kernel
theorem dX12_years_94 : decode cX12_years 94 = .ok (.invokestatic 369, 3) := by decide +kernel
theorem dX12_years_97 : decode cX12_years 97 = .ok (.aload_n 0, 1) := by decide +kernel
theorem dX12_years_98 : decode cX12_years 98 = .ok (.aload_n 0, 1) := by decide +kernel
theorem dX12_years_99 : decode cX12_years 99 = .ok (.getfield 61, 3) := by decide +kernel
theorem dX12_years_102 : decode cX12_years 102 = .ok (.invokevirtual 377, 3) := by decide +kernel
theorem dX12_years_105 : decode cX12_years 105 = .ok (.istore 5, 2) := by decide +kernel
theorem dX12_years_107 : decode cX12_years 107 = .ok (.iinc 4 1, 3) := by decide +kernel
theorem dX12_years_110 : decode cX12_years 110 = .ok (.goto (-61), 3) := by decide +kernel
theorem dX12_years_113 : decode cX12_years 113 = .ok (.aload_n 0, 1) := by decide +kernel
theorem dX12_years_114 : decode cX12_years 114 = .ok (.getfield 61, 3) := by decide +kernel
theorem dX12_years_117 : decode cX12_years 117 = .ok (.bipush 29, 2) := by decide +kernel
theorem dX12_years_119 : decode cX12_years 119 = .ok (.iaload, 1) := by decide +kernel
theorem dX12_years_120 : decode cX12_years 120 = .ok (.ireturn, 1) := by decide +kernel
def X12_years_97 (n : Nat) (K49 : Int32 → Int32 → Mm → Option (Int32 × Mm)) (x1 : Int32) (x4 : Int32) (h : Mm) : Option (Int32 × Mm) := (bd (X12_goNight n 264 h) (fun r78 h80 => (K49 x1 (x4 + (1)) h80)))
set_option maxRecDepth 100000 in
set_option maxHeartbeats 4000000 in
theorem v_X12_years_97 {X : WX} {G : GX} {o : Mm} {n : Nat} {K49 : Int32 → Int32 → Mm → Option (Int32 × Mm)} {rv : Int32} {hz : Mm} (hK49 : ∀ (x1 : Int32) (x4 : Int32) (h : Mm), K49 x1 x4 h = some (rv, hz) → V X G RX12 cX12_years 6 (some .int) 93 0 0 (QR X G false o (some (.int rv)) hz) false o 49 [(0, .ref (xa X 251)), (1, .int x1), (4, .int x4)] [] h) {x1 : Int32} {x4 : Int32} {h : Mm} (hF : X12_years_97 n K49 x1 x4 h = some (rv, hz)) : V X G RX12 cX12_years 6 (some .int) 93 0 0 (QR X G false o (some (.int rv)) hz) false o 97 [(0, .ref (xa X 251)), (1, .int x1), (4, .int x4)] [] h := by
  unfold X12_years_97 at hF
  refine V.aload_n 0 dX12_years_97 rfl rfl ?_
  refine V.aload_n 0 dX12_years_98 rfl rfl ?_
  refine V.getR (v := 264) fl_X12_61 sh_251 rfl fx_251_32 (by decide) dX12_years_99 ?_
  obtain ⟨r78, h80, hc79, hF⟩ := bd_s hF
  refine V.callVi mf_X12_goNight ml_X12_377 sh_251 (s_X12_goNight io_264 hc79) (by decide) rfl rfl (Nat.le_of_ble_eq_true rfl) dX12_years_102 ?_
  refine V.istore [(5, _), (0, _), (1, _), (4, _)] dX12_years_105 (by decide) rfl ?_
  refine V.iinc (v := (x4 + (1))) 3 [(4, _), (5, _), (0, _), (1, _)] dX12_years_107 rfl rfl (by decide) rfl ?_
  refine V.goto (tgt := 49) dX12_years_110 rfl ?_
  exact V.sub [2, 3, 0] rfl (hK49 _ _ _ hF)
def X12_years_49 (n : Nat) : Nat → Int32 → Int32 → Mm → Option (Int32 × Mm)
  | 0, _, _, _ => none
  | f + 1, x1, x4, h => (if x1 ≤ x4 then (if inB (29 : Int32) (aln 264) then (some ((h.1 264 (29 : Int32).toNatClampNeg), h)) else none) else (bd (X12_remember n h) (fun _ h83 => (bd (X12_drawsReading n h83) (fun _ h86 => (bd (X12_drawsReading n h86) (fun _ h89 => (bd (X12_draw (10 : Int32) h89) (fun r90 h92 => (if (h92.1 251 35) ≤ r90 then (X12_years_97 n (X12_years_49 n f) x1 x4 h92) else (if inB (25 : Int32) (aln 264) then (if (h92.1 264 (25 : Int32).toNatClampNeg) = 0 then (bd (X12_drinks 264 h92) (fun _ h95 => (X12_years_97 n (X12_years_49 n f) x1 x4 h95))) else (X12_years_97 n (X12_years_49 n f) x1 x4 h92)) else none)))))))))))
set_option maxRecDepth 100000 in
set_option maxHeartbeats 4000000 in
theorem v_X12_years_49 {X : WX} {G : GX} {o : Mm} {n : Nat} {rv : Int32} {hz : Mm} : ∀ (f : Nat) (x1 : Int32) (x4 : Int32) (h : Mm), X12_years_49 n f x1 x4 h = some (rv, hz) → V X G RX12 cX12_years 6 (some .int) 93 0 0 (QR X G false o (some (.int rv)) hz) false o 49 [(0, .ref (xa X 251)), (1, .int x1), (4, .int x4)] [] h := by
  intro f
  induction f with
  | zero => intro x1 x4 h hF; exact nomatch (show (none : Option (Int32 × Mm)) = some (rv, hz) from hF)
  | succ f ih =>
    intro x1 x4 h hF
    unfold X12_years_49 at hF
    refine V.iload 2 dX12_years_49 rfl ?_
    refine V.iload_n 1 dX12_years_51 rfl rfl ?_
    refine V.icmp_ge (tgt := 113) dX12_years_52 rfl (fun c => ?_) (fun c => ?_)
    · replace hF := ip c hF
      refine V.aload_n 0 dX12_years_113 rfl rfl ?_
      refine V.getR (v := 264) fl_X12_61 sh_251 rfl fx_251_32 (by decide) dX12_years_114 ?_
      refine V.bipush (v := 29) dX12_years_117 (by decide) ?_
      obtain ⟨hk, hF⟩ := ck hF
      refine V.iald io_264 hk dX12_years_119 ?_
      cases hF
      exact V.iret dX12_years_120
    · replace hF := iq c hF
      refine V.aload_n 0 dX12_years_55 rfl rfl ?_
      obtain ⟨r81, h83, hc82, hF⟩ := bd_s hF
      refine V.callVv mf_X12_remember ml_X12_362 sh_251 (s_X12_remember hc82) (by decide) rfl rfl (Nat.le_of_ble_eq_true rfl) dX12_years_56 ?_
      refine V.aload_n 0 dX12_years_59 rfl rfl ?_
      obtain ⟨r84, h86, hc85, hF⟩ := bd_s hF
      refine V.callVv mf_X12_drawsReading ml_X12_394 sh_251 (s_X12_drawsReading hc85) (by decide) rfl rfl (Nat.le_of_ble_eq_true rfl) dX12_years_60 ?_
      refine V.aload_n 0 dX12_years_63 rfl rfl ?_
      obtain ⟨r87, h89, hc88, hF⟩ := bd_s hF
      refine V.callVv mf_X12_drawsReading ml_X12_394 sh_251 (s_X12_drawsReading hc88) (by decide) rfl rfl (Nat.le_of_ble_eq_true rfl) dX12_years_64 ?_
      refine V.aload_n 0 dX12_years_67 rfl rfl ?_
      refine V.bipush (v := 10) dX12_years_68 (by decide) ?_
      obtain ⟨r90, h92, hc91, hF⟩ := bd_s hF
      refine V.callVi mf_X12_draw ml_X12_389 sh_251 (s_X12_draw hc91) (by decide) rfl rfl (Nat.le_of_ble_eq_true rfl) dX12_years_70 ?_
      refine V.aload_n 0 dX12_years_73 rfl rfl ?_
      refine V.getI fl_X12_352 sh_251 rfl km_251 dX12_years_74 ?_
      refine V.icmp_ge (tgt := 97) dX12_years_77 rfl (fun c => ?_) (fun c => ?_)
      · replace hF := ip c hF
        exact (v_X12_years_97 ih hF)
      · replace hF := iq c hF
        refine V.aload_n 0 dX12_years_80 rfl rfl ?_
        refine V.getR (v := 264) fl_X12_61 sh_251 rfl fx_251_32 (by decide) dX12_years_81 ?_
        refine V.bipush (v := 25) dX12_years_84 (by decide) ?_
        obtain ⟨hk, hF⟩ := ck hF
        refine V.iald io_264 hk dX12_years_86 ?_
        refine V.if_ne (tgt := 97) dX12_years_87 rfl (fun c => ?_) (fun c => ?_)
        · replace hF := iq c hF
          exact (v_X12_years_97 ih hF)
        · replace hF := ip c hF
          refine V.aload_n 0 dX12_years_90 rfl rfl ?_
          refine V.getR (v := 264) fl_X12_61 sh_251 rfl fx_251_32 (by decide) dX12_years_91 ?_
          obtain ⟨r93, h95, hc94, hF⟩ := bd_s hF
          refine V.callSv mf_X12_drinks ml_X12_369 (s_X12_drinks io_264 hc94) (by decide) rfl rfl (Nat.le_of_ble_eq_true rfl) dX12_years_94 ?_
          exact (v_X12_years_97 ih hF)
def X12_years (n : Nat) (x1 : Int32) (x2 : Int64) (h : Mm) : Option (Int32 × Mm) := (if ((wI h 251 0 (0 : Int32)).1 251 27) = 0 then (some ((-1 : Int32), (wI h 251 0 (0 : Int32)))) else (bp (X12_isIn x1.toInt64 (1 : Int64) (30 : Int64) (wI h 251 0 (0 : Int32))) (fun r96 => (if r96 = true then (if inB (29 : Int32) (aln 264) then (if (((wI h 251 0 (0 : Int32)).1 264 (29 : Int32).toNatClampNeg) + x1) ≤ (9999 : Int32) then (X12_years_49 n n x1 (0 : Int32) (wL (wI h 251 0 (0 : Int32)) 251 40 x2)) else (some ((-1 : Int32), (wI h 251 0 (0 : Int32))))) else none) else (some ((-1 : Int32), (wI h 251 0 (0 : Int32))))))))
set_option maxRecDepth 100000 in
set_option maxHeartbeats 4000000 in
theorem s_X12_years {X : WX} {o : Mm} {n : Nat} {x1 : Int32} {x2 : Int64} {rv : Int32} {hz : Mm} {h : Mm} (hF : X12_years n x1 x2 h = some (rv, hz)) : Sat X yX12_years cX12_years 6 (some .int) 93 [.ref (xa X 251), .int x1, .long x2] false o h (some (.int rv)) hz := by
  unfold X12_years at hF
  refine Sat.mk (own := RX12) rfl (by decide +kernel) (Nat.le_of_ble_eq_true rfl) (fun G => ?_)
  refine V.sub (lv2 := [(0, _), (1, _), (2, _)]) [0, 1, 2] rfl ?_
  refine V.aload_n 0 dX12_years_0 rfl rfl ?_
  refine V.iconst (v := 0) dX12_years_1 rfl ?_
  refine V.putI fl_X12_93 rfl (tyX12_ok 0 (by decide)) rfl rfl sh_251 rfl km_251 dX12_years_2 ?_
  refine V.aload_n 0 dX12_years_5 rfl rfl ?_
  refine V.getI fl_X12_291 sh_251 rfl km_251 dX12_years_6 ?_
  refine V.if_eq (tgt := 39) dX12_years_9 rfl (fun c => ?_) (fun c => ?_)
  · replace hF := ip c hF
    refine V.iconst (v := -1) dX12_years_39 rfl ?_
    cases hF
    exact V.iret dX12_years_40
  · replace hF := iq c hF
    refine V.iload_n 1 dX12_years_12 rfl rfl ?_
    refine V.i2l dX12_years_13 ?_
    refine V.lconst (v := 1) dX12_years_14 rfl ?_
    refine V.ldc2 (v := 30) dX12_years_15 kc_X12_392 ?_
    obtain ⟨r96, hc97, hF⟩ := bp_s hF
    refine V.callSi mf_X12_isIn ml_X12_214 (s_X12_isIn hc97) (by decide) rfl rfl (Nat.le_of_ble_eq_true rfl) dX12_years_18 ?_
    refine V.ifz_eq (tgt := 39) dX12_years_21 rfl (fun c => ?_) (fun c => ?_)
    · replace hF := iq c hF
      refine V.iconst (v := -1) dX12_years_39 rfl ?_
      cases hF
      exact V.iret dX12_years_40
    · replace hF := ip c hF
      refine V.aload_n 0 dX12_years_24 rfl rfl ?_
      refine V.getR (v := 264) fl_X12_61 sh_251 rfl fx_251_32 (by decide) dX12_years_25 ?_
      refine V.bipush (v := 29) dX12_years_28 (by decide) ?_
      obtain ⟨hk, hF⟩ := ck hF
      refine V.iald io_264 hk dX12_years_30 ?_
      refine V.iload_n 1 dX12_years_31 rfl rfl ?_
      refine V.iadd dX12_years_32 ?_
      refine V.sipush (v := 9999) dX12_years_33 (by decide) ?_
      refine V.icmp_le (tgt := 41) dX12_years_36 rfl (fun c => ?_) (fun c => ?_)
      · replace hF := ip c hF
        refine V.aload_n 0 dX12_years_41 rfl rfl ?_
        refine V.lload_n 2 dX12_years_42 rfl rfl ?_
        refine V.putJ fl_X12_381 rfl (tyX12_ok 40 (by decide)) sh_251 rfl km_251 dX12_years_43 ?_
        refine V.iconst (v := 0) dX12_years_46 rfl ?_
        refine V.istore [(4, _), (0, _), (1, _), (2, _)] dX12_years_47 (by decide) rfl ?_
        exact V.sub [1, 2, 0] rfl (v_X12_years_49 n _ _ _ hF)
      · replace hF := iq c hF
        refine V.iconst (v := -1) dX12_years_39 rfl ?_
        cases hF
        exact V.iret dX12_years_40
/-! MonsterCotModel.undo -/
theorem dX12_undo_0 : decode cX12_undo 0 = .ok (.aload_n 0, 1) := by decide +kernel
theorem dX12_undo_1 : decode cX12_undo 1 = .ok (.iconst 0, 1) := by decide +kernel
theorem dX12_undo_2 : decode cX12_undo 2 = .ok (.putfield 93, 3) := by decide +kernel
theorem dX12_undo_5 : decode cX12_undo 5 = .ok (.aload_n 0, 1) := by decide +kernel
theorem dX12_undo_6 : decode cX12_undo 6 = .ok (.getfield 297, 3) := by decide +kernel
theorem dX12_undo_9 : decode cX12_undo 9 = .ok (.ifCond .ne 5, 3) := by decide +kernel
theorem dX12_undo_12 : decode cX12_undo 12 = .ok (.iconst (-1), 1) := by decide +kernel
theorem dX12_undo_13 : decode cX12_undo 13 = .ok (.ireturn, 1) := by decide +kernel
theorem dX12_undo_14 : decode cX12_undo 14 = .ok (.aload_n 0, 1) := by decide +kernel
theorem dX12_undo_15 : decode cX12_undo 15 = .ok (.dup, 1) := by decide +kernel
theorem dX12_undo_16 : decode cX12_undo 16 = .ok (.getfield 297, 3) := by decide +kernel
theorem dX12_undo_19 : decode cX12_undo 19 = .ok (.iconst 1, 1) := by decide +kernel
theorem dX12_undo_20 : decode cX12_undo 20 = .ok (.isub, 1) := by decide +kernel
theorem dX12_undo_21 : decode cX12_undo 21 = .ok (.putfield 297, 3) := by decide +kernel
theorem dX12_undo_24 : decode cX12_undo 24 = .ok (.iconst 0, 1) := by decide +kernel
theorem dX12_undo_25 : decode cX12_undo 25 = .ok (.istore_n 1, 1) := by decide +kernel
theorem dX12_undo_26 : decode cX12_undo 26 = .ok (.iload_n 1, 1) := by decide +kernel
theorem dX12_undo_27 : decode cX12_undo 27 = .ok (.sipush 211, 3) := by decide +kernel
theorem dX12_undo_30 : decode cX12_undo 30 = .ok (.if_icmp .ge 30, 3) := by decide +kernel
theorem dX12_undo_33 : decode cX12_undo 33 = .ok (.aload_n 0, 1) := by decide +kernel
theorem dX12_undo_34 : decode cX12_undo 34 = .ok (.getfield 61, 3) := by decide +kernel
theorem dX12_undo_37 : decode cX12_undo 37 = .ok (.iload_n 1, 1) := by decide +kernel
theorem dX12_undo_38 : decode cX12_undo 38 = .ok (.aload_n 0, 1) := by decide +kernel
theorem dX12_undo_39 : decode cX12_undo 39 = .ok (.getfield 78, 3) := by decide +kernel
theorem dX12_undo_42 : decode cX12_undo 42 = .ok (.sipush 211, 3) := by decide +kernel
theorem dX12_undo_45 : decode cX12_undo 45 = .ok (.aload_n 0, 1) := by decide +kernel
theorem dX12_undo_46 : decode cX12_undo 46 = .ok (.getfield 297, 3) := by decide +kernel
theorem dX12_undo_49 : decode cX12_undo 49 = .ok (.imul, 1) := by decide +kernel
theorem dX12_undo_50 : decode cX12_undo 50 = .ok (.iload_n 1, 1) := by decide +kernel
theorem dX12_undo_51 : decode cX12_undo 51 = .ok (.iadd, 1) := by decide +kernel
theorem dX12_undo_52 : decode cX12_undo 52 = .ok (.iaload, 1) := by decide +kernel
theorem dX12_undo_53 : decode cX12_undo 53 = .ok (.iastore, 1) := by decide +kernel
theorem dX12_undo_54 : decode cX12_undo 54 = .ok (.iinc 1 1, 3) := by decide +kernel
theorem dX12_undo_57 : decode cX12_undo 57 = .ok (.goto (-31), 3) := by decide +kernel
theorem dX12_undo_60 : decode cX12_undo 60 = .ok (.aload_n 0, 1) := by decide +kernel
theorem dX12_undo_61 : decode cX12_undo 61 = .ok (.getfield 297, 3) := by decide +kernel
theorem dX12_undo_64 : decode cX12_undo 64 = .ok (.ireturn, 1) := by decide +kernel
def X12_undo_26 (n : Nat) : Nat → Int32 → Mm → Option (Int32 × Mm)
  | 0, _, _ => none
  | f + 1, x1, h => (if (211 : Int32) ≤ x1 then (some ((h.1 251 39), h)) else (if inB (((211 : Int32) * (h.1 251 39)) + x1) (aln 268) then (if inB x1 (aln 264) then ((X12_undo_26 n f) (x1 + (1)) (wI h 264 x1.toNatClampNeg (h.1 268 (((211 : Int32) * (h.1 251 39)) + x1).toNatClampNeg))) else none) else none))
set_option maxRecDepth 100000 in
set_option maxHeartbeats 4000000 in
theorem v_X12_undo_26 {X : WX} {G : GX} {o : Mm} {n : Nat} {rv : Int32} {hz : Mm} : ∀ (f : Nat) (x1 : Int32) (h : Mm), X12_undo_26 n f x1 h = some (rv, hz) → V X G RX12 cX12_undo 2 (some .int) 1 0 0 (QR X G false o (some (.int rv)) hz) false o 26 [(0, .ref (xa X 251)), (1, .int x1)] [] h := by
  intro f
  induction f with
  | zero => intro x1 h hF; exact nomatch (show (none : Option (Int32 × Mm)) = some (rv, hz) from hF)
  | succ f ih =>
    intro x1 h hF
    unfold X12_undo_26 at hF
    refine V.iload_n 1 dX12_undo_26 rfl rfl ?_
    refine V.sipush (v := 211) dX12_undo_27 (by decide) ?_
    refine V.icmp_ge (tgt := 60) dX12_undo_30 rfl (fun c => ?_) (fun c => ?_)
    · replace hF := ip c hF
      refine V.aload_n 0 dX12_undo_60 rfl rfl ?_
      refine V.getI fl_X12_297 sh_251 rfl km_251 dX12_undo_61 ?_
      cases hF
      exact V.iret dX12_undo_64
    · replace hF := iq c hF
      refine V.aload_n 0 dX12_undo_33 rfl rfl ?_
      refine V.getR (v := 264) fl_X12_61 sh_251 rfl fx_251_32 (by decide) dX12_undo_34 ?_
      refine V.iload_n 1 dX12_undo_37 rfl rfl ?_
      refine V.aload_n 0 dX12_undo_38 rfl rfl ?_
      refine V.getR (v := 268) fl_X12_78 sh_251 rfl fx_251_38 (by decide) dX12_undo_39 ?_
      refine V.sipush (v := 211) dX12_undo_42 (by decide) ?_
      refine V.aload_n 0 dX12_undo_45 rfl rfl ?_
      refine V.getI fl_X12_297 sh_251 rfl km_251 dX12_undo_46 ?_
      refine V.imul dX12_undo_49 ?_
      refine V.iload_n 1 dX12_undo_50 rfl rfl ?_
      refine V.iadd dX12_undo_51 ?_
      obtain ⟨hk, hF⟩ := ck hF
      refine V.iald io_268 hk dX12_undo_52 ?_
      obtain ⟨hk, hF⟩ := ck hF
      refine V.iast io_264 hk dX12_undo_53 ?_
      refine V.iinc (v := (x1 + (1))) 1 [(1, _), (0, _)] dX12_undo_54 rfl rfl (by decide) rfl ?_
      refine V.goto (tgt := 26) dX12_undo_57 rfl ?_
      exact V.sub [1, 0] rfl (ih _ _ hF)
def X12_undo (n : Nat) (h : Mm) : Option (Int32 × Mm) := (if ((wI h 251 0 (0 : Int32)).1 251 39) = 0 then (some ((-1 : Int32), (wI h 251 0 (0 : Int32)))) else (X12_undo_26 n n (0 : Int32) (wI (wI h 251 0 (0 : Int32)) 251 39 (((wI h 251 0 (0 : Int32)).1 251 39) - (1 : Int32)))))
set_option maxRecDepth 100000 in
set_option maxHeartbeats 4000000 in
theorem s_X12_undo {X : WX} {o : Mm} {n : Nat} {rv : Int32} {hz : Mm} {h : Mm} (hF : X12_undo n h = some (rv, hz)) : Sat X yX12_undo cX12_undo 2 (some .int) 1 [.ref (xa X 251)] false o h (some (.int rv)) hz := by
  unfold X12_undo at hF
  refine Sat.mk (own := RX12) rfl (by decide +kernel) (Nat.le_of_ble_eq_true rfl) (fun G => ?_)
  refine V.sub (lv2 := [(0, _)]) [0] rfl ?_
  refine V.aload_n 0 dX12_undo_0 rfl rfl ?_
  refine V.iconst (v := 0) dX12_undo_1 rfl ?_
  refine V.putI fl_X12_93 rfl (tyX12_ok 0 (by decide)) rfl rfl sh_251 rfl km_251 dX12_undo_2 ?_
  refine V.aload_n 0 dX12_undo_5 rfl rfl ?_
  refine V.getI fl_X12_297 sh_251 rfl km_251 dX12_undo_6 ?_
  refine V.if_ne (tgt := 14) dX12_undo_9 rfl (fun c => ?_) (fun c => ?_)
  · replace hF := iq c hF
    refine V.aload_n 0 dX12_undo_14 rfl rfl ?_
    refine V.dup dX12_undo_15 rfl ?_
    refine V.getI fl_X12_297 sh_251 rfl km_251 dX12_undo_16 ?_
    refine V.iconst (v := 1) dX12_undo_19 rfl ?_
    refine V.isub dX12_undo_20 ?_
    refine V.putI fl_X12_297 rfl (tyX12_ok 39 (by decide)) rfl rfl sh_251 rfl km_251 dX12_undo_21 ?_
    refine V.iconst (v := 0) dX12_undo_24 rfl ?_
    refine V.istore_n [(1, _), (0, _)] dX12_undo_25 rfl (by decide) rfl ?_
    exact V.sub [1, 0] rfl (v_X12_undo_26 n _ _ hF)
  · replace hF := ip c hF
    refine V.iconst (v := -1) dX12_undo_12 rfl ?_
    cases hF
    exact V.iret dX12_undo_13
/-! MonsterCotModel.log -/
theorem dX12_log_0 : decode cX12_log 0 = .ok (.aload_n 0, 1) := by decide +kernel
theorem dX12_log_1 : decode cX12_log 1 = .ok (.iconst 0, 1) := by decide +kernel
theorem dX12_log_2 : decode cX12_log 2 = .ok (.putfield 93, 3) := by decide +kernel
theorem dX12_log_5 : decode cX12_log 5 = .ok (.iload_n 1, 1) := by decide +kernel
theorem dX12_log_6 : decode cX12_log 6 = .ok (.i2l, 1) := by decide +kernel
theorem dX12_log_7 : decode cX12_log 7 = .ok (.lconst 0, 1) := by decide +kernel
theorem dX12_log_8 : decode cX12_log 8 = .ok (.aload_n 0, 1) := by decide +kernel
theorem dX12_log_9 : decode cX12_log 9 = .ok (.getfield 61, 3) := by decide +kernel
theorem dX12_log_12 : decode cX12_log 12 = .ok (.bipush 30, 2) := by decide +kernel
theorem dX12_log_14 : decode cX12_log 14 = .ok (.iaload, 1) := by decide +kernel
theorem dX12_log_15 : decode cX12_log 15 = .ok (.iconst 1, 1) := by decide +kernel
theorem dX12_log_16 : decode cX12_log 16 = .ok (.isub, 1) := by decide +kernel
theorem dX12_log_17 : decode cX12_log 17 = .ok (.i2l, 1) := by decide +kernel
theorem dX12_log_18 : decode cX12_log 18 = .ok (.invokestatic 214, 3) := by decide +kernel
theorem dX12_log_21 : decode cX12_log 21 = .ok (.ifCond .eq 41, 3) := by decide +kernel
theorem dX12_log_24 : decode cX12_log 24 = .ok (.iload_n 2, 1) := by decide +kernel
theorem dX12_log_25 : decode cX12_log 25 = .ok (.i2l, 1) := by decide +kernel
theorem dX12_log_26 : decode cX12_log 26 = .ok (.lconst 0, 1) := by decide +kernel
theorem dX12_log_27 : decode cX12_log 27 = .ok (.ldc2_w 269, 3) := by decide +kernel
theorem dX12_log_30 : decode cX12_log 30 = .ok (.invokestatic 214, 3) := by decide +kernel
theorem dX12_log_33 : decode cX12_log 33 = .ok (.ifCond .eq 29, 3) := by decide +kernel
theorem dX12_log_36 : decode cX12_log 36 = .ok (.aload_n 0, 1) := by decide +kernel
theorem dX12_log_37 : decode cX12_log 37 = .ok (.getfield 61, 3) := by decide +kernel
theorem dX12_log_40 : decode cX12_log 40 = .ok (.bipush 31, 2) := by decide +kernel
theorem dX12_log_42 : decode cX12_log 42 = .ok (.iconst 3, 1) := by decide +kernel
theorem dX12_log_43 : decode cX12_log 43 = .ok (.aload_n 0, 1) := by decide +kernel
theorem dX12_log_44 : decode cX12_log 44 = .ok (.getfield 61, 3) := by decide +kernel
theorem dX12_log_47 : decode cX12_log 47 = .ok (.bipush 30, 2) := by decide +kernel
theorem dX12_log_49 : decode cX12_log 49 = .ok (.iaload, 1) := by decide +kernel
theorem dX12_log_50 : decode cX12_log 50 = .ok (.iconst 1, 1) := by decide +kernel
theorem dX12_log_51 : decode cX12_log 51 = .ok (.isub, 1) := by decide +kernel
theorem dX12_log_52 : decode cX12_log 52 = .ok (.iload_n 1, 1) := by decide +kernel
theorem dX12_log_53 : decode cX12_log 53 = .ok (.isub, 1) := by decide +kernel
theorem dX12_log_54 : decode cX12_log 54 = .ok (.imul, 1) := by decide +kernel
theorem dX12_log_55 : decode cX12_log 55 = .ok (.iadd, 1) := by decide +kernel
theorem dX12_log_56 : decode cX12_log 56 = .ok (.iload_n 2, 1) := by decide +kernel
theorem dX12_log_57 : decode cX12_log 57 = .ok (.iadd, 1) := by decide +kernel
theorem dX12_log_58 : decode cX12_log 58 = .ok (.iaload, 1) := by decide +kernel
theorem dX12_log_59 : decode cX12_log 59 = .ok (.goto 4, 3) := by decide +kernel
theorem dX12_log_62 : decode cX12_log 62 = .ok (.iconst (-1), 1) := by decide +kernel
theorem dX12_log_63 : decode cX12_log 63 = .ok (.ireturn, 1) := by decide +kernel
def X12_log (x1 : Int32) (x2 : Int32) (h : Mm) : Option (Int32 × Mm) := (if inB (30 : Int32) (aln 264) then (bp (X12_isIn x1.toInt64 (0 : Int64) ((((wI h 251 0 (0 : Int32)).1 264 (30 : Int32).toNatClampNeg) - (1 : Int32)).toInt64) (wI h 251 0 (0 : Int32))) (fun r5 => (if r5 = true then (bp (X12_isIn x2.toInt64 (0 : Int64) (2 : Int64) (wI h 251 0 (0 : Int32))) (fun r7 => (if r7 = true then (if inB (30 : Int32) (aln 264) then (if inB (((31 : Int32) + ((3 : Int32) * ((((wI h 251 0 (0 : Int32)).1 264 (30 : Int32).toNatClampNeg) - (1 : Int32)) - x1))) + x2) (aln 264) then (some (((wI h 251 0 (0 : Int32)).1 264 (((31 : Int32) + ((3 : Int32) * ((((wI h 251 0 (0 : Int32)).1 264 (30 : Int32).toNatClampNeg) - (1 : Int32)) - x1))) + x2).toNatClampNeg), (wI h 251 0 (0 : Int32)))) else none) else none) else (some ((-1 : Int32), (wI h 251 0 (0 : Int32))))))) else (some ((-1 : Int32), (wI h 251 0 (0 : Int32))))))) else none)
set_option maxRecDepth 100000 in
set_option maxHeartbeats 4000000 in
theorem s_X12_log {X : WX} {o : Mm} {x1 : Int32} {x2 : Int32} {rv : Int32} {hz : Mm} {h : Mm} (hF : X12_log x1 x2 h = some (rv, hz)) : Sat X yX12_log cX12_log 3 (some .int) 2 [.ref (xa X 251), .int x1, .int x2] false o h (some (.int rv)) hz := by
  unfold X12_log at hF
  refine Sat.mk (own := RX12) rfl (by decide +kernel) (Nat.le_of_ble_eq_true rfl) (fun G => ?_)
  refine V.sub (lv2 := [(0, _), (1, _), (2, _)]) [0, 1, 2] rfl ?_
  refine V.aload_n 0 dX12_log_0 rfl rfl ?_
  refine V.iconst (v := 0) dX12_log_1 rfl ?_
  refine V.putI fl_X12_93 rfl (tyX12_ok 0 (by decide)) rfl rfl sh_251 rfl km_251 dX12_log_2 ?_
  refine V.iload_n 1 dX12_log_5 rfl rfl ?_
  refine V.i2l dX12_log_6 ?_
  refine V.lconst (v := 0) dX12_log_7 rfl ?_
  refine V.aload_n 0 dX12_log_8 rfl rfl ?_
  refine V.getR (v := 264) fl_X12_61 sh_251 rfl fx_251_32 (by decide) dX12_log_9 ?_
  refine V.bipush (v := 30) dX12_log_12 (by decide) ?_
  obtain ⟨hk, hF⟩ := ck hF
  refine V.iald io_264 hk dX12_log_14 ?_
  refine V.iconst (v := 1) dX12_log_15 rfl ?_
  refine V.isub dX12_log_16 ?_
  refine V.i2l dX12_log_17 ?_
  obtain ⟨r5, hc6, hF⟩ := bp_s hF
  refine V.callSi mf_X12_isIn ml_X12_214 (s_X12_isIn hc6) (by decide) rfl rfl (Nat.le_of_ble_eq_true rfl) dX12_log_18 ?_
  refine V.ifz_eq (tgt := 62) dX12_log_21 rfl (fun c => ?_) (fun c => ?_)
  · replace hF := iq c hF
    refine V.iconst (v := -1) dX12_log_62 rfl ?_
    cases hF
    exact V.iret dX12_log_63
  · replace hF := ip c hF
    refine V.iload_n 2 dX12_log_24 rfl rfl ?_
    refine V.i2l dX12_log_25 ?_
    refine V.lconst (v := 0) dX12_log_26 rfl ?_
    refine V.ldc2 (v := 2) dX12_log_27 kc_X12_269 ?_
    obtain ⟨r7, hc8, hF⟩ := bp_s hF
    refine V.callSi mf_X12_isIn ml_X12_214 (s_X12_isIn hc8) (by decide) rfl rfl (Nat.le_of_ble_eq_true rfl) dX12_log_30 ?_
    refine V.ifz_eq (tgt := 62) dX12_log_33 rfl (fun c => ?_) (fun c => ?_)
    · replace hF := iq c hF
      refine V.iconst (v := -1) dX12_log_62 rfl ?_
      cases hF
      exact V.iret dX12_log_63
    · replace hF := ip c hF
      refine V.aload_n 0 dX12_log_36 rfl rfl ?_
      refine V.getR (v := 264) fl_X12_61 sh_251 rfl fx_251_32 (by decide) dX12_log_37 ?_
      refine V.bipush (v := 31) dX12_log_40 (by decide) ?_
      refine V.iconst (v := 3) dX12_log_42 rfl ?_
      refine V.aload_n 0 dX12_log_43 rfl rfl ?_
      refine V.getR (v := 264) fl_X12_61 sh_251 rfl fx_251_32 (by decide) dX12_log_44 ?_
      refine V.bipush (v := 30) dX12_log_47 (by decide) ?_
      obtain ⟨hk, hF⟩ := ck hF
      refine V.iald io_264 hk dX12_log_49 ?_
      refine V.iconst (v := 1) dX12_log_50 rfl ?_
      refine V.isub dX12_log_51 ?_
      refine V.iload_n 1 dX12_log_52 rfl rfl ?_
      refine V.isub dX12_log_53 ?_
      refine V.imul dX12_log_54 ?_
      refine V.iadd dX12_log_55 ?_
      refine V.iload_n 2 dX12_log_56 rfl rfl ?_
      refine V.iadd dX12_log_57 ?_
      obtain ⟨hk, hF⟩ := ck hF
      refine V.iald io_264 hk dX12_log_58 ?_
      refine V.goto (tgt := 63) dX12_log_59 rfl ?_
      cases hF
      exact V.iret dX12_log_63
/-! MonsterCotModel.isWeek -/
theorem dX12_isWeek_0 : decode cX12_isWeek 0 = .ok (.iload_n 1, 1) := by decide +kernel
theorem dX12_isWeek_1 : decode cX12_isWeek 1 = .ok (.ifCond .lt 15, 3) := by decide +kernel
theorem dX12_isWeek_4 : decode cX12_isWeek 4 = .ok (.iload_n 1, 1) := by decide +kernel
theorem dX12_isWeek_5 : decode cX12_isWeek 5 = .ok (.aload_n 0, 1) := by decide +kernel
theorem dX12_isWeek_6 : decode cX12_isWeek 6 = .ok (.getfield 283, 3) := by decide +kernel
theorem dX12_isWeek_9 : decode cX12_isWeek 9 = .ok (.if_icmp .ge 7, 3) := by decide +kernel
theorem dX12_isWeek_12 : decode cX12_isWeek 12 = .ok (.iconst 1, 1) := by decide +kernel
theorem dX12_isWeek_13 : decode cX12_isWeek 13 = .ok (.goto 4, 3) := by decide +kernel
theorem dX12_isWeek_16 : decode cX12_isWeek 16 = .ok (.iconst 0, 1) := by decide +kernel
theorem dX12_isWeek_17 : decode cX12_isWeek 17 = .ok (.ireturn, 1) := by decide +kernel
def X12_isWeek (x1 : Int32) (h : Mm) : Option Bool := (if x1 < 0 then (some false) else (if (h.1 251 30) ≤ x1 then (some false) else (some true)))
set_option maxRecDepth 100000 in
set_option maxHeartbeats 4000000 in
theorem s_X12_isWeek {X : WX} {o : Mm} {x1 : Int32} {rv : Bool} {h : Mm} (hF : X12_isWeek x1 h = some rv) : Sat X yX12_isWeek cX12_isWeek 2 (some .boolean) 1 [.ref (xa X 251), .int x1] false o h (some (.int (b2i rv))) h := by
  unfold X12_isWeek at hF
  refine Sat.mk (own := RX12) rfl (by decide +kernel) (Nat.le_of_ble_eq_true rfl) (fun G => ?_)
  refine V.sub (lv2 := [(0, _), (1, _)]) [0, 1] rfl ?_
  refine V.iload_n 1 dX12_isWeek_0 rfl rfl ?_
  refine V.if_lt (tgt := 16) dX12_isWeek_1 rfl (fun c => ?_) (fun c => ?_)
  · replace hF := ip c hF
    refine V.iconst (v := 0) dX12_isWeek_16 rfl ?_
    cases hF
    exact V.bret dX12_isWeek_17
  · replace hF := iq c hF
    refine V.iload_n 1 dX12_isWeek_4 rfl rfl ?_
    refine V.aload_n 0 dX12_isWeek_5 rfl rfl ?_
    refine V.getI fl_X12_283 sh_251 rfl km_251 dX12_isWeek_6 ?_
    refine V.icmp_ge (tgt := 16) dX12_isWeek_9 rfl (fun c => ?_) (fun c => ?_)
    · replace hF := ip c hF
      refine V.iconst (v := 0) dX12_isWeek_16 rfl ?_
      cases hF
      exact V.bret dX12_isWeek_17
    · replace hF := iq c hF
      refine V.iconst (v := 1) dX12_isWeek_12 rfl ?_
      refine V.goto (tgt := 17) dX12_isWeek_13 rfl ?_
      cases hF
      exact V.bret dX12_isWeek_17
/-! MonsterCotModel.step -/
theorem dX12_step_0 : decode cX12_step 0 = .ok (.aload_n 0, 1) := by decide +kernel
theorem dX12_step_1 : decode cX12_step 1 = .ok (.iconst 0, 1) := by decide +kernel
theorem dX12_step_2 : decode cX12_step 2 = .ok (.putfield 93, 3) := by decide +kernel
theorem dX12_step_5 : decode cX12_step 5 = .ok (.aload_n 0, 1) := by decide +kernel
theorem dX12_step_6 : decode cX12_step 6 = .ok (.iload_n 1, 1) := by decide +kernel
theorem dX12_step_7 : decode cX12_step 7 = .ok (.invokevirtual 397, 3) := by decide +kernel
theorem dX12_step_10 : decode cX12_step 10 = .ok (.ifCond .eq 51, 3) := by decide +kernel
theorem dX12_step_13 : decode cX12_step 13 = .ok (.iload_n 2, 1) := by decide +kernel
theorem dX12_step_14 : decode cX12_step 14 = .ok (.i2l, 1) := by decide +kernel
theorem dX12_step_15 : decode cX12_step 15 = .ok (.lconst 0, 1) := by decide +kernel
theorem dX12_step_16 : decode cX12_step 16 = .ok (.aload_n 0, 1) := by decide +kernel
theorem dX12_step_17 : decode cX12_step 17 = .ok (.getfield 58, 3) := by decide +kernel
theorem dX12_step_20 : decode cX12_step 20 = .ok (.iload_n 1, 1) := by decide +kernel
theorem dX12_step_21 : decode cX12_step 21 = .ok (.iaload, 1) := by decide +kernel
theorem dX12_step_22 : decode cX12_step 22 = .ok (.iconst 1, 1) := by decide +kernel
theorem dX12_step_23 : decode cX12_step 23 = .ok (.isub, 1) := by decide +kernel
theorem dX12_step_24 : decode cX12_step 24 = .ok (.i2l, 1) := by decide +kernel
theorem dX12_step_25 : decode cX12_step 25 = .ok (.invokestatic 214, 3) := by decide +kernel
theorem dX12_step_28 : decode cX12_step 28 = .ok (.ifCond .eq 33, 3) := by decide +kernel
theorem dX12_step_31 : decode cX12_step 31 = .ok (.iload_n 3, 1) := by decide +kernel
theorem dX12_step_32 : decode cX12_step 32 = .ok (.i2l, 1) := by decide +kernel
theorem dX12_step_33 : decode cX12_step 33 = .ok (.lconst 0, 1) := by decide +kernel
theorem dX12_step_34 : decode cX12_step 34 = .ok (.ldc2_w 269, 3) := by decide +kernel
theorem dX12_step_37 : decode cX12_step 37 = .ok (.invokestatic 214, 3) := by decide +kernel
theorem dX12_step_40 : decode cX12_step 40 = .ok (.ifCond .eq 21, 3) := by decide +kernel
theorem dX12_step_43 : decode cX12_step 43 = .ok (.aload_n 0, 1) := by decide +kernel
theorem dX12_step_44 : decode cX12_step 44 = .ok (.getfield 55, 3) := by decide +kernel
theorem dX12_step_47 : decode cX12_step 47 = .ok (.iconst 3, 1) := by decide +kernel
theorem dX12_step_48 : decode cX12_step 48 = .ok (.bipush 16, 2) := by decide +kernel
theorem dX12_step_50 : decode cX12_step 50 = .ok (.iload_n 1, 1) := by decide +kernel
theorem dX12_step_51 : decode cX12_step 51 = .ok (.imul, 1) := by decide +kernel
theorem dX12_step_52 : decode cX12_step 52 = .ok (.iload_n 2, 1) := by decide +kernel
theorem dX12_step_53 : decode cX12_step 53 = .ok (.iadd, 1) := by decide +kernel
theorem dX12_step_54 : decode cX12_step 54 = .ok (.imul, 1) := by decide +kernel
theorem dX12_step_55 : decode cX12_step 55 = .ok (.iload_n 3, 1) := by decide +kernel
theorem dX12_step_56 : decode cX12_step 56 = .ok (.iadd, 1) := by decide +kernel
theorem dX12_step_57 : decode cX12_step 57 = .ok (.iaload, 1) := by decide +kernel
theorem dX12_step_58 : decode cX12_step 58 = .ok (.goto 6, 3) := by decide +kernel
theorem dX12_step_61 : decode cX12_step 61 = .ok (.ldc_w 400, 3) := by decide +kernel
theorem dX12_step_64 : decode cX12_step 64 = .ok (.ireturn, 1) := by decide +kernel
def X12_step_61 (h : Mm) : Option (Int32 × Mm) := (some ((-1000000 : Int32), h))
set_option maxRecDepth 100000 in
set_option maxHeartbeats 4000000 in
theorem v_X12_step_61 {X : WX} {G : GX} {o : Mm} {rv : Int32} {hz : Mm} {h : Mm} (hF : X12_step_61  h = some (rv, hz)) : V X G RX12 cX12_step 4 (some .int) 2 0 0 (QR X G false o (some (.int rv)) hz) false o 61 [] [] h := by
  unfold X12_step_61 at hF
  refine V.ldcw (v := -1000000) dX12_step_61 kc_X12_400 ?_
  cases hF
  exact V.iret dX12_step_64
def X12_step (x1 : Int32) (x2 : Int32) (x3 : Int32) (h : Mm) : Option (Int32 × Mm) := (bp (X12_isWeek x1 (wI h 251 0 (0 : Int32))) (fun r13 => (if r13 = true then (if inB x1 (aln 263) then (bp (X12_isIn x2.toInt64 (0 : Int64) ((((wI h 251 0 (0 : Int32)).1 263 x1.toNatClampNeg) - (1 : Int32)).toInt64) (wI h 251 0 (0 : Int32))) (fun r15 => (if r15 = true then (bp (X12_isIn x3.toInt64 (0 : Int64) (2 : Int64) (wI h 251 0 (0 : Int32))) (fun r17 => (if r17 = true then (if inB (((3 : Int32) * (((16 : Int32) * x1) + x2)) + x3) (aln 262) then (some (((wI h 251 0 (0 : Int32)).1 262 (((3 : Int32) * (((16 : Int32) * x1) + x2)) + x3).toNatClampNeg), (wI h 251 0 (0 : Int32)))) else none) else (X12_step_61 (wI h 251 0 (0 : Int32)))))) else (X12_step_61 (wI h 251 0 (0 : Int32)))))) else none) else (X12_step_61 (wI h 251 0 (0 : Int32))))))
set_option maxRecDepth 100000 in
set_option maxHeartbeats 4000000 in
theorem s_X12_step {X : WX} {o : Mm} {x1 : Int32} {x2 : Int32} {x3 : Int32} {rv : Int32} {hz : Mm} {h : Mm} (hF : X12_step x1 x2 x3 h = some (rv, hz)) : Sat X yX12_step cX12_step 4 (some .int) 2 [.ref (xa X 251), .int x1, .int x2, .int x3] false o h (some (.int rv)) hz := by
  unfold X12_step at hF
  refine Sat.mk (own := RX12) rfl (by decide +kernel) (Nat.le_of_ble_eq_true rfl) (fun G => ?_)
  refine V.sub (lv2 := [(0, _), (1, _), (2, _), (3, _)]) [0, 1, 2, 3] rfl ?_
  refine V.aload_n 0 dX12_step_0 rfl rfl ?_
  refine V.iconst (v := 0) dX12_step_1 rfl ?_
  refine V.putI fl_X12_93 rfl (tyX12_ok 0 (by decide)) rfl rfl sh_251 rfl km_251 dX12_step_2 ?_
  refine V.aload_n 0 dX12_step_5 rfl rfl ?_
  refine V.iload_n 1 dX12_step_6 rfl rfl ?_
  obtain ⟨r13, hc14, hF⟩ := bp_s hF
  refine V.callVi mf_X12_isWeek ml_X12_397 sh_251 (s_X12_isWeek hc14) (by decide) rfl rfl (Nat.le_of_ble_eq_true rfl) dX12_step_7 ?_
  refine V.ifz_eq (tgt := 61) dX12_step_10 rfl (fun c => ?_) (fun c => ?_)
  · replace hF := iq c hF
    exact V.sub [] rfl (v_X12_step_61 hF)
  · replace hF := ip c hF
    refine V.iload_n 2 dX12_step_13 rfl rfl ?_
    refine V.i2l dX12_step_14 ?_
    refine V.lconst (v := 0) dX12_step_15 rfl ?_
    refine V.aload_n 0 dX12_step_16 rfl rfl ?_
    refine V.getR (v := 263) fl_X12_58 sh_251 rfl fx_251_25 (by decide) dX12_step_17 ?_
    refine V.iload_n 1 dX12_step_20 rfl rfl ?_
    obtain ⟨hk, hF⟩ := ck hF
    refine V.iald io_263 hk dX12_step_21 ?_
    refine V.iconst (v := 1) dX12_step_22 rfl ?_
    refine V.isub dX12_step_23 ?_
    refine V.i2l dX12_step_24 ?_
    obtain ⟨r15, hc16, hF⟩ := bp_s hF
    refine V.callSi mf_X12_isIn ml_X12_214 (s_X12_isIn hc16) (by decide) rfl rfl (Nat.le_of_ble_eq_true rfl) dX12_step_25 ?_
    refine V.ifz_eq (tgt := 61) dX12_step_28 rfl (fun c => ?_) (fun c => ?_)
    · replace hF := iq c hF
      exact V.sub [] rfl (v_X12_step_61 hF)
    · replace hF := ip c hF
      refine V.iload_n 3 dX12_step_31 rfl rfl ?_
      refine V.i2l dX12_step_32 ?_
      refine V.lconst (v := 0) dX12_step_33 rfl ?_
      refine V.ldc2 (v := 2) dX12_step_34 kc_X12_269 ?_
      obtain ⟨r17, hc18, hF⟩ := bp_s hF
      refine V.callSi mf_X12_isIn ml_X12_214 (s_X12_isIn hc18) (by decide) rfl rfl (Nat.le_of_ble_eq_true rfl) dX12_step_37 ?_
      refine V.ifz_eq (tgt := 61) dX12_step_40 rfl (fun c => ?_) (fun c => ?_)
      · replace hF := iq c hF
        exact V.sub [] rfl (v_X12_step_61 hF)
      · replace hF := ip c hF
        refine V.aload_n 0 dX12_step_43 rfl rfl ?_
        refine V.getR (v := 262) fl_X12_55 sh_251 rfl fx_251_24 (by decide) dX12_step_44 ?_
        refine V.iconst (v := 3) dX12_step_47 rfl ?_
        refine V.bipush (v := 16) dX12_step_48 (by decide) ?_
        refine V.iload_n 1 dX12_step_50 rfl rfl ?_
        refine V.imul dX12_step_51 ?_
        refine V.iload_n 2 dX12_step_52 rfl rfl ?_
        refine V.iadd dX12_step_53 ?_
        refine V.imul dX12_step_54 ?_
        refine V.iload_n 3 dX12_step_55 rfl rfl ?_
        refine V.iadd dX12_step_56 ?_
        obtain ⟨hk, hF⟩ := ck hF
        refine V.iald io_262 hk dX12_step_57 ?_
        refine V.goto (tgt := 64) dX12_step_58 rfl ?_
        cases hF
        exact V.iret dX12_step_64
/-! MonsterCotModel.canStep -/
theorem dX12_canStep_0 : decode cX12_canStep 0 = .ok (.aload_n 0, 1) := by decide +kernel
theorem dX12_canStep_1 : decode cX12_canStep 1 = .ok (.getfield 55, 3) := by decide +kernel
theorem dX12_canStep_4 : decode cX12_canStep 4 = .ok (.iload_n 2, 1) := by decide +kernel
theorem dX12_canStep_5 : decode cX12_canStep 5 = .ok (.iaload, 1) := by decide +kernel
theorem dX12_canStep_6 : decode cX12_canStep 6 = .ok (.tableswitch 105 0 3 #[30, 53, 76, 89], 30) := by decide +kernel
theorem dX12_canStep_36 : decode cX12_canStep 36 = .ok (.aload_n 0, 1) := by decide +kernel
theorem dX12_canStep_37 : decode cX12_canStep 37 = .ok (.aload_n 1, 1) := by decide +kernel
theorem dX12_canStep_38 : decode cX12_canStep 38 = .ok (.aload_n 0, 1) := by decide +kernel
theorem dX12_canStep_39 : decode cX12_canStep 39 = .ok (.getfield 55, 3) := by decide +kernel
theorem dX12_canStep_42 : decode cX12_canStep 42 = .ok (.iload_n 2, 1) := by decide +kernel
theorem dX12_canStep_43 : decode cX12_canStep 43 = .ok (.iconst 1, 1) := by decide +kernel
theorem dX12_canStep_44 : decode cX12_canStep 44 = .ok (.iadd, 1) := by decide +kernel
theorem dX12_canStep_45 : decode cX12_canStep 45 = .ok (.iaload, 1) := by decide +kernel
theorem dX12_canStep_46 : decode cX12_canStep 46 = .ok (.aload_n 0, 1) := by decide +kernel
theorem dX12_canStep_47 : decode cX12_canStep 47 = .ok (.getfield 55, 3) := by decide +kernel
theorem dX12_canStep_50 : decode cX12_canStep 50 = .ok (.iload_n 2, 1) := by decide +kernel
theorem dX12_canStep_51 : decode cX12_canStep 51 = .ok (.iconst 2, 1) := by decide +kernel
theorem dX12_canStep_52 : decode cX12_canStep 52 = .ok (.iadd, 1) := by decide +kernel
theorem dX12_canStep_53 : decode cX12_canStep 53 = .ok (.iaload, 1) := by decide +kernel
theorem dX12_canStep_54 : decode cX12_canStep 54 = .ok (.iconst 0, 1) := by decide +kernel
theorem dX12_canStep_55 : decode cX12_canStep 55 = .ok (.invokevirtual 359, 3) := by decide +kernel
theorem dX12_canStep_58 : decode cX12_canStep 58 = .ok (.ireturn, 1) := by decide +kernel
theorem dX12_canStep_59 : decode cX12_canStep 59 = .ok (.aload_n 0, 1) := by decide +kernel
theorem dX12_canStep_60 : decode cX12_canStep 60 = .ok (.aload_n 1, 1) := by decide +kernel
theorem dX12_canStep_61 : decode cX12_canStep 61 = .ok (.aload_n 0, 1) := by decide +kernel
theorem dX12_canStep_62 : decode cX12_canStep 62 = .ok (.getfield 55, 3) := by decide +kernel
theorem dX12_canStep_65 : decode cX12_canStep 65 = .ok (.iload_n 2, 1) := by decide +kernel
theorem dX12_canStep_66 : decode cX12_canStep 66 = .ok (.iconst 1, 1) := by decide +kernel
theorem dX12_canStep_67 : decode cX12_canStep 67 = .ok (.iadd, 1) := by decide +kernel
theorem dX12_canStep_68 : decode cX12_canStep 68 = .ok (.iaload, 1) := by decide +kernel
theorem dX12_canStep_69 : decode cX12_canStep 69 = .ok (.aload_n 0, 1) := by decide +kernel
theorem dX12_canStep_70 : decode cX12_canStep 70 = .ok (.getfield 55, 3) := by decide +kernel
theorem dX12_canStep_73 : decode cX12_canStep 73 = .ok (.iload_n 2, 1) := by decide +kernel
theorem dX12_canStep_74 : decode cX12_canStep 74 = .ok (.iconst 2, 1) := by decide +kernel
theorem dX12_canStep_75 : decode cX12_canStep 75 = .ok (.iadd, 1) := by decide +kernel
theorem dX12_canStep_76 : decode cX12_canStep 76 = .ok (.iaload, 1) := by decide +kernel
theorem dX12_canStep_77 : decode cX12_canStep 77 = .ok (.iconst 1, 1) := by decide +kernel
theorem dX12_canStep_78 : decode cX12_canStep 78 = .ok (.invokevirtual 359, 3) := by decide +kernel
theorem dX12_canStep_81 : decode cX12_canStep 81 = .ok (.ireturn, 1) := by decide +kernel
theorem dX12_canStep_82 : decode cX12_canStep 82 = .ok (.aload_n 1, 1) := by decide +kernel
theorem dX12_canStep_83 : decode cX12_canStep 83 = .ok (.bipush 25, 2) := by decide +kernel
theorem dX12_canStep_85 : decode cX12_canStep 85 = .ok (.iaload, 1) := by decide +kernel
theorem dX12_canStep_86 : decode cX12_canStep 86 = .ok (.ifCond .ne 7, 3) := by decide +kernel
theorem dX12_canStep_89 : decode cX12_canStep 89 = .ok (.iconst 1, 1) := by decide +kernel
theorem dX12_canStep_90 : decode cX12_canStep 90 = .ok (.goto 4, 3) := by decide +kernel
theorem dX12_canStep_93 : decode cX12_canStep 93 = .ok (.iconst 0, 1) := by decide +kernel
theorem dX12_canStep_94 : decode cX12_canStep 94 = .ok (.ireturn, 1) := by decide +kernel
theorem dX12_canStep_95 : decode cX12_canStep 95 = .ok (.aload_n 1, 1) := by decide +kernel
theorem dX12_canStep_96 : decode cX12_canStep 96 = .ok (.bipush 29, 2) := by decide +kernel
theorem dX12_canStep_98 : decode cX12_canStep 98 = .ok (.iaload, 1) := by decide +kernel
theorem dX12_canStep_99 : decode cX12_canStep 99 = .ok (.sipush 9999, 3) := by decide +kernel
theorem dX12_canStep_102 : decode cX12_canStep 102 = .ok (.if_icmp .ge 7, 3) := by decide +kernel
theorem dX12_canStep_105 : decode cX12_canStep 105 = .ok (.iconst 1, 1) := by decide +kernel
theorem dX12_canStep_106 : decode cX12_canStep 106 = .ok (.goto 4, 3) := by decide +kernel
theorem dX12_canStep_109 : decode cX12_canStep 109 = .ok (.iconst 0, 1) := by decide +kernel
theorem dX12_canStep_110 : decode cX12_canStep 110 = .ok (.ireturn, 1) := by decide +kernel
theorem dX12_canStep_111 : decode cX12_canStep 111 = .ok (.aload_n 0, 1) := by decide +kernel
theorem dX12_canStep_112 : decode cX12_canStep 112 = .ok (.aload_n 1, 1) := by decide +kernel
theorem dX12_canStep_113 : decode cX12_canStep 113 = .ok (.aload_n 0, 1) := by decide +kernel
theorem dX12_canStep_114 : decode cX12_canStep 114 = .ok (.getfield 55, 3) := by decide +kernel
theorem dX12_canStep_117 : decode cX12_canStep 117 = .ok (.iload_n 2, 1) := by decide +kernel
theorem dX12_canStep_118 : decode cX12_canStep 118 = .ok (.iconst 1, 1) := by decide +kernel
theorem dX12_canStep_119 : decode cX12_canStep 119 = .ok (.iadd, 1) := by decide +kernel
theorem dX12_canStep_120 : decode cX12_canStep 120 = .ok (.iaload, 1) := by decide +kernel
theorem dX12_canStep_121 : decode cX12_canStep 121 = .ok (.invokevirtual 373, 3) := by decide +kernel
theorem dX12_canStep_124 : decode cX12_canStep 124 = .ok (.ireturn, 1) := by decide +kernel
def X12_canStep (a1 : Nat) (x2 : Int32) (h : Mm) : Option Bool := (if inB x2 (aln 262) then (if (h.1 262 x2.toNatClampNeg) = 0 then (if inB (x2 + (1 : Int32)) (aln 262) then (if inB (x2 + (2 : Int32)) (aln 262) then (bp (X12_mayRead a1 (h.1 262 (x2 + (1 : Int32)).toNatClampNeg) (h.1 262 (x2 + (2 : Int32)).toNatClampNeg) false h) (fun r7 => (some r7))) else none) else none) else (if (h.1 262 x2.toNatClampNeg) = 1 then (if inB (x2 + (1 : Int32)) (aln 262) then (if inB (x2 + (2 : Int32)) (aln 262) then (bp (X12_mayRead a1 (h.1 262 (x2 + (1 : Int32)).toNatClampNeg) (h.1 262 (x2 + (2 : Int32)).toNatClampNeg) true h) (fun r9 => (some r9))) else none) else none) else (if (h.1 262 x2.toNatClampNeg) = 2 then (if inB (25 : Int32) (aln a1) then (if (h.1 a1 (25 : Int32).toNatClampNeg) = 0 then (some true) else (some false)) else none) else (if (h.1 262 x2.toNatClampNeg) = 3 then (if inB (29 : Int32) (aln a1) then (if (9999 : Int32) ≤ (h.1 a1 (29 : Int32).toNatClampNeg) then (some false) else (some true)) else none) else (if inB (x2 + (1 : Int32)) (aln 262) then (bp (X12_canGo a1 (h.1 262 (x2 + (1 : Int32)).toNatClampNeg) h) (fun r11 => (some r11))) else none))))) else none)
set_option maxRecDepth 100000 in
set_option maxHeartbeats 4000000 in
theorem s_X12_canStep {X : WX} {o : Mm} {a1 : Nat} {x2 : Int32} {rv : Bool} {h : Mm} (ha1 : isO false 0 a1) (hF : X12_canStep a1 x2 h = some rv) : Sat X yX12_canStep cX12_canStep 3 (some .boolean) 4 [.ref (xa X 251), .ref (xa X a1), .int x2] false o h (some (.int (b2i rv))) h := by
  unfold X12_canStep at hF
  refine Sat.mk (own := RX12) rfl (by decide +kernel) (Nat.le_of_ble_eq_true rfl) (fun G => ?_)
  refine V.sub (lv2 := [(0, _), (1, _), (2, _)]) [0, 1, 2] rfl ?_
  refine V.aload_n 0 dX12_canStep_0 rfl rfl ?_
  refine V.getR (v := 262) fl_X12_55 sh_251 rfl fx_251_24 (by decide) dX12_canStep_1 ?_
  refine V.iload_n 2 dX12_canStep_4 rfl rfl ?_
  obtain ⟨hk, hF⟩ := ck hF
  refine V.iald io_262 hk dX12_canStep_5 ?_
  by_cases c0 : (h.1 262 x2.toNatClampNeg) = 0
  · replace hF := ip c0 hF
    refine V.tswIn (tgt := 36) c0 dX12_canStep_6 (by decide) (by decide) rfl rfl ?_
    refine V.aload_n 0 dX12_canStep_36 rfl rfl ?_
    refine V.aload_n 1 dX12_canStep_37 rfl rfl ?_
    refine V.aload_n 0 dX12_canStep_38 rfl rfl ?_
    refine V.getR (v := 262) fl_X12_55 sh_251 rfl fx_251_24 (by decide) dX12_canStep_39 ?_
    refine V.iload_n 2 dX12_canStep_42 rfl rfl ?_
    refine V.iconst (v := 1) dX12_canStep_43 rfl ?_
    refine V.iadd dX12_canStep_44 ?_
    obtain ⟨hk, hF⟩ := ck hF
    refine V.iald io_262 hk dX12_canStep_45 ?_
    refine V.aload_n 0 dX12_canStep_46 rfl rfl ?_
    refine V.getR (v := 262) fl_X12_55 sh_251 rfl fx_251_24 (by decide) dX12_canStep_47 ?_
    refine V.iload_n 2 dX12_canStep_50 rfl rfl ?_
    refine V.iconst (v := 2) dX12_canStep_51 rfl ?_
    refine V.iadd dX12_canStep_52 ?_
    obtain ⟨hk, hF⟩ := ck hF
    refine V.iald io_262 hk dX12_canStep_53 ?_
    refine V.iconst (v := 0) dX12_canStep_54 rfl ?_
    obtain ⟨r7, hc8, hF⟩ := bp_s hF
    refine V.callVi mf_X12_mayRead ml_X12_359 sh_251 (s_X12_mayRead ha1 hc8) (by decide) rfl rfl (Nat.le_of_ble_eq_true rfl) dX12_canStep_55 ?_
    cases hF
    exact V.bret dX12_canStep_58
  replace hF := iq c0 hF
  by_cases c1 : (h.1 262 x2.toNatClampNeg) = 1
  · replace hF := ip c1 hF
    refine V.tswIn (tgt := 59) c1 dX12_canStep_6 (by decide) (by decide) rfl rfl ?_
    refine V.aload_n 0 dX12_canStep_59 rfl rfl ?_
    refine V.aload_n 1 dX12_canStep_60 rfl rfl ?_
    refine V.aload_n 0 dX12_canStep_61 rfl rfl ?_
    refine V.getR (v := 262) fl_X12_55 sh_251 rfl fx_251_24 (by decide) dX12_canStep_62 ?_
    refine V.iload_n 2 dX12_canStep_65 rfl rfl ?_
    refine V.iconst (v := 1) dX12_canStep_66 rfl ?_
    refine V.iadd dX12_canStep_67 ?_
    obtain ⟨hk, hF⟩ := ck hF
    refine V.iald io_262 hk dX12_canStep_68 ?_
    refine V.aload_n 0 dX12_canStep_69 rfl rfl ?_
    refine V.getR (v := 262) fl_X12_55 sh_251 rfl fx_251_24 (by decide) dX12_canStep_70 ?_
    refine V.iload_n 2 dX12_canStep_73 rfl rfl ?_
    refine V.iconst (v := 2) dX12_canStep_74 rfl ?_
    refine V.iadd dX12_canStep_75 ?_
    obtain ⟨hk, hF⟩ := ck hF
    refine V.iald io_262 hk dX12_canStep_76 ?_
    refine V.iconst (v := 1) dX12_canStep_77 rfl ?_
    obtain ⟨r9, hc10, hF⟩ := bp_s hF
    refine V.callVi mf_X12_mayRead ml_X12_359 sh_251 (s_X12_mayRead ha1 hc10) (by decide) rfl rfl (Nat.le_of_ble_eq_true rfl) dX12_canStep_78 ?_
    cases hF
    exact V.bret dX12_canStep_81
  replace hF := iq c1 hF
  by_cases c2 : (h.1 262 x2.toNatClampNeg) = 2
  · replace hF := ip c2 hF
    refine V.tswIn (tgt := 82) c2 dX12_canStep_6 (by decide) (by decide) rfl rfl ?_
    refine V.aload_n 1 dX12_canStep_82 rfl rfl ?_
    refine V.bipush (v := 25) dX12_canStep_83 (by decide) ?_
    obtain ⟨hk, hF⟩ := ck hF
    refine V.iald ha1 hk dX12_canStep_85 ?_
    refine V.if_ne (tgt := 93) dX12_canStep_86 rfl (fun c => ?_) (fun c => ?_)
    · replace hF := iq c hF
      refine V.iconst (v := 0) dX12_canStep_93 rfl ?_
      cases hF
      exact V.bret dX12_canStep_94
    · replace hF := ip c hF
      refine V.iconst (v := 1) dX12_canStep_89 rfl ?_
      refine V.goto (tgt := 94) dX12_canStep_90 rfl ?_
      cases hF
      exact V.bret dX12_canStep_94
  replace hF := iq c2 hF
  by_cases c3 : (h.1 262 x2.toNatClampNeg) = 3
  · replace hF := ip c3 hF
    refine V.tswIn (tgt := 95) c3 dX12_canStep_6 (by decide) (by decide) rfl rfl ?_
    refine V.aload_n 1 dX12_canStep_95 rfl rfl ?_
    refine V.bipush (v := 29) dX12_canStep_96 (by decide) ?_
    obtain ⟨hk, hF⟩ := ck hF
    refine V.iald ha1 hk dX12_canStep_98 ?_
    refine V.sipush (v := 9999) dX12_canStep_99 (by decide) ?_
    refine V.icmp_ge (tgt := 109) dX12_canStep_102 rfl (fun c => ?_) (fun c => ?_)
    · replace hF := ip c hF
      refine V.iconst (v := 0) dX12_canStep_109 rfl ?_
      cases hF
      exact V.bret dX12_canStep_110
    · replace hF := iq c hF
      refine V.iconst (v := 1) dX12_canStep_105 rfl ?_
      refine V.goto (tgt := 110) dX12_canStep_106 rfl ?_
      cases hF
      exact V.bret dX12_canStep_110
  replace hF := iq c3 hF
  refine V.tswOut (tgt := 111) dX12_canStep_6 (tsw_out (by decide) (by decide) [0, 1, 2, 3] rfl (fun v hv => ?_)) rfl ?_
  · simp only [List.mem_cons, List.not_mem_nil, or_false] at hv
    rcases hv with rfl | rfl | rfl | rfl <;> assumption
  refine V.aload_n 0 dX12_canStep_111 rfl rfl ?_
  refine V.aload_n 1 dX12_canStep_112 rfl rfl ?_
  refine V.aload_n 0 dX12_canStep_113 rfl rfl ?_
  refine V.getR (v := 262) fl_X12_55 sh_251 rfl fx_251_24 (by decide) dX12_canStep_114 ?_
  refine V.iload_n 2 dX12_canStep_117 rfl rfl ?_
  refine V.iconst (v := 1) dX12_canStep_118 rfl ?_
  refine V.iadd dX12_canStep_119 ?_
  obtain ⟨hk, hF⟩ := ck hF
  refine V.iald io_262 hk dX12_canStep_120 ?_
  obtain ⟨r11, hc12, hF⟩ := bp_s hF
  refine V.callVi mf_X12_canGo ml_X12_373 sh_251 (s_X12_canGo ha1 hc12) (by decide) rfl rfl (Nat.le_of_ble_eq_true rfl) dX12_canStep_121 ?_
  cases hF
  exact V.bret dX12_canStep_124
/-! MonsterCotModel.steps -/
theorem dX12_steps_0 : decode cX12_steps 0 = .ok (.aload_n 0, 1) := by decide +kernel
theorem dX12_steps_1 : decode cX12_steps 1 = .ok (.getfield 55, 3) := by decide +kernel
theorem dX12_steps_4 : decode cX12_steps 4 = .ok (.iload_n 2, 1) := by decide +kernel
theorem dX12_steps_5 : decode cX12_steps 5 = .ok (.iaload, 1) := by decide +kernel
theorem dX12_steps_6 : decode cX12_steps 6 = .ok (.tableswitch 80 0 3 #[30, 30, 68, 74], 30) := by decide +kernel
theorem dX12_steps_36 : decode cX12_steps 36 = .ok (.aload_n 0, 1) := by decide +kernel
theorem dX12_steps_37 : decode cX12_steps 37 = .ok (.aload_n 1, 1) := by decide +kernel
theorem dX12_steps_38 : decode cX12_steps 38 = .ok (.aload_n 0, 1) := by decide +kernel
theorem dX12_steps_39 : decode cX12_steps 39 = .ok (.getfield 55, 3) := by decide +kernel
theorem dX12_steps_42 : decode cX12_steps 42 = .ok (.iload_n 2, 1) := by decide +kernel
theorem dX12_steps_43 : decode cX12_steps 43 = .ok (.iconst 1, 1) := by decide +kernel
theorem dX12_steps_44 : decode cX12_steps 44 = .ok (.iadd, 1) := by decide +kernel
theorem dX12_steps_45 : decode cX12_steps 45 = .ok (.iaload, 1) := by decide +kernel
theorem dX12_steps_46 : decode cX12_steps 46 = .ok (.aload_n 0, 1) := by decide +kernel
theorem dX12_steps_47 : decode cX12_steps 47 = .ok (.getfield 55, 3) := by decide +kernel
theorem dX12_steps_50 : decode cX12_steps 50 = .ok (.iload_n 2, 1) := by decide +kernel
theorem dX12_steps_51 : decode cX12_steps 51 = .ok (.iconst 2, 1) := by decide +kernel
theorem dX12_steps_52 : decode cX12_steps 52 = .ok (.iadd, 1) := by decide +kernel
theorem dX12_steps_53 : decode cX12_steps 53 = .ok (.iaload, 1) := by decide +kernel
theorem dX12_steps_54 : decode cX12_steps 54 = .ok (.aload_n 0, 1) := by decide +kernel
theorem dX12_steps_55 : decode cX12_steps 55 = .ok (.getfield 55, 3) := by decide +kernel
theorem dX12_steps_58 : decode cX12_steps 58 = .ok (.iload_n 2, 1) := by decide +kernel
theorem dX12_steps_59 : decode cX12_steps 59 = .ok (.iaload, 1) := by decide +kernel
theorem dX12_steps_60 : decode cX12_steps 60 = .ok (.iconst 1, 1) := by decide +kernel
theorem dX12_steps_61 : decode cX12_steps 61 = .ok (.if_icmp .ne 7, 3) := by decide +kernel
theorem dX12_steps_64 : decode cX12_steps 64 = .ok (.iconst 1, 1) := by decide +kernel
theorem dX12_steps_65 : decode cX12_steps 65 = .ok (.goto 4, 3) := by decide +kernel
theorem dX12_steps_68 : decode cX12_steps 68 = .ok (.iconst 0, 1) := by decide +kernel
theorem dX12_steps_69 : decode cX12_steps 69 = .ok (.invokevirtual 365, 3) := by decide +kernel
theorem dX12_steps_72 : decode cX12_steps 72 = .ok (.iconst 0, 1) := by decide +kernel
theorem dX12_steps_73 : decode cX12_steps 73 = .ok (.ireturn, 1) := by decide +kernel
theorem dX12_steps_74 : decode cX12_steps 74 = .ok (.aload_n 1, 1) := by decide +kernel
theorem dX12_steps_75 : decode cX12_steps 75 = .ok (.invokestatic 369, 3) := by decide +kernel
theorem dX12_steps_78 : decode cX12_steps 78 = .ok (.iconst 0, 1) := by decide +kernel
theorem dX12_steps_79 : decode cX12_steps 79 = .ok (.ireturn, 1) := by decide +kernel
theorem dX12_steps_80 : decode cX12_steps 80 = .ok (.aload_n 0, 1) := by decide +kernel
theorem dX12_steps_81 : decode cX12_steps 81 = .ok (.aload_n 1, 1) := by decide +kernel
theorem dX12_steps_82 : decode cX12_steps 82 = .ok (.invokevirtual 377, 3) := by decide +kernel
theorem dX12_steps_85 : decode cX12_steps 85 = .ok (.ireturn, 1) := by decide +kernel
theorem dX12_steps_86 : decode cX12_steps 86 = .ok (.aload_n 1, 1) := by decide +kernel
theorem dX12_steps_87 : decode cX12_steps 87 = .ok (.bipush 23, 2) := by decide +kernel
theorem dX12_steps_89 : decode cX12_steps 89 = .ok (.aload_n 0, 1) := by decide +kernel
theorem dX12_steps_90 : decode cX12_steps 90 = .ok (.getfield 55, 3) := by decide +kernel
theorem dX12_steps_93 : decode cX12_steps 93 = .ok (.iload_n 2, 1) := by decide +kernel
theorem dX12_steps_94 : decode cX12_steps 94 = .ok (.iconst 1, 1) := by decide +kernel
theorem dX12_steps_95 : decode cX12_steps 95 = .ok (.iadd, 1) := by decide +kernel
theorem dX12_steps_96 : decode cX12_steps 96 = .ok (.iaload, 1) := by decide +kernel
theorem dX12_steps_97 : decode cX12_steps 97 = .ok (.iastore, 1) := by decide +kernel
theorem dX12_steps_98 : decode cX12_steps 98 = .ok (.aload_n 1, 1) := by decide +kernel
theorem dX12_steps_99 : decode cX12_steps 99 = .ok (.bipush 26, 2) := by decide +kernel
theorem dX12_steps_101 : decode cX12_steps 101 = .ok (.iconst 1, 1) := by decide +kernel
theorem dX12_steps_102 : decode cX12_steps 102 = .ok (.iastore, 1) := by decide +kernel
theorem dX12_steps_103 : decode cX12_steps 103 = .ok (.iconst 0, 1) := by decide +kernel
theorem dX12_steps_104 : decode cX12_steps 104 = .ok (.ireturn, 1) := by decide +kernel
def X12_steps_69 (n : Nat) (a1 : Nat) (s2 : Int32) (s3 : Int32) (s4 : Bool) (h : Mm) : Option (Int32 × Mm) := (bd (X12_reads n a1 s2 s3 s4 h) (fun _ h18 => (some ((0 : Int32), h18))))
set_option maxRecDepth 100000 in
set_option maxHeartbeats 4000000 in
theorem v_X12_steps_69 {X : WX} {G : GX} {o : Mm} {n : Nat} {a1 : Nat} {rv : Int32} {hz : Mm} (ha1 : isO false 0 a1) {s2 : Int32} {s3 : Int32} {s4 : Bool} {h : Mm} (hF : X12_steps_69 n a1 s2 s3 s4 h = some (rv, hz)) : V X G RX12 cX12_steps 3 (some .int) 92 0 0 (QR X G false o (some (.int rv)) hz) false o 69 [] [.int (b2i s4), .int s3, .int s2, .ref (xa X a1), .ref (xa X 251)] h := by
  unfold X12_steps_69 at hF
  obtain ⟨r16, h18, hc17, hF⟩ := bd_s hF
  refine V.callVv mf_X12_reads ml_X12_365 sh_251 (s_X12_reads ha1 hc17) (by decide) rfl rfl (Nat.le_of_ble_eq_true rfl) dX12_steps_69 ?_
  refine V.iconst (v := 0) dX12_steps_72 rfl ?_
  cases hF
  exact V.iret dX12_steps_73
def X12_steps_36 (n : Nat) (a1 : Nat) (x2 : Int32) (h : Mm) : Option (Int32 × Mm) := (if inB (x2 + (1 : Int32)) (aln 262) then (if inB (x2 + (2 : Int32)) (aln 262) then (if inB x2 (aln 262) then (if (h.1 262 x2.toNatClampNeg) = (1 : Int32) then (X12_steps_69 n a1 (h.1 262 (x2 + (1 : Int32)).toNatClampNeg) (h.1 262 (x2 + (2 : Int32)).toNatClampNeg) true h) else (X12_steps_69 n a1 (h.1 262 (x2 + (1 : Int32)).toNatClampNeg) (h.1 262 (x2 + (2 : Int32)).toNatClampNeg) false h)) else none) else none) else none)
set_option maxRecDepth 100000 in
set_option maxHeartbeats 4000000 in
theorem v_X12_steps_36 {X : WX} {G : GX} {o : Mm} {n : Nat} {a1 : Nat} {rv : Int32} {hz : Mm} (ha1 : isO false 0 a1) {x2 : Int32} {h : Mm} (hF : X12_steps_36 n a1 x2 h = some (rv, hz)) : V X G RX12 cX12_steps 3 (some .int) 92 0 0 (QR X G false o (some (.int rv)) hz) false o 36 [(0, .ref (xa X 251)), (1, .ref (xa X a1)), (2, .int x2)] [] h := by
  unfold X12_steps_36 at hF
  refine V.aload_n 0 dX12_steps_36 rfl rfl ?_
  refine V.aload_n 1 dX12_steps_37 rfl rfl ?_
  refine V.aload_n 0 dX12_steps_38 rfl rfl ?_
  refine V.getR (v := 262) fl_X12_55 sh_251 rfl fx_251_24 (by decide) dX12_steps_39 ?_
  refine V.iload_n 2 dX12_steps_42 rfl rfl ?_
  refine V.iconst (v := 1) dX12_steps_43 rfl ?_
  refine V.iadd dX12_steps_44 ?_
  obtain ⟨hk, hF⟩ := ck hF
  refine V.iald io_262 hk dX12_steps_45 ?_
  refine V.aload_n 0 dX12_steps_46 rfl rfl ?_
  refine V.getR (v := 262) fl_X12_55 sh_251 rfl fx_251_24 (by decide) dX12_steps_47 ?_
  refine V.iload_n 2 dX12_steps_50 rfl rfl ?_
  refine V.iconst (v := 2) dX12_steps_51 rfl ?_
  refine V.iadd dX12_steps_52 ?_
  obtain ⟨hk, hF⟩ := ck hF
  refine V.iald io_262 hk dX12_steps_53 ?_
  refine V.aload_n 0 dX12_steps_54 rfl rfl ?_
  refine V.getR (v := 262) fl_X12_55 sh_251 rfl fx_251_24 (by decide) dX12_steps_55 ?_
  refine V.iload_n 2 dX12_steps_58 rfl rfl ?_
  obtain ⟨hk, hF⟩ := ck hF
  refine V.iald io_262 hk dX12_steps_59 ?_
  refine V.iconst (v := 1) dX12_steps_60 rfl ?_
  refine V.icmp_ne (tgt := 68) dX12_steps_61 rfl (fun c => ?_) (fun c => ?_)
  · replace hF := iq c hF
    refine V.iconst (v := 0) dX12_steps_68 rfl ?_
    exact V.sub [] rfl (v_X12_steps_69 ha1 hF)
  · replace hF := ip c hF
    refine V.iconst (v := 1) dX12_steps_64 rfl ?_
    refine V.goto (tgt := 69) dX12_steps_65 rfl ?_
    exact V.sub [] rfl (v_X12_steps_69 ha1 hF)
def X12_steps (n : Nat) (a1 : Nat) (x2 : Int32) (h : Mm) : Option (Int32 × Mm) := (if inB x2 (aln 262) then (if (h.1 262 x2.toNatClampNeg) = 0 then (X12_steps_36 n a1 x2 h) else (if (h.1 262 x2.toNatClampNeg) = 1 then (X12_steps_36 n a1 x2 h) else (if (h.1 262 x2.toNatClampNeg) = 2 then (bd (X12_drinks a1 h) (fun _ h21 => (some ((0 : Int32), h21)))) else (if (h.1 262 x2.toNatClampNeg) = 3 then (bd (X12_goNight n a1 h) (fun r22 h24 => (some (r22, h24)))) else (if inB (x2 + (1 : Int32)) (aln 262) then (if inB (23 : Int32) (aln a1) then (if inB (26 : Int32) (aln a1) then (some ((0 : Int32), (wI (wI h a1 (23 : Int32).toNatClampNeg (h.1 262 (x2 + (1 : Int32)).toNatClampNeg)) a1 (26 : Int32).toNatClampNeg (1 : Int32)))) else none) else none) else none))))) else none)
set_option maxRecDepth 100000 in
set_option maxHeartbeats 4000000 in
theorem s_X12_steps {X : WX} {o : Mm} {n : Nat} {a1 : Nat} {x2 : Int32} {rv : Int32} {hz : Mm} {h : Mm} (ha1 : isO false 0 a1) (hF : X12_steps n a1 x2 h = some (rv, hz)) : Sat X yX12_steps cX12_steps 3 (some .int) 92 [.ref (xa X 251), .ref (xa X a1), .int x2] false o h (some (.int rv)) hz := by
  unfold X12_steps at hF
  refine Sat.mk (own := RX12) rfl (by decide +kernel) (Nat.le_of_ble_eq_true rfl) (fun G => ?_)
  refine V.sub (lv2 := [(0, _), (1, _), (2, _)]) [0, 1, 2] rfl ?_
  refine V.aload_n 0 dX12_steps_0 rfl rfl ?_
  refine V.getR (v := 262) fl_X12_55 sh_251 rfl fx_251_24 (by decide) dX12_steps_1 ?_
  refine V.iload_n 2 dX12_steps_4 rfl rfl ?_
  obtain ⟨hk, hF⟩ := ck hF
  refine V.iald io_262 hk dX12_steps_5 ?_
  by_cases c0 : (h.1 262 x2.toNatClampNeg) = 0
  · replace hF := ip c0 hF
    refine V.tswIn (tgt := 36) c0 dX12_steps_6 (by decide) (by decide) rfl rfl ?_
    exact (v_X12_steps_36 ha1 hF)
  replace hF := iq c0 hF
  by_cases c1 : (h.1 262 x2.toNatClampNeg) = 1
  · replace hF := ip c1 hF
    refine V.tswIn (tgt := 36) c1 dX12_steps_6 (by decide) (by decide) rfl rfl ?_
    exact (v_X12_steps_36 ha1 hF)
  replace hF := iq c1 hF
  by_cases c2 : (h.1 262 x2.toNatClampNeg) = 2
  · replace hF := ip c2 hF
    refine V.tswIn (tgt := 74) c2 dX12_steps_6 (by decide) (by decide) rfl rfl ?_
    refine V.aload_n 1 dX12_steps_74 rfl rfl ?_
    obtain ⟨r19, h21, hc20, hF⟩ := bd_s hF
    refine V.callSv mf_X12_drinks ml_X12_369 (s_X12_drinks ha1 hc20) (by decide) rfl rfl (Nat.le_of_ble_eq_true rfl) dX12_steps_75 ?_
    refine V.iconst (v := 0) dX12_steps_78 rfl ?_
    cases hF
    exact V.iret dX12_steps_79
  replace hF := iq c2 hF
  by_cases c3 : (h.1 262 x2.toNatClampNeg) = 3
  · replace hF := ip c3 hF
    refine V.tswIn (tgt := 80) c3 dX12_steps_6 (by decide) (by decide) rfl rfl ?_
    refine V.aload_n 0 dX12_steps_80 rfl rfl ?_
    refine V.aload_n 1 dX12_steps_81 rfl rfl ?_
    obtain ⟨r22, h24, hc23, hF⟩ := bd_s hF
    refine V.callVi mf_X12_goNight ml_X12_377 sh_251 (s_X12_goNight ha1 hc23) (by decide) rfl rfl (Nat.le_of_ble_eq_true rfl) dX12_steps_82 ?_
    cases hF
    exact V.iret dX12_steps_85
  replace hF := iq c3 hF
  refine V.tswOut (tgt := 86) dX12_steps_6 (tsw_out (by decide) (by decide) [0, 1, 2, 3] rfl (fun v hv => ?_)) rfl ?_
  · simp only [List.mem_cons, List.not_mem_nil, or_false] at hv
    rcases hv with rfl | rfl | rfl | rfl <;> assumption
  refine V.aload_n 1 dX12_steps_86 rfl rfl ?_
  refine V.bipush (v := 23) dX12_steps_87 (by decide) ?_
  refine V.aload_n 0 dX12_steps_89 rfl rfl ?_
  refine V.getR (v := 262) fl_X12_55 sh_251 rfl fx_251_24 (by decide) dX12_steps_90 ?_
  refine V.iload_n 2 dX12_steps_93 rfl rfl ?_
  refine V.iconst (v := 1) dX12_steps_94 rfl ?_
  refine V.iadd dX12_steps_95 ?_
  obtain ⟨hk, hF⟩ := ck hF
  refine V.iald io_262 hk dX12_steps_96 ?_
  obtain ⟨hk, hF⟩ := ck hF
  refine V.iast ha1 hk dX12_steps_97 ?_
  refine V.aload_n 1 dX12_steps_98 rfl rfl ?_
  refine V.bipush (v := 26) dX12_steps_99 (by decide) ?_
  refine V.iconst (v := 1) dX12_steps_101 rfl ?_
  obtain ⟨hk, hF⟩ := ck hF
  refine V.iast ha1 hk dX12_steps_102 ?_
  refine V.iconst (v := 0) dX12_steps_103 rfl ?_
  cases hF
  exact V.iret dX12_steps_104
/-! MonsterCotModel.run -/
theorem dX12_run_0 : decode cX12_run 0 = .ok (.aload_n 0, 1) := by decide +kernel
theorem dX12_run_1 : decode cX12_run 1 = .ok (.iconst 0, 1) := by decide +kernel
theorem dX12_run_2 : decode cX12_run 2 = .ok (.putfield 93, 3) := by decide +kernel
theorem dX12_run_5 : decode cX12_run 5 = .ok (.aload_n 0, 1) := by decide +kernel
theorem dX12_run_6 : decode cX12_run 6 = .ok (.iload_n 1, 1) := by decide +kernel
theorem dX12_run_7 : decode cX12_run 7 = .ok (.invokevirtual 397, 3) := by decide +kernel
theorem dX12_run_10 : decode cX12_run 10 = .ok (.ifCond .eq 20, 3) := by decide +kernel
theorem dX12_run_13 : decode cX12_run 13 = .ok (.aload_n 0, 1) := by decide +kernel
theorem dX12_run_14 : decode cX12_run 14 = .ok (.getfield 291, 3) := by decide +kernel
theorem dX12_run_17 : decode cX12_run 17 = .ok (.ifCond .eq 13, 3) := by decide +kernel
theorem dX12_run_20 : decode cX12_run 20 = .ok (.iload_n 2, 1) := by decide +kernel
theorem dX12_run_21 : decode cX12_run 21 = .ok (.i2l, 1) := by decide +kernel
theorem dX12_run_22 : decode cX12_run 22 = .ok (.lconst 0, 1) := by decide +kernel
theorem dX12_run_23 : decode cX12_run 23 = .ok (.lconst 1, 1) := by decide +kernel
theorem dX12_run_24 : decode cX12_run 24 = .ok (.invokestatic 214, 3) := by decide +kernel
theorem dX12_run_27 : decode cX12_run 27 = .ok (.ifCond .ne 7, 3) := by decide +kernel
theorem dX12_run_30 : decode cX12_run 30 = .ok (.ldc_w 400, 3) := by decide +kernel
theorem dX12_run_33 : decode cX12_run 33 = .ok (.ireturn, 1) := by decide +kernel
theorem dX12_run_34 : decode cX12_run 34 = .ok (.aload_n 0, 1) := by decide +kernel
theorem dX12_run_35 : decode cX12_run 35 = .ok (.getfield 61, 3) := by decide +kernel
theorem dX12_run_38 : decode cX12_run 38 = .ok (.aload_n 0, 1) := by decide +kernel
theorem dX12_run_39 : decode cX12_run 39 = .ok (.getfield 64, 3) := by decide +kernel
theorem dX12_run_42 : decode cX12_run 42 = .ok (.invokestatic 401, 3) := by decide +kernel
theorem dX12_run_45 : decode cX12_run 45 = .ok (.iconst 0, 1) := by decide +kernel
theorem dX12_run_46 : decode cX12_run 46 = .ok (.istore_n 3, 1) := by decide +kernel
theorem dX12_run_47 : decode cX12_run 47 = .ok (.iconst 0, 1) := by decide +kernel
theorem dX12_run_48 : decode cX12_run 48 = .ok (.istore 4, 2) := by decide +kernel
theorem dX12_run_50 : decode cX12_run 50 = .ok (.iload_n 3, 1) := by decide +kernel
theorem dX12_run_51 : decode cX12_run 51 = .ok (.aload_n 0, 1) := by decide +kernel
theorem dX12_run_52 : decode cX12_run 52 = .ok (.getfield 58, 3) := by decide +kernel
theorem dX12_run_55 : decode cX12_run 55 = .ok (.iload_n 1, 1) := by decide +kernel
theorem dX12_run_56 : decode cX12_run 56 = .ok (.iaload, 1) := by decide +kernel
theorem dX12_run_57 : decode cX12_run 57 = .ok (.if_icmp .ge 49, 3) := by decide +kernel
theorem dX12_run_60 : decode cX12_run 60 = .ok (.aload_n 0, 1) := by decide +kernel
theorem dX12_run_61 : decode cX12_run 61 = .ok (.aload_n 0, 1) := by decide +kernel
theorem dX12_run_62 : decode cX12_run 62 = .ok (.getfield 64, 3) := by decide +kernel
theorem dX12_run_65 : decode cX12_run 65 = .ok (.iconst 3, 1) := by decide +kernel
theorem dX12_run_66 : decode cX12_run 66 = .ok (.bipush 16, 2) := by decide +kernel
theorem dX12_run_68 : decode cX12_run 68 = .ok (.iload_n 1, 1) := by decide +kernel
theorem dX12_run_69 : decode cX12_run 69 = .ok (.imul, 1) := by decide +kernel
theorem dX12_run_70 : decode cX12_run 70 = .ok (.iload_n 3, 1) := by decide +kernel
theorem dX12_run_71 : decode cX12_run 71 = .ok (.iadd, 1) := by decide +kernel
theorem dX12_run_72 : decode cX12_run 72 = .ok (.imul, 1) := by decide +kernel
theorem dX12_run_73 : decode cX12_run 73 = .ok (.invokevirtual 405, 3) := by decide +kernel
theorem dX12_run_76 : decode cX12_run 76 = .ok (.ifCond .eq 30, 3) := by decide +kernel
theorem dX12_run_79 : decode cX12_run 79 = .ok (.iload 4, 2) := by decide +kernel
theorem dX12_run_81 : decode cX12_run 81 = .ok (.aload_n 0, 1) := by decide +kernel
theorem dX12_run_82 : decode cX12_run 82 = .ok (.aload_n 0, 1) := by decide +kernel
theorem dX12_run_83 : decode cX12_run 83 = .ok (.getfield 64, 3) := by decide +kernel
theorem dX12_run_86 : decode cX12_run 86 = .ok (.iconst 3, 1) := by decide +kernel
theorem dX12_run_87 : decode cX12_run 87 = .ok (.bipush 16, 2) := by decide +kernel
theorem dX12_run_89 : decode cX12_run 89 = .ok (.iload_n 1, 1) := by decide +kernel
theorem dX12_run_90 : decode cX12_run 90 = .ok (.imul, 1) := by decide +kernel
theorem dX12_run_91 : decode cX12_run 91 = .ok (.iload_n 3, 1) := by decide +kernel
theorem dX12_run_92 : decode cX12_run 92 = .ok (.iadd, 1) := by decide +kernel
theorem dX12_run_93 : decode cX12_run 93 = .ok (.imul, 1) := by decide +kernel
theorem dX12_run_94 : decode cX12_run 94 = .ok (.invokevirtual 408, 3) := by decide +kernel
theorem dX12_run_97 : decode cX12_run 97 = .ok (.iadd, 1) := by decide +kernel
theorem dX12_run_98 : decode cX12_run 98 = .ok (.istore 4, 2) := by decide +kernel
theorem dX12_run_100 : decode cX12_run 100 = .ok (.iinc 3 1, 3) := by decide +kernel
theorem dX12_run_103 : decode cX12_run 103 = .ok (.goto (-53), 3) := by decide +kernel
theorem dX12_run_106 : decode cX12_run 106 = .ok (.iload_n 2, 1) := by decide +kernel
theorem dX12_run_107 : decode cX12_run 107 = .ok (.iconst 1, 1) := by decide +kernel
theorem dX12_run_108 : decode cX12_run 108 = .ok (.if_icmp .ne 6, 3) := by decide +kernel
theorem dX12_run_111 : decode cX12_run 111 = .ok (.iload 4, 2) := by decide +kernel
theorem dX12_run_113 : decode cX12_run 113 = .ok (.ireturn, 1) := by decide +kernel
theorem dX12_run_114 : decode cX12_run 114 = .ok (.iload_n 3, 1) := by decide +kernel
theorem dX12_run_115 : decode cX12_run 115 = .ok (.aload_n 0, 1) := by decide +kernel
theorem dX12_run_116 : decode cX12_run 116 = .ok (.getfield 58, 3) := by decide +kernel
theorem dX12_run_119 : decode cX12_run 119 = .ok (.iload_n 1, 1) := by decide +kernel
theorem dX12_run_120 : decode cX12_run 120 = .ok (.iaload, 1) := by decide +kernel
theorem dX12_run_121 : decode cX12_run 121 = .ok (.if_icmp .ne 7, 3) := by decide +kernel
theorem dX12_run_124 : decode cX12_run 124 = .ok (.iconst (-1), 1) := by decide +kernel
theorem dX12_run_125 : decode cX12_run 125 = .ok (.goto 4, 3) := by decide +kernel
theorem dX12_run_128 : decode cX12_run 128 = .ok (.iload_n 3, 1) := by decide +kernel
theorem dX12_run_129 : decode cX12_run 129 = .ok (.ireturn, 1) := by decide +kernel
def X12_run_30 (n : Nat) (h : Mm) : Option (Int32 × Mm) := (some ((-1000000 : Int32), h))
set_option maxRecDepth 100000 in
set_option maxHeartbeats 4000000 in
theorem v_X12_run_30 {X : WX} {G : GX} {o : Mm} {n : Nat} {rv : Int32} {hz : Mm} {h : Mm} (hF : X12_run_30 n h = some (rv, hz)) : V X G RX12 cX12_run 5 (some .int) 93 0 0 (QR X G false o (some (.int rv)) hz) false o 30 [] [] h := by
  unfold X12_run_30 at hF
  refine V.ldcw (v := -1000000) dX12_run_30 kc_X12_400 ?_
  cases hF
  exact V.iret dX12_run_33
def X12_run_106 (n : Nat) (x1 : Int32) (x2 : Int32) (x3 : Int32) (x4 : Int32) (h : Mm) : Option (Int32 × Mm) := (if x2 = (1 : Int32) then (some (x4, h)) else (if inB x1 (aln 263) then (if x3 = (h.1 263 x1.toNatClampNeg) then (some ((-1 : Int32), h)) else (some (x3, h))) else none))
set_option maxRecDepth 100000 in
set_option maxHeartbeats 4000000 in
theorem v_X12_run_106 {X : WX} {G : GX} {o : Mm} {n : Nat} {rv : Int32} {hz : Mm} {x1 : Int32} {x2 : Int32} {x3 : Int32} {x4 : Int32} {h : Mm} (hF : X12_run_106 n x1 x2 x3 x4 h = some (rv, hz)) : V X G RX12 cX12_run 5 (some .int) 93 0 0 (QR X G false o (some (.int rv)) hz) false o 106 [(0, .ref (xa X 251)), (1, .int x1), (2, .int x2), (3, .int x3), (4, .int x4)] [] h := by
  unfold X12_run_106 at hF
  refine V.iload_n 2 dX12_run_106 rfl rfl ?_
  refine V.iconst (v := 1) dX12_run_107 rfl ?_
  refine V.icmp_ne (tgt := 114) dX12_run_108 rfl (fun c => ?_) (fun c => ?_)
  · replace hF := iq c hF
    refine V.iload_n 3 dX12_run_114 rfl rfl ?_
    refine V.aload_n 0 dX12_run_115 rfl rfl ?_
    refine V.getR (v := 263) fl_X12_58 sh_251 rfl fx_251_25 (by decide) dX12_run_116 ?_
    refine V.iload_n 1 dX12_run_119 rfl rfl ?_
    obtain ⟨hk, hF⟩ := ck hF
    refine V.iald io_263 hk dX12_run_120 ?_
    refine V.icmp_ne (tgt := 128) dX12_run_121 rfl (fun c => ?_) (fun c => ?_)
    · replace hF := iq c hF
      refine V.iload_n 3 dX12_run_128 rfl rfl ?_
      cases hF
      exact V.iret dX12_run_129
    · replace hF := ip c hF
      refine V.iconst (v := -1) dX12_run_124 rfl ?_
      refine V.goto (tgt := 129) dX12_run_125 rfl ?_
      cases hF
      exact V.iret dX12_run_129
  · replace hF := ip c hF
    refine V.iload 4 dX12_run_111 rfl ?_
    cases hF
    exact V.iret dX12_run_113
def X12_run_50 (n : Nat) : Nat → Int32 → Int32 → Int32 → Int32 → Mm → Option (Int32 × Mm)
  | 0, _, _, _, _, _ => none
  | f + 1, x1, x2, x3, x4, h => (if inB x1 (aln 263) then (if (h.1 263 x1.toNatClampNeg) ≤ x3 then (X12_run_106 n x1 x2 x3 x4 h) else (bp (X12_canStep 265 ((3 : Int32) * (((16 : Int32) * x1) + x3)) h) (fun r37 => (if r37 = true then (bd (X12_steps n 265 ((3 : Int32) * (((16 : Int32) * x1) + x3)) h) (fun r39 h41 => ((X12_run_50 n f) x1 x2 (x3 + (1)) (x4 + r39) h41))) else (X12_run_106 n x1 x2 x3 x4 h))))) else none)
set_option maxRecDepth 100000 in
set_option maxHeartbeats 4000000 in
theorem v_X12_run_50 {X : WX} {G : GX} {o : Mm} {n : Nat} {rv : Int32} {hz : Mm} : ∀ (f : Nat) (x1 : Int32) (x2 : Int32) (x3 : Int32) (x4 : Int32) (h : Mm), X12_run_50 n f x1 x2 x3 x4 h = some (rv, hz) → V X G RX12 cX12_run 5 (some .int) 93 0 0 (QR X G false o (some (.int rv)) hz) false o 50 [(0, .ref (xa X 251)), (1, .int x1), (2, .int x2), (3, .int x3), (4, .int x4)] [] h := by
  intro f
  induction f with
  | zero => intro x1 x2 x3 x4 h hF; exact nomatch (show (none : Option (Int32 × Mm)) = some (rv, hz) from hF)
  | succ f ih =>
    intro x1 x2 x3 x4 h hF
    unfold X12_run_50 at hF
    refine V.iload_n 3 dX12_run_50 rfl rfl ?_
    refine V.aload_n 0 dX12_run_51 rfl rfl ?_
    refine V.getR (v := 263) fl_X12_58 sh_251 rfl fx_251_25 (by decide) dX12_run_52 ?_
    refine V.iload_n 1 dX12_run_55 rfl rfl ?_
    obtain ⟨hk, hF⟩ := ck hF
    refine V.iald io_263 hk dX12_run_56 ?_
    refine V.icmp_ge (tgt := 106) dX12_run_57 rfl (fun c => ?_) (fun c => ?_)
    · replace hF := ip c hF
      exact (v_X12_run_106 hF)
    · replace hF := iq c hF
      refine V.aload_n 0 dX12_run_60 rfl rfl ?_
      refine V.aload_n 0 dX12_run_61 rfl rfl ?_
      refine V.getR (v := 265) fl_X12_64 sh_251 rfl fx_251_33 (by decide) dX12_run_62 ?_
      refine V.iconst (v := 3) dX12_run_65 rfl ?_
      refine V.bipush (v := 16) dX12_run_66 (by decide) ?_
      refine V.iload_n 1 dX12_run_68 rfl rfl ?_
      refine V.imul dX12_run_69 ?_
      refine V.iload_n 3 dX12_run_70 rfl rfl ?_
      refine V.iadd dX12_run_71 ?_
      refine V.imul dX12_run_72 ?_
      obtain ⟨r37, hc38, hF⟩ := bp_s hF
      refine V.callVi mf_X12_canStep ml_X12_405 sh_251 (s_X12_canStep io_265 hc38) (by decide) rfl rfl (Nat.le_of_ble_eq_true rfl) dX12_run_73 ?_
      refine V.ifz_eq (tgt := 106) dX12_run_76 rfl (fun c => ?_) (fun c => ?_)
      · replace hF := iq c hF
        exact (v_X12_run_106 hF)
      · replace hF := ip c hF
        refine V.iload 4 dX12_run_79 rfl ?_
        refine V.aload_n 0 dX12_run_81 rfl rfl ?_
        refine V.aload_n 0 dX12_run_82 rfl rfl ?_
        refine V.getR (v := 265) fl_X12_64 sh_251 rfl fx_251_33 (by decide) dX12_run_83 ?_
        refine V.iconst (v := 3) dX12_run_86 rfl ?_
        refine V.bipush (v := 16) dX12_run_87 (by decide) ?_
        refine V.iload_n 1 dX12_run_89 rfl rfl ?_
        refine V.imul dX12_run_90 ?_
        refine V.iload_n 3 dX12_run_91 rfl rfl ?_
        refine V.iadd dX12_run_92 ?_
        refine V.imul dX12_run_93 ?_
        obtain ⟨r39, h41, hc40, hF⟩ := bd_s hF
        refine V.callVi mf_X12_steps ml_X12_408 sh_251 (s_X12_steps io_265 hc40) (by decide) rfl rfl (Nat.le_of_ble_eq_true rfl) dX12_run_94 ?_
        refine V.iadd dX12_run_97 ?_
        refine V.istore [(4, _), (0, _), (1, _), (2, _), (3, _)] dX12_run_98 (by decide) rfl ?_
        refine V.iinc (v := (x3 + (1))) 4 [(3, _), (4, _), (0, _), (1, _), (2, _)] dX12_run_100 rfl rfl (by decide) rfl ?_
        refine V.goto (tgt := 50) dX12_run_103 rfl ?_
        exact V.sub [2, 3, 4, 0, 1] rfl (ih _ _ _ _ _ hF)
def X12_run (n : Nat) (x1 : Int32) (x2 : Int32) (h : Mm) : Option (Int32 × Mm) := (bp (X12_isWeek x1 (wI h 251 0 (0 : Int32))) (fun r42 => (if r42 = true then (if ((wI h 251 0 (0 : Int32)).1 251 27) = 0 then (X12_run_30 n (wI h 251 0 (0 : Int32))) else (bp (X12_isIn x2.toInt64 (0 : Int64) (1 : Int64) (wI h 251 0 (0 : Int32))) (fun r44 => (if r44 = true then (bd (X12_copy n 264 265 (wI h 251 0 (0 : Int32))) (fun _ h48 => (X12_run_50 n n x1 x2 (0 : Int32) (0 : Int32) h48))) else (X12_run_30 n (wI h 251 0 (0 : Int32))))))) else (X12_run_30 n (wI h 251 0 (0 : Int32))))))
set_option maxRecDepth 100000 in
set_option maxHeartbeats 4000000 in
theorem s_X12_run {X : WX} {o : Mm} {n : Nat} {x1 : Int32} {x2 : Int32} {rv : Int32} {hz : Mm} {h : Mm} (hF : X12_run n x1 x2 h = some (rv, hz)) : Sat X yX12_run cX12_run 5 (some .int) 93 [.ref (xa X 251), .int x1, .int x2] false o h (some (.int rv)) hz := by
  unfold X12_run at hF
  refine Sat.mk (own := RX12) rfl (by decide +kernel) (Nat.le_of_ble_eq_true rfl) (fun G => ?_)
  refine V.sub (lv2 := [(0, _), (1, _), (2, _)]) [0, 1, 2] rfl ?_
  refine V.aload_n 0 dX12_run_0 rfl rfl ?_
  refine V.iconst (v := 0) dX12_run_1 rfl ?_
  refine V.putI fl_X12_93 rfl (tyX12_ok 0 (by decide)) rfl rfl sh_251 rfl km_251 dX12_run_2 ?_
  refine V.aload_n 0 dX12_run_5 rfl rfl ?_
  refine V.iload_n 1 dX12_run_6 rfl rfl ?_
  obtain ⟨r42, hc43, hF⟩ := bp_s hF
  refine V.callVi mf_X12_isWeek ml_X12_397 sh_251 (s_X12_isWeek hc43) (by decide) rfl rfl (Nat.le_of_ble_eq_true rfl) dX12_run_7 ?_
  refine V.ifz_eq (tgt := 30) dX12_run_10 rfl (fun c => ?_) (fun c => ?_)
  · replace hF := iq c hF
    exact V.sub [] rfl (v_X12_run_30 hF)
  · replace hF := ip c hF
    refine V.aload_n 0 dX12_run_13 rfl rfl ?_
    refine V.getI fl_X12_291 sh_251 rfl km_251 dX12_run_14 ?_
    refine V.if_eq (tgt := 30) dX12_run_17 rfl (fun c => ?_) (fun c => ?_)
    · replace hF := ip c hF
      exact V.sub [] rfl (v_X12_run_30 hF)
    · replace hF := iq c hF
      refine V.iload_n 2 dX12_run_20 rfl rfl ?_
      refine V.i2l dX12_run_21 ?_
      refine V.lconst (v := 0) dX12_run_22 rfl ?_
      refine V.lconst (v := 1) dX12_run_23 rfl ?_
      obtain ⟨r44, hc45, hF⟩ := bp_s hF
      refine V.callSi mf_X12_isIn ml_X12_214 (s_X12_isIn hc45) (by decide) rfl rfl (Nat.le_of_ble_eq_true rfl) dX12_run_24 ?_
      refine V.ifz_ne (tgt := 34) dX12_run_27 rfl (fun c => ?_) (fun c => ?_)
      · replace hF := ip c hF
        refine V.aload_n 0 dX12_run_34 rfl rfl ?_
        refine V.getR (v := 264) fl_X12_61 sh_251 rfl fx_251_32 (by decide) dX12_run_35 ?_
        refine V.aload_n 0 dX12_run_38 rfl rfl ?_
        refine V.getR (v := 265) fl_X12_64 sh_251 rfl fx_251_33 (by decide) dX12_run_39 ?_
        obtain ⟨r46, h48, hc47, hF⟩ := bd_s hF
        refine V.callSv mf_X12_copy ml_X12_401 (s_X12_copy io_264 io_265 hc47) (by decide) rfl rfl (Nat.le_of_ble_eq_true rfl) dX12_run_42 ?_
        refine V.iconst (v := 0) dX12_run_45 rfl ?_
        refine V.istore_n [(3, _), (0, _), (1, _), (2, _)] dX12_run_46 rfl (by decide) rfl ?_
        refine V.iconst (v := 0) dX12_run_47 rfl ?_
        refine V.istore [(4, _), (3, _), (0, _), (1, _), (2, _)] dX12_run_48 (by decide) rfl ?_
        exact V.sub [2, 3, 4, 1, 0] rfl (v_X12_run_50 n _ _ _ _ _ hF)
      · replace hF := iq c hF
        exact V.sub [] rfl (v_X12_run_30 hF)
/-! MonsterCotModel.perform -/
theorem dX12_perform_0 : decode cX12_perform 0 = .ok (.aload_n 0, 1) := by decide +kernel
theorem dX12_perform_1 : decode cX12_perform 1 = .ok (.iconst 0, 1) := by decide +kernel
theorem dX12_perform_2 : decode cX12_perform 2 = .ok (.putfield 93, 3) := by decide +kernel
theorem dX12_perform_5 : decode cX12_perform 5 = .ok (.aload_n 0, 1) := by decide +kernel
theorem dX12_perform_6 : decode cX12_perform 6 = .ok (.iload_n 1, 1) := by decide +kernel
theorem dX12_perform_7 : decode cX12_perform 7 = .ok (.invokevirtual 397, 3) := by decide +kernel
theorem dX12_perform_10 : decode cX12_perform 10 = .ok (.ifCond .eq 10, 3) := by decide +kernel
theorem dX12_perform_13 : decode cX12_perform 13 = .ok (.aload_n 0, 1) := by decide +kernel
theorem dX12_perform_14 : decode cX12_perform 14 = .ok (.getfield 291, 3) := by decide +kernel
theorem dX12_perform_17 : decode cX12_perform 17 = .ok (.ifCond .ne 5, 3) := by decide +kernel
theorem dX12_perform_20 : decode cX12_perform 20 = .ok (.iconst (-1), 1) := by decide +kernel
theorem dX12_perform_21 : decode cX12_perform 21 = .ok (.ireturn, 1) := by decide +kernel
theorem dX12_perform_22 : decode cX12_perform 22 = .ok (.iconst 0, 1) := by decide +kernel
theorem dX12_perform_23 : decode cX12_perform 23 = .ok (.istore_n 2, 1) := by decide +kernel
theorem dX12_perform_24 : decode cX12_perform 24 = .ok (.iload_n 2, 1) := by decide +kernel
theorem dX12_perform_25 : decode cX12_perform 25 = .ok (.aload_n 0, 1) := by decide +kernel
theorem dX12_perform_26 : decode cX12_perform 26 = .ok (.getfield 58, 3) := by decide +kernel
theorem dX12_perform_29 : decode cX12_perform 29 = .ok (.iload_n 1, 1) := by decide +kernel
theorem dX12_perform_30 : decode cX12_perform 30 = .ok (.iaload, 1) := by decide +kernel
theorem dX12_perform_31 : decode cX12_perform 31 = .ok (.if_icmp .ge 49, 3) := by decide +kernel
theorem dX12_perform_34 : decode cX12_perform 34 = .ok (.aload_n 0, 1) := by decide +kernel
theorem dX12_perform_35 : decode cX12_perform 35 = .ok (.aload_n 0, 1) := by decide +kernel
theorem dX12_perform_36 : decode cX12_perform 36 = .ok (.getfield 61, 3) := by decide +kernel
theorem dX12_perform_39 : decode cX12_perform 39 = .ok (.iconst 3, 1) := by decide +kernel
theorem dX12_perform_40 : decode cX12_perform 40 = .ok (.bipush 16, 2) := by decide +kernel
theorem dX12_perform_42 : decode cX12_perform 42 = .ok (.iload_n 1, 1) := by decide +kernel
theorem dX12_perform_43 : decode cX12_perform 43 = .ok (.imul, 1) := by decide +kernel
theorem dX12_perform_44 : decode cX12_perform 44 = .ok (.iload_n 2, 1) := by decide +kernel
theorem dX12_perform_45 : decode cX12_perform 45 = .ok (.iadd, 1) := by decide +kernel
theorem dX12_perform_46 : decode cX12_perform 46 = .ok (.imul, 1) := by decide +kernel
theorem dX12_perform_47 : decode cX12_perform 47 = .ok (.invokevirtual 405, 3) := by decide +kernel
theorem dX12_perform_50 : decode cX12_perform 50 = .ok (.ifCond .eq 30, 3) := by decide +kernel
theorem dX12_perform_53 : decode cX12_perform 53 = .ok (.aload_n 0, 1) := by decide +kernel
theorem dX12_perform_54 : decode cX12_perform 54 = .ok (.invokevirtual 362, 3) := by decide +kernel
theorem dX12_perform_57 : decode cX12_perform 57 = .ok (.aload_n 0, 1) := by decide +kernel
theorem dX12_perform_58 : decode cX12_perform 58 = .ok (.aload_n 0, 1) := by decide +kernel
theorem dX12_perform_59 : decode cX12_perform 59 = .ok (.getfield 61, 3) := by decide +kernel
theorem dX12_perform_62 : decode cX12_perform 62 = .ok (.iconst 3, 1) := by decide +kernel
theorem dX12_perform_63 : decode cX12_perform 63 = .ok (.bipush 16, 2) := by decide +kernel
theorem dX12_perform_65 : decode cX12_perform 65 = .ok (.iload_n 1, 1) := by decide +kernel
theorem dX12_perform_66 : decode cX12_perform 66 = .ok (.imul, 1) := by decide +kernel
theorem dX12_perform_67 : decode cX12_perform 67 = .ok (.iload_n 2, 1) := by decide +kernel
theorem dX12_perform_68 : decode cX12_perform 68 = .ok (.iadd, 1) := by decide +kernel
theorem dX12_perform_69 : decode cX12_perform 69 = .ok (.imul, 1) := by decide +kernel
theorem dX12_perform_70 : decode cX12_perform 70 = .ok (.invokevirtual 408, 3) := by decide +kernel
theorem dX12_perform_73 : decode cX12_perform 73 = .ok (.istore_n 3, 1) := by decide +kernel
theorem dX12_perform_74 : decode cX12_perform 74 = .ok (.iinc 2 1, 3) := by decide +kernel
theorem dX12_perform_77 : decode cX12_perform 77 = .ok (.goto (-53), 3) := by decide +kernel
theorem dX12_perform_80 : decode cX12_perform 80 = .ok (.iload_n 2, 1) := by decide +kernel
theorem dX12_perform_81 : decode cX12_perform 81 = .ok (.ireturn, 1) := by decide +kernel
def X12_perform_80 (n : Nat) (x2 : Int32) (h : Mm) : Option (Int32 × Mm) := (some (x2, h))
set_option maxRecDepth 100000 in
set_option maxHeartbeats 4000000 in
theorem v_X12_perform_80 {X : WX} {G : GX} {o : Mm} {n : Nat} {rv : Int32} {hz : Mm} {x2 : Int32} {h : Mm} (hF : X12_perform_80 n x2 h = some (rv, hz)) : V X G RX12 cX12_perform 4 (some .int) 93 0 0 (QR X G false o (some (.int rv)) hz) false o 80 [(2, .int x2)] [] h := by
  unfold X12_perform_80 at hF
  refine V.iload_n 0 dX12_perform_80 rfl rfl ?_
  cases hF
  exact V.iret dX12_perform_81
def X12_perform_24 (n : Nat) : Nat → Int32 → Int32 → Mm → Option (Int32 × Mm)
  | 0, _, _, _ => none
  | f + 1, x1, x2, h => (if inB x1 (aln 263) then (if (h.1 263 x1.toNatClampNeg) ≤ x2 then (X12_perform_80 n x2 h) else (bp (X12_canStep 264 ((3 : Int32) * (((16 : Int32) * x1) + x2)) h) (fun r31 => (if r31 = true then (bd (X12_remember n h) (fun _ h35 => (bd (X12_steps n 264 ((3 : Int32) * (((16 : Int32) * x1) + x2)) h35) (fun r36 h38 => ((X12_perform_24 n f) x1 (x2 + (1)) h38))))) else (X12_perform_80 n x2 h))))) else none)
set_option maxRecDepth 100000 in
set_option maxHeartbeats 4000000 in
theorem v_X12_perform_24 {X : WX} {G : GX} {o : Mm} {n : Nat} {rv : Int32} {hz : Mm} : ∀ (f : Nat) (x1 : Int32) (x2 : Int32) (h : Mm), X12_perform_24 n f x1 x2 h = some (rv, hz) → V X G RX12 cX12_perform 4 (some .int) 93 0 0 (QR X G false o (some (.int rv)) hz) false o 24 [(0, .ref (xa X 251)), (1, .int x1), (2, .int x2)] [] h := by
  intro f
  induction f with
  | zero => intro x1 x2 h hF; exact nomatch (show (none : Option (Int32 × Mm)) = some (rv, hz) from hF)
  | succ f ih =>
    intro x1 x2 h hF
    unfold X12_perform_24 at hF
    refine V.iload_n 2 dX12_perform_24 rfl rfl ?_
    refine V.aload_n 0 dX12_perform_25 rfl rfl ?_
    refine V.getR (v := 263) fl_X12_58 sh_251 rfl fx_251_25 (by decide) dX12_perform_26 ?_
    refine V.iload_n 1 dX12_perform_29 rfl rfl ?_
    obtain ⟨hk, hF⟩ := ck hF
    refine V.iald io_263 hk dX12_perform_30 ?_
    refine V.icmp_ge (tgt := 80) dX12_perform_31 rfl (fun c => ?_) (fun c => ?_)
    · replace hF := ip c hF
      exact V.sub [2] rfl (v_X12_perform_80 hF)
    · replace hF := iq c hF
      refine V.aload_n 0 dX12_perform_34 rfl rfl ?_
      refine V.aload_n 0 dX12_perform_35 rfl rfl ?_
      refine V.getR (v := 264) fl_X12_61 sh_251 rfl fx_251_32 (by decide) dX12_perform_36 ?_
      refine V.iconst (v := 3) dX12_perform_39 rfl ?_
      refine V.bipush (v := 16) dX12_perform_40 (by decide) ?_
      refine V.iload_n 1 dX12_perform_42 rfl rfl ?_
      refine V.imul dX12_perform_43 ?_
      refine V.iload_n 2 dX12_perform_44 rfl rfl ?_
      refine V.iadd dX12_perform_45 ?_
      refine V.imul dX12_perform_46 ?_
      obtain ⟨r31, hc32, hF⟩ := bp_s hF
      refine V.callVi mf_X12_canStep ml_X12_405 sh_251 (s_X12_canStep io_264 hc32) (by decide) rfl rfl (Nat.le_of_ble_eq_true rfl) dX12_perform_47 ?_
      refine V.ifz_eq (tgt := 80) dX12_perform_50 rfl (fun c => ?_) (fun c => ?_)
      · replace hF := iq c hF
        exact V.sub [2] rfl (v_X12_perform_80 hF)
      · replace hF := ip c hF
        refine V.aload_n 0 dX12_perform_53 rfl rfl ?_
        obtain ⟨r33, h35, hc34, hF⟩ := bd_s hF
        refine V.callVv mf_X12_remember ml_X12_362 sh_251 (s_X12_remember hc34) (by decide) rfl rfl (Nat.le_of_ble_eq_true rfl) dX12_perform_54 ?_
        refine V.aload_n 0 dX12_perform_57 rfl rfl ?_
        refine V.aload_n 0 dX12_perform_58 rfl rfl ?_
        refine V.getR (v := 264) fl_X12_61 sh_251 rfl fx_251_32 (by decide) dX12_perform_59 ?_
        refine V.iconst (v := 3) dX12_perform_62 rfl ?_
        refine V.bipush (v := 16) dX12_perform_63 (by decide) ?_
        refine V.iload_n 1 dX12_perform_65 rfl rfl ?_
        refine V.imul dX12_perform_66 ?_
        refine V.iload_n 2 dX12_perform_67 rfl rfl ?_
        refine V.iadd dX12_perform_68 ?_
        refine V.imul dX12_perform_69 ?_
        obtain ⟨r36, h38, hc37, hF⟩ := bd_s hF
        refine V.callVi mf_X12_steps ml_X12_408 sh_251 (s_X12_steps io_264 hc37) (by decide) rfl rfl (Nat.le_of_ble_eq_true rfl) dX12_perform_70 ?_
        refine V.istore_n [(3, _), (0, _), (1, _), (2, _)] dX12_perform_73 rfl (by decide) rfl ?_
        refine V.iinc (v := (x2 + (1))) 3 [(2, _), (3, _), (0, _), (1, _)] dX12_perform_74 rfl rfl (by decide) rfl ?_
        refine V.goto (tgt := 24) dX12_perform_77 rfl ?_
        exact V.sub [2, 3, 0] rfl (ih _ _ _ hF)
def X12_perform (n : Nat) (x1 : Int32) (h : Mm) : Option (Int32 × Mm) := (bp (X12_isWeek x1 (wI h 251 0 (0 : Int32))) (fun r39 => (if r39 = true then (if ((wI h 251 0 (0 : Int32)).1 251 27) = 0 then (some ((-1 : Int32), (wI h 251 0 (0 : Int32)))) else (X12_perform_24 n n x1 (0 : Int32) (wI h 251 0 (0 : Int32)))) else (some ((-1 : Int32), (wI h 251 0 (0 : Int32)))))))
set_option maxRecDepth 100000 in
set_option maxHeartbeats 4000000 in
theorem s_X12_perform {X : WX} {o : Mm} {n : Nat} {x1 : Int32} {rv : Int32} {hz : Mm} {h : Mm} (hF : X12_perform n x1 h = some (rv, hz)) : Sat X yX12_perform cX12_perform 4 (some .int) 93 [.ref (xa X 251), .int x1] false o h (some (.int rv)) hz := by
  unfold X12_perform at hF
  refine Sat.mk (own := RX12) rfl (by decide +kernel) (Nat.le_of_ble_eq_true rfl) (fun G => ?_)
  refine V.sub (lv2 := [(0, _), (1, _)]) [0, 1] rfl ?_
  refine V.aload_n 0 dX12_perform_0 rfl rfl ?_
  refine V.iconst (v := 0) dX12_perform_1 rfl ?_
  refine V.putI fl_X12_93 rfl (tyX12_ok 0 (by decide)) rfl rfl sh_251 rfl km_251 dX12_perform_2 ?_
  refine V.aload_n 0 dX12_perform_5 rfl rfl ?_
  refine V.iload_n 1 dX12_perform_6 rfl rfl ?_
  obtain ⟨r39, hc40, hF⟩ := bp_s hF
  refine V.callVi mf_X12_isWeek ml_X12_397 sh_251 (s_X12_isWeek hc40) (by decide) rfl rfl (Nat.le_of_ble_eq_true rfl) dX12_perform_7 ?_
  refine V.ifz_eq (tgt := 20) dX12_perform_10 rfl (fun c => ?_) (fun c => ?_)
  · replace hF := iq c hF
    refine V.iconst (v := -1) dX12_perform_20 rfl ?_
    cases hF
    exact V.iret dX12_perform_21
  · replace hF := ip c hF
    refine V.aload_n 0 dX12_perform_13 rfl rfl ?_
    refine V.getI fl_X12_291 sh_251 rfl km_251 dX12_perform_14 ?_
    refine V.if_ne (tgt := 22) dX12_perform_17 rfl (fun c => ?_) (fun c => ?_)
    · replace hF := iq c hF
      refine V.iconst (v := 0) dX12_perform_22 rfl ?_
      refine V.istore_n [(2, _), (0, _), (1, _)] dX12_perform_23 rfl (by decide) rfl ?_
      exact V.sub [1, 2, 0] rfl (v_X12_perform_24 n _ _ _ hF)
    · replace hF := ip c hF
      refine V.iconst (v := -1) dX12_perform_20 rfl ?_
      cases hF
      exact V.iret dX12_perform_21
/-! MonsterCotModel.calms -/
theorem dX12_calms_0 : decode cX12_calms 0 = .ok (.aload_n 0, 1) := by decide +kernel
theorem dX12_calms_1 : decode cX12_calms 1 = .ok (.iconst 0, 1) := by decide +kernel
theorem dX12_calms_2 : decode cX12_calms 2 = .ok (.putfield 93, 3) := by decide +kernel
theorem dX12_calms_5 : decode cX12_calms 5 = .ok (.aload_n 0, 1) := by decide +kernel
theorem dX12_calms_6 : decode cX12_calms 6 = .ok (.getfield 291, 3) := by decide +kernel
theorem dX12_calms_9 : decode cX12_calms 9 = .ok (.ifCond .eq 17, 3) := by decide +kernel
theorem dX12_calms_12 : decode cX12_calms 12 = .ok (.aload_n 0, 1) := by decide +kernel
theorem dX12_calms_13 : decode cX12_calms 13 = .ok (.aload_n 0, 1) := by decide +kernel
theorem dX12_calms_14 : decode cX12_calms 14 = .ok (.getfield 61, 3) := by decide +kernel
theorem dX12_calms_17 : decode cX12_calms 17 = .ok (.iload_n 1, 1) := by decide +kernel
theorem dX12_calms_18 : decode cX12_calms 18 = .ok (.iload_n 2, 1) := by decide +kernel
theorem dX12_calms_19 : decode cX12_calms 19 = .ok (.iconst 0, 1) := by decide +kernel
theorem dX12_calms_20 : decode cX12_calms 20 = .ok (.invokevirtual 355, 3) := by decide +kernel
theorem dX12_calms_23 : decode cX12_calms 23 = .ok (.ifCond .ne 5, 3) := by decide +kernel
theorem dX12_calms_26 : decode cX12_calms 26 = .ok (.iconst (-1), 1) := by decide +kernel
theorem dX12_calms_27 : decode cX12_calms 27 = .ok (.ireturn, 1) := by decide +kernel
theorem dX12_calms_28 : decode cX12_calms 28 = .ok (.aload_n 0, 1) := by decide +kernel
theorem dX12_calms_29 : decode cX12_calms 29 = .ok (.getfield 61, 3) := by decide +kernel
theorem dX12_calms_32 : decode cX12_calms 32 = .ok (.aload_n 0, 1) := by decide +kernel
theorem dX12_calms_33 : decode cX12_calms 33 = .ok (.getfield 64, 3) := by decide +kernel
theorem dX12_calms_36 : decode cX12_calms 36 = .ok (.invokestatic 401, 3) := by decide +kernel
theorem dX12_calms_39 : decode cX12_calms 39 = .ok (.aload_n 0, 1) := by decide +kernel
theorem dX12_calms_40 : decode cX12_calms 40 = .ok (.aload_n 0, 1) := by decide +kernel
theorem dX12_calms_41 : decode cX12_calms 41 = .ok (.getfield 64, 3) := by decide +kernel
theorem dX12_calms_44 : decode cX12_calms 44 = .ok (.iload_n 1, 1) := by decide +kernel
theorem dX12_calms_45 : decode cX12_calms 45 = .ok (.iload_n 2, 1) := by decide +kernel
theorem dX12_calms_46 : decode cX12_calms 46 = .ok (.iconst 0, 1) := by decide +kernel
theorem dX12_calms_47 : decode cX12_calms 47 = .ok (.invokevirtual 365, 3) := by decide +kernel
theorem dX12_calms_50 : decode cX12_calms 50 = .ok (.aload_n 0, 1) := by decide +kernel
theorem dX12_calms_51 : decode cX12_calms 51 = .ok (.getfield 64, 3) := by decide +kernel
theorem dX12_calms_54 : decode cX12_calms 54 = .ok (.bipush 22, 2) := by decide +kernel
theorem dX12_calms_56 : decode cX12_calms 56 = .ok (.iaload, 1) := by decide +kernel
theorem dX12_calms_57 : decode cX12_calms 57 = .ok (.ireturn, 1) := by decide +kernel
def X12_calms (n : Nat) (x1 : Int32) (x2 : Int32) (h : Mm) : Option (Int32 × Mm) := (if ((wI h 251 0 (0 : Int32)).1 251 27) = 0 then (some ((-1 : Int32), (wI h 251 0 (0 : Int32)))) else (bp (X12_canRead 264 x1 x2 false (wI h 251 0 (0 : Int32))) (fun r9 => (if r9 = true then (bd (X12_copy n 264 265 (wI h 251 0 (0 : Int32))) (fun _ h13 => (bd (X12_reads n 265 x1 x2 false h13) (fun _ h16 => (if inB (22 : Int32) (aln 265) then (some ((h16.1 265 (22 : Int32).toNatClampNeg), h16)) else none))))) else (some ((-1 : Int32), (wI h 251 0 (0 : Int32))))))))
set_option maxRecDepth 100000 in
set_option maxHeartbeats 4000000 in
theorem s_X12_calms {X : WX} {o : Mm} {n : Nat} {x1 : Int32} {x2 : Int32} {rv : Int32} {hz : Mm} {h : Mm} (hF : X12_calms n x1 x2 h = some (rv, hz)) : Sat X yX12_calms cX12_calms 3 (some .int) 92 [.ref (xa X 251), .int x1, .int x2] false o h (some (.int rv)) hz := by
  unfold X12_calms at hF
  refine Sat.mk (own := RX12) rfl (by decide +kernel) (Nat.le_of_ble_eq_true rfl) (fun G => ?_)
  refine V.sub (lv2 := [(0, _), (1, _), (2, _)]) [0, 1, 2] rfl ?_
  refine V.aload_n 0 dX12_calms_0 rfl rfl ?_
  refine V.iconst (v := 0) dX12_calms_1 rfl ?_
  refine V.putI fl_X12_93 rfl (tyX12_ok 0 (by decide)) rfl rfl sh_251 rfl km_251 dX12_calms_2 ?_
  refine V.aload_n 0 dX12_calms_5 rfl rfl ?_
  refine V.getI fl_X12_291 sh_251 rfl km_251 dX12_calms_6 ?_
  refine V.if_eq (tgt := 26) dX12_calms_9 rfl (fun c => ?_) (fun c => ?_)
  · replace hF := ip c hF
    refine V.iconst (v := -1) dX12_calms_26 rfl ?_
    cases hF
    exact V.iret dX12_calms_27
  · replace hF := iq c hF
    refine V.aload_n 0 dX12_calms_12 rfl rfl ?_
    refine V.aload_n 0 dX12_calms_13 rfl rfl ?_
    refine V.getR (v := 264) fl_X12_61 sh_251 rfl fx_251_32 (by decide) dX12_calms_14 ?_
    refine V.iload_n 1 dX12_calms_17 rfl rfl ?_
    refine V.iload_n 2 dX12_calms_18 rfl rfl ?_
    refine V.iconst (v := 0) dX12_calms_19 rfl ?_
    obtain ⟨r9, hc10, hF⟩ := bp_s hF
    refine V.callVi mf_X12_canRead ml_X12_355 sh_251 (s_X12_canRead io_264 hc10) (by decide) rfl rfl (Nat.le_of_ble_eq_true rfl) dX12_calms_20 ?_
    refine V.ifz_ne (tgt := 28) dX12_calms_23 rfl (fun c => ?_) (fun c => ?_)
    · replace hF := ip c hF
      refine V.aload_n 0 dX12_calms_28 rfl rfl ?_
      refine V.getR (v := 264) fl_X12_61 sh_251 rfl fx_251_32 (by decide) dX12_calms_29 ?_
      refine V.aload_n 0 dX12_calms_32 rfl rfl ?_
      refine V.getR (v := 265) fl_X12_64 sh_251 rfl fx_251_33 (by decide) dX12_calms_33 ?_
      obtain ⟨r11, h13, hc12, hF⟩ := bd_s hF
      refine V.callSv mf_X12_copy ml_X12_401 (s_X12_copy io_264 io_265 hc12) (by decide) rfl rfl (Nat.le_of_ble_eq_true rfl) dX12_calms_36 ?_
      refine V.aload_n 0 dX12_calms_39 rfl rfl ?_
      refine V.aload_n 0 dX12_calms_40 rfl rfl ?_
      refine V.getR (v := 265) fl_X12_64 sh_251 rfl fx_251_33 (by decide) dX12_calms_41 ?_
      refine V.iload_n 1 dX12_calms_44 rfl rfl ?_
      refine V.iload_n 2 dX12_calms_45 rfl rfl ?_
      refine V.iconst (v := 0) dX12_calms_46 rfl ?_
      obtain ⟨r14, h16, hc15, hF⟩ := bd_s hF
      refine V.callVv mf_X12_reads ml_X12_365 sh_251 (s_X12_reads io_265 hc15) (by decide) rfl rfl (Nat.le_of_ble_eq_true rfl) dX12_calms_47 ?_
      refine V.aload_n 0 dX12_calms_50 rfl rfl ?_
      refine V.getR (v := 265) fl_X12_64 sh_251 rfl fx_251_33 (by decide) dX12_calms_51 ?_
      refine V.bipush (v := 22) dX12_calms_54 (by decide) ?_
      obtain ⟨hk, hF⟩ := ck hF
      refine V.iald io_265 hk dX12_calms_56 ?_
      cases hF
      exact V.iret dX12_calms_57
    · replace hF := iq c hF
      refine V.iconst (v := -1) dX12_calms_26 rfl ?_
      cases hF
      exact V.iret dX12_calms_27
/-! MonsterCotModel.goLeast -/
theorem dX12_goLeast_0 : decode cX12_goLeast 0 = .ok (.aload_n 0, 1) := by decide +kernel
theorem dX12_goLeast_1 : decode cX12_goLeast 1 = .ok (.aload_n 0, 1) := by decide +kernel
theorem dX12_goLeast_2 : decode cX12_goLeast 2 = .ok (.getfield 64, 3) := by decide +kernel
theorem dX12_goLeast_5 : decode cX12_goLeast 5 = .ok (.bipush 22, 2) := by decide +kernel
theorem dX12_goLeast_7 : decode cX12_goLeast 7 = .ok (.iaload, 1) := by decide +kernel
theorem dX12_goLeast_8 : decode cX12_goLeast 8 = .ok (.invokevirtual 340, 3) := by decide +kernel
theorem dX12_goLeast_11 : decode cX12_goLeast 11 = .ok (.ifCond .eq 47, 3) := by decide +kernel
theorem dX12_goLeast_14 : decode cX12_goLeast 14 = .ok (.aload_n 0, 1) := by decide +kernel
theorem dX12_goLeast_15 : decode cX12_goLeast 15 = .ok (.getfield 412, 3) := by decide +kernel
theorem dX12_goLeast_18 : decode cX12_goLeast 18 = .ok (.iconst (-1), 1) := by decide +kernel
theorem dX12_goLeast_19 : decode cX12_goLeast 19 = .ok (.if_icmp .eq 28, 3) := by decide +kernel
theorem dX12_goLeast_22 : decode cX12_goLeast 22 = .ok (.iload_n 2, 1) := by decide +kernel
theorem dX12_goLeast_23 : decode cX12_goLeast 23 = .ok (.aload_n 0, 1) := by decide +kernel
theorem dX12_goLeast_24 : decode cX12_goLeast 24 = .ok (.getfield 412, 3) := by decide +kernel
theorem dX12_goLeast_27 : decode cX12_goLeast 27 = .ok (.if_icmp .gt 19, 3) := by decide +kernel
theorem dX12_goLeast_30 : decode cX12_goLeast 30 = .ok (.iload_n 2, 1) := by decide +kernel
theorem dX12_goLeast_31 : decode cX12_goLeast 31 = .ok (.aload_n 0, 1) := by decide +kernel
theorem dX12_goLeast_32 : decode cX12_goLeast 32 = .ok (.getfield 412, 3) := by decide +kernel
theorem dX12_goLeast_35 : decode cX12_goLeast 35 = .ok (.if_icmp .ne 12, 3) := by decide +kernel
theorem dX12_goLeast_38 : decode cX12_goLeast 38 = .ok (.iload_n 3, 1) := by decide +kernel
theorem dX12_goLeast_39 : decode cX12_goLeast 39 = .ok (.aload_n 0, 1) := by decide +kernel
theorem dX12_goLeast_40 : decode cX12_goLeast 40 = .ok (.getfield 415, 3) := by decide +kernel
theorem dX12_goLeast_43 : decode cX12_goLeast 43 = .ok (.if_icmp .lt 4, 3) := by decide +kernel
theorem dX12_goLeast_46 : decode cX12_goLeast 46 = .ok (.return_, 1) := by decide +kernel
theorem dX12_goLeast_47 : decode cX12_goLeast 47 = .ok (.aload_n 0, 1) := by decide +kernel
theorem dX12_goLeast_48 : decode cX12_goLeast 48 = .ok (.iload_n 2, 1) := by decide +kernel
theorem dX12_goLeast_49 : decode cX12_goLeast 49 = .ok (.putfield 412, 3) := by decide +kernel
theorem dX12_goLeast_52 : decode cX12_goLeast 52 = .ok (.aload_n 0, 1) := by decide +kernel
theorem dX12_goLeast_53 : decode cX12_goLeast 53 = .ok (.iload_n 3, 1) := by decide +kernel
theorem dX12_goLeast_54 : decode cX12_goLeast 54 = .ok (.putfield 415, 3) := by decide +kernel
theorem dX12_goLeast_57 : decode cX12_goLeast 57 = .ok (.return_, 1) := by decide +kernel
theorem dX12_goLeast_58 : decode cX12_goLeast 58 = .ok (.iload_n 1, 1) := by decide +kernel
theorem dX12_goLeast_59 : decode cX12_goLeast 59 = .ok (.ifCond .ne 4, 3) := by decide +kernel
theorem dX12_goLeast_62 : decode cX12_goLeast 62 = .ok (.return_, 1) := by decide +kernel
theorem dX12_goLeast_63 : decode cX12_goLeast 63 = .ok (.iconst 3, 1) := by decide +kernel
theorem dX12_goLeast_64 : decode cX12_goLeast 64 = .ok (.aload_n 0, 1) := by decide +kernel
theorem dX12_goLeast_65 : decode cX12_goLeast 65 = .ok (.getfield 64, 3) := by decide +kernel
theorem dX12_goLeast_68 : decode cX12_goLeast 68 = .ok (.bipush 23, 2) := by decide +kernel
theorem dX12_goLeast_70 : decode cX12_goLeast 70 = .ok (.iaload, 1) := by decide +kernel
theorem dX12_goLeast_71 : decode cX12_goLeast 71 = .ok (.imul, 1) := by decide +kernel
theorem dX12_goLeast_72 : decode cX12_goLeast 72 = .ok (.iconst 0, 1) := by decide +kernel
theorem dX12_goLeast_73 : decode cX12_goLeast 73 = .ok (.iadd, 1) := by decide +kernel
theorem dX12_goLeast_74 : decode cX12_goLeast 74 = .ok (.istore 4, 2) := by decide +kernel
theorem dX12_goLeast_76 : decode cX12_goLeast 76 = .ok (.aload_n 0, 1) := by decide +kernel
theorem dX12_goLeast_77 : decode cX12_goLeast 77 = .ok (.getfield 64, 3) := by decide +kernel
theorem dX12_goLeast_80 : decode cX12_goLeast 80 = .ok (.bipush 22, 2) := by decide +kernel
theorem dX12_goLeast_82 : decode cX12_goLeast 82 = .ok (.iaload, 1) := by decide +kernel
theorem dX12_goLeast_83 : decode cX12_goLeast 83 = .ok (.istore 5, 2) := by decide +kernel
theorem dX12_goLeast_85 : decode cX12_goLeast 85 = .ok (.aload_n 0, 1) := by decide +kernel
theorem dX12_goLeast_86 : decode cX12_goLeast 86 = .ok (.getfield 64, 3) := by decide +kernel
theorem dX12_goLeast_89 : decode cX12_goLeast 89 = .ok (.iload 4, 2) := by decide +kernel
theorem dX12_goLeast_91 : decode cX12_goLeast 91 = .ok (.iaload, 1) := by decide +kernel
theorem dX12_goLeast_92 : decode cX12_goLeast 92 = .ok (.istore 6, 2) := by decide +kernel
theorem dX12_goLeast_94 : decode cX12_goLeast 94 = .ok (.iconst 0, 1) := by decide +kernel
theorem dX12_goLeast_95 : decode cX12_goLeast 95 = .ok (.istore 7, 2) := by decide +kernel
theorem dX12_goLeast_97 : decode cX12_goLeast 97 = .ok (.iload 7, 2) := by decide +kernel
theorem dX12_goLeast_99 : decode cX12_goLeast 99 = .ok (.aload_n 0, 1) := by decide +kernel
theorem dX12_goLeast_100 : decode cX12_goLeast 100 = .ok (.getfield 288, 3) := by decide +kernel
theorem dX12_goLeast_103 : decode cX12_goLeast 103 = .ok (.if_icmp .ge 167, 3) := by decide +kernel
theorem dX12_goLeast_106 : decode cX12_goLeast 106 = .ok (.bipush 18, 2) := by decide +kernel
theorem dX12_goLeast_108 : decode cX12_goLeast 108 = .ok (.aload_n 0, 1) := by decide +kernel
theorem dX12_goLeast_109 : decode cX12_goLeast 109 = .ok (.iload 7, 2) := by decide +kernel
theorem dX12_goLeast_111 : decode cX12_goLeast 111 = .ok (.invokevirtual 328, 3) := by decide +kernel
theorem dX12_goLeast_114 : decode cX12_goLeast 114 = .ok (.iadd, 1) := by decide +kernel
theorem dX12_goLeast_115 : decode cX12_goLeast 115 = .ok (.istore 8, 2) := by decide +kernel
theorem dX12_goLeast_117 : decode cX12_goLeast 117 = .ok (.aload_n 0, 1) := by decide +kernel
theorem dX12_goLeast_118 : decode cX12_goLeast 118 = .ok (.getfield 64, 3) := by decide +kernel
theorem dX12_goLeast_121 : decode cX12_goLeast 121 = .ok (.iload 8, 2) := by decide +kernel
theorem dX12_goLeast_123 : decode cX12_goLeast 123 = .ok (.iaload, 1) := by decide +kernel
theorem dX12_goLeast_124 : decode cX12_goLeast 124 = .ok (.istore 9, 2) := by decide +kernel
theorem dX12_goLeast_126 : decode cX12_goLeast 126 = .ok (.iconst 1, 1) := by decide +kernel
theorem dX12_goLeast_127 : decode cX12_goLeast 127 = .ok (.istore 10, 2) := by decide +kernel
theorem dX12_goLeast_129 : decode cX12_goLeast 129 = .ok (.iload 10, 2) := by decide +kernel
theorem dX12_goLeast_131 : decode cX12_goLeast 131 = .ok (.aload_n 0, 1) := by decide +kernel
theorem dX12_goLeast_132 : decode cX12_goLeast 132 = .ok (.iload 7, 2) := by decide +kernel
theorem dX12_goLeast_134 : decode cX12_goLeast 134 = .ok (.invokevirtual 322, 3) := by decide +kernel
theorem dX12_goLeast_137 : decode cX12_goLeast 137 = .ok (.if_icmp .gt 127, 3) := by decide +kernel
theorem dX12_goLeast_140 : decode cX12_goLeast 140 = .ok (.aload_n 0, 1) := by decide +kernel
theorem dX12_goLeast_141 : decode cX12_goLeast 141 = .ok (.aload_n 0, 1) := by decide +kernel
theorem dX12_goLeast_142 : decode cX12_goLeast 142 = .ok (.getfield 64, 3) := by decide +kernel
theorem dX12_goLeast_145 : decode cX12_goLeast 145 = .ok (.iload 7, 2) := by decide +kernel
theorem dX12_goLeast_147 : decode cX12_goLeast 147 = .ok (.iload 10, 2) := by decide +kernel
theorem dX12_goLeast_149 : decode cX12_goLeast 149 = .ok (.iconst 0, 1) := by decide +kernel
theorem dX12_goLeast_150 : decode cX12_goLeast 150 = .ok (.invokevirtual 359, 3) := by decide +kernel
theorem dX12_goLeast_153 : decode cX12_goLeast 153 = .ok (.ifCond .eq 111, 3) := by decide +kernel
theorem dX12_goLeast_156 : decode cX12_goLeast 156 = .ok (.aload_n 0, 1) := by decide +kernel
theorem dX12_goLeast_157 : decode cX12_goLeast 157 = .ok (.getfield 412, 3) := by decide +kernel
theorem dX12_goLeast_160 : decode cX12_goLeast 160 = .ok (.iconst (-1), 1) := by decide +kernel
theorem dX12_goLeast_161 : decode cX12_goLeast 161 = .ok (.if_icmp .eq 17, 3) := by decide +kernel
theorem dX12_goLeast_164 : decode cX12_goLeast 164 = .ok (.iload_n 2, 1) := by decide +kernel
theorem dX12_goLeast_165 : decode cX12_goLeast 165 = .ok (.iload 10, 2) := by decide +kernel
theorem dX12_goLeast_167 : decode cX12_goLeast 167 = .ok (.iadd, 1) := by decide +kernel
theorem dX12_goLeast_168 : decode cX12_goLeast 168 = .ok (.aload_n 0, 1) := by decide +kernel
theorem dX12_goLeast_169 : decode cX12_goLeast 169 = .ok (.getfield 412, 3) := by decide +kernel
theorem dX12_goLeast_172 : decode cX12_goLeast 172 = .ok (.if_icmp .le 6, 3) := by decide +kernel
theorem dX12_goLeast_175 : decode cX12_goLeast 175 = .ok (.goto 89, 3) := by decide +kernel
theorem dX12_goLeast_178 : decode cX12_goLeast 178 = .ok (.aload_n 0, 1) := by decide +kernel
theorem dX12_goLeast_179 : decode cX12_goLeast 179 = .ok (.aload_n 0, 1) := by decide +kernel
theorem dX12_goLeast_180 : decode cX12_goLeast 180 = .ok (.getfield 64, 3) := by decide +kernel
theorem dX12_goLeast_183 : decode cX12_goLeast 183 = .ok (.iload 7, 2) := by decide +kernel
theorem dX12_goLeast_185 : decode cX12_goLeast 185 = .ok (.iload 10, 2) := by decide +kernel
theorem dX12_goLeast_187 : decode cX12_goLeast 187 = .ok (.iconst 0, 1) := by decide +kernel
theorem dX12_goLeast_188 : decode cX12_goLeast 188 = .ok (.invokevirtual 365, 3) := by decide +kernel
theorem dX12_goLeast_191 : decode cX12_goLeast 191 = .ok (.aload_n 0, 1) := by decide +kernel
theorem dX12_goLeast_192 : decode cX12_goLeast 192 = .ok (.iload_n 1, 1) := by decide +kernel
theorem dX12_goLeast_193 : decode cX12_goLeast 193 = .ok (.iconst 1, 1) := by decide +kernel
theorem dX12_goLeast_194 : decode cX12_goLeast 194 = .ok (.isub, 1) := by decide +kernel
theorem dX12_goLeast_195 : decode cX12_goLeast 195 = .ok (.iload_n 2, 1) := by decide +kernel
theorem dX12_goLeast_196 : decode cX12_goLeast 196 = .ok (.iload 10, 2) := by decide +kernel
theorem dX12_goLeast_198 : decode cX12_goLeast 198 = .ok (.iadd, 1) := by decide +kernel
theorem dX12_goLeast_199 : decode cX12_goLeast 199 = .ok (.bipush 100, 2) := by decide +kernel
theorem dX12_goLeast_201 : decode cX12_goLeast 201 = .ok (.iload_n 3, 1) := by decide +kernel
theorem dX12_goLeast_202 : decode cX12_goLeast 202 = .ok (.imul, 1) := by decide +kernel
theorem dX12_goLeast_203 : decode cX12_goLeast 203 = .ok (.bipush 10, 2) := by decide +kernel
theorem dX12_goLeast_205 : decode cX12_goLeast 205 = .ok (.iload 7, 2) := by decide +kernel
theorem dX12_goLeast_207 : decode cX12_goLeast 207 = .ok (.imul, 1) := by decide +kernel
theorem dX12_goLeast_208 : decode cX12_goLeast 208 = .ok (.iadd, 1) := by decide +kernel
theorem dX12_goLeast_209 : decode cX12_goLeast 209 = .ok (.iload 10, 2) := by decide +kernel
theorem dX12_goLeast_211 : decode cX12_goLeast 211 = .ok (.iadd, 1) := by decide +kernel
theorem dX12_goLeast_212 : decode cX12_goLeast 212 = .ok (.invokevirtual 418, 3) := by decide +kernel
theorem dX12_goLeast_215 : decode cX12_goLeast 215 = .ok (.aload_n 0, 1) := by decide +kernel
theorem dX12_goLeast_216 : decode cX12_goLeast 216 = .ok (.getfield 64, 3) := by decide +kernel
theorem dX12_goLeast_219 : decode cX12_goLeast 219 = .ok (.bipush 22, 2) := by decide +kernel
theorem dX12_goLeast_221 : decode cX12_goLeast 221 = .ok (.iload 5, 2) := by decide +kernel
theorem dX12_goLeast_223 : decode cX12_goLeast 223 = .ok (.iastore, 1) := by decide +kernel
theorem dX12_goLeast_224 : decode cX12_goLeast 224 = .ok (.aload_n 0, 1) := by decide +kernel
theorem dX12_goLeast_225 : decode cX12_goLeast 225 = .ok (.getfield 64, 3) := by decide +kernel
theorem dX12_goLeast_228 : decode cX12_goLeast 228 = .ok (.iload 4, 2) := by decide +kernel
theorem dX12_goLeast_230 : decode cX12_goLeast 230 = .ok (.iload 6, 2) := by decide +kernel
theorem dX12_goLeast_232 : decode cX12_goLeast 232 = .ok (.iastore, 1) := by decide +kernel
theorem dX12_goLeast_233 : decode cX12_goLeast 233 = .ok (.aload_n 0, 1) := by decide +kernel
theorem dX12_goLeast_234 : decode cX12_goLeast 234 = .ok (.getfield 64, 3) := by decide +kernel
theorem dX12_goLeast_237 : decode cX12_goLeast 237 = .ok (.iload 8, 2) := by decide +kernel
theorem dX12_goLeast_239 : decode cX12_goLeast 239 = .ok (.iload 9, 2) := by decide +kernel
theorem dX12_goLeast_241 : decode cX12_goLeast 241 = .ok (.iastore, 1) := by decide +kernel
theorem dX12_goLeast_242 : decode cX12_goLeast 242 = .ok (.aload_n 0, 1) := by decide +kernel
theorem dX12_goLeast_243 : decode cX12_goLeast 243 = .ok (.getfield 64, 3) := by decide +kernel
theorem dX12_goLeast_246 : decode cX12_goLeast 246 = .ok (.bipush 24, 2) := by decide +kernel
theorem dX12_goLeast_248 : decode cX12_goLeast 248 = .ok (.dup2, 1) := by decide +kernel
theorem dX12_goLeast_249 : decode cX12_goLeast 249 = .ok (.iaload, 1) := by decide +kernel
theorem dX12_goLeast_250 : decode cX12_goLeast 250 = .ok (.iconst 1, 1) := by decide +kernel
theorem dX12_goLeast_251 : decode cX12_goLeast 251 = .ok (.iload 7, 2) := by decide +kernel
theorem dX12_goLeast_253 : decode cX12_goLeast 253 = .ok (.ishl, 1) := by decide +kernel
theorem dX12_goLeast_254 : decode cX12_goLeast 254 = .ok (.iconst (-1), 1) := by decide +kernel
theorem dX12_goLeast_255 : decode cX12_goLeast 255 = .ok (.ixor, 1) := by decide +kernel
theorem dX12_goLeast_256 : decode cX12_goLeast 256 = .ok (.iand, 1) := by decide +kernel
theorem dX12_goLeast_257 : decode cX12_goLeast 257 = .ok (.iastore, 1) := by decide +kernel
theorem dX12_goLeast_258 : decode cX12_goLeast 258 = .ok (.iinc 10 1, 3) := by decide +kernel
theorem dX12_goLeast_261 : decode cX12_goLeast 261 = .ok (.goto (-132), 3) := by decide +kernel
theorem dX12_goLeast_264 : decode cX12_goLeast 264 = .ok (.iinc 7 1, 3) := by decide +kernel
theorem dX12_goLeast_267 : decode cX12_goLeast 267 = .ok (.goto (-170), 3) := by decide +kernel
theorem dX12_goLeast_270 : decode cX12_goLeast 270 = .ok (.return_, 1) := by decide +kernel
def X12_goLeast_47 (n : Nat) (rf : Int32 → Int32 → Int32 → Mm → Option (Unit × Mm)) (x2 : Int32) (x3 : Int32) (h : Mm) : Option (Unit × Mm) := (some ((), (wI (wI h 251 41 x2) 251 42 x3)))
set_option maxRecDepth 100000 in
set_option maxHeartbeats 4000000 in
theorem v_X12_goLeast_47 {X : WX} {G : GX} {o : Mm} {n : Nat} {rf : Int32 → Int32 → Int32 → Mm → Option (Unit × Mm)} {dr : Nat} (hdr : 93 ≤ dr) (hrf : ∀ (x1 : Int32) (x2 : Int32) (x3 : Int32)  (h : Mm) (r : Unit) (h2 : Mm), rf x1 x2 x3 h = some (r, h2) → Sat X yX12_goLeast cX12_goLeast 11 (none) dr [.ref (xa X 251), .int x1, .int x2, .int x3] false o h none h2) {DD : Nat} (hDD : dr + 1 ≤ DD) {rv : Unit} {hz : Mm} {x2 : Int32} {x3 : Int32} {h : Mm} (hF : X12_goLeast_47 n rf x2 x3 h = some (rv, hz)) : V X G RX12 cX12_goLeast 11 (none) DD 0 0 (QR X G false o none hz) false o 47 [(0, .ref (xa X 251)), (2, .int x2), (3, .int x3)] [] h := by
  unfold X12_goLeast_47 at hF
  refine V.aload_n 0 dX12_goLeast_47 rfl rfl ?_
  refine V.iload_n 1 dX12_goLeast_48 rfl rfl ?_
  refine V.putI fl_X12_412 rfl (tyX12_ok 41 (by decide)) rfl rfl sh_251 rfl km_251 dX12_goLeast_49 ?_
  refine V.aload_n 0 dX12_goLeast_52 rfl rfl ?_
  refine V.iload_n 2 dX12_goLeast_53 rfl rfl ?_
  refine V.putI fl_X12_415 rfl (tyX12_ok 42 (by decide)) rfl rfl sh_251 rfl km_251 dX12_goLeast_54 ?_
  cases hF
  exact V.vret dX12_goLeast_57
def X12_goLeast_178 (n : Nat) (rf : Int32 → Int32 → Int32 → Mm → Option (Unit × Mm)) (K97 : Int32 → Int32 → Int32 → Int32 → Int32 → Int32 → Int32 → Mm → Option (Unit × Mm)) (K129 : Int32 → Int32 → Int32 → Int32 → Int32 → Int32 → Int32 → Int32 → Int32 → Int32 → Mm → Option (Unit × Mm)) (x1 : Int32) (x2 : Int32) (x3 : Int32) (x4 : Int32) (x5 : Int32) (x6 : Int32) (x7 : Int32) (x8 : Int32) (x9 : Int32) (x10 : Int32) (h : Mm) : Option (Unit × Mm) := (bd (X12_reads n 265 x7 x10 false h) (fun _ h57 => (bd (rf (x1 - (1 : Int32)) (x2 + x10) ((((100 : Int32) * x3) + ((10 : Int32) * x7)) + x10) h57) (fun _ h60 => (if inB (22 : Int32) (aln 265) then (if inB x4 (aln 265) then (if inB x8 (aln 265) then (if inB (24 : Int32) (aln 265) then (if inB (24 : Int32) (aln 265) then (K129 x1 x2 x3 x4 x5 x6 x7 x8 x9 (x10 + (1)) (wI (wI (wI (wI h60 265 (22 : Int32).toNatClampNeg x5) 265 x4.toNatClampNeg x6) 265 x8.toNatClampNeg x9) 265 (24 : Int32).toNatClampNeg (((wI (wI (wI h60 265 (22 : Int32).toNatClampNeg x5) 265 x4.toNatClampNeg x6) 265 x8.toNatClampNeg x9).1 265 (24 : Int32).toNatClampNeg) &&& (((1 : Int32) <<< (x7 &&& 31)) ^^^ (-1 : Int32))))) else none) else none) else none) else none) else none)))))
set_option maxRecDepth 100000 in
set_option maxHeartbeats 4000000 in
theorem v_X12_goLeast_178 {X : WX} {G : GX} {o : Mm} {n : Nat} {rf : Int32 → Int32 → Int32 → Mm → Option (Unit × Mm)} {dr : Nat} (hdr : 93 ≤ dr) (hrf : ∀ (x1 : Int32) (x2 : Int32) (x3 : Int32)  (h : Mm) (r : Unit) (h2 : Mm), rf x1 x2 x3 h = some (r, h2) → Sat X yX12_goLeast cX12_goLeast 11 (none) dr [.ref (xa X 251), .int x1, .int x2, .int x3] false o h none h2) {DD : Nat} (hDD : dr + 1 ≤ DD) {K97 : Int32 → Int32 → Int32 → Int32 → Int32 → Int32 → Int32 → Mm → Option (Unit × Mm)} {K129 : Int32 → Int32 → Int32 → Int32 → Int32 → Int32 → Int32 → Int32 → Int32 → Int32 → Mm → Option (Unit × Mm)} {rv : Unit} {hz : Mm} (hK97 : ∀ (x1 : Int32) (x2 : Int32) (x3 : Int32) (x4 : Int32) (x5 : Int32) (x6 : Int32) (x7 : Int32) (h : Mm), K97 x1 x2 x3 x4 x5 x6 x7 h = some (rv, hz) → V X G RX12 cX12_goLeast 11 (none) DD 0 0 (QR X G false o none hz) false o 97 [(0, .ref (xa X 251)), (1, .int x1), (2, .int x2), (3, .int x3), (4, .int x4), (5, .int x5), (6, .int x6), (7, .int x7)] [] h) (hK129 : ∀ (x1 : Int32) (x2 : Int32) (x3 : Int32) (x4 : Int32) (x5 : Int32) (x6 : Int32) (x7 : Int32) (x8 : Int32) (x9 : Int32) (x10 : Int32) (h : Mm), K129 x1 x2 x3 x4 x5 x6 x7 x8 x9 x10 h = some (rv, hz) → V X G RX12 cX12_goLeast 11 (none) DD 0 0 (QR X G false o none hz) false o 129 [(0, .ref (xa X 251)), (1, .int x1), (2, .int x2), (3, .int x3), (4, .int x4), (5, .int x5), (6, .int x6), (7, .int x7), (8, .int x8), (9, .int x9), (10, .int x10)] [] h) {x1 : Int32} {x2 : Int32} {x3 : Int32} {x4 : Int32} {x5 : Int32} {x6 : Int32} {x7 : Int32} {x8 : Int32} {x9 : Int32} {x10 : Int32} {h : Mm} (hF : X12_goLeast_178 n rf K97 K129 x1 x2 x3 x4 x5 x6 x7 x8 x9 x10 h = some (rv, hz)) : V X G RX12 cX12_goLeast 11 (none) DD 0 0 (QR X G false o none hz) false o 178 [(0, .ref (xa X 251)), (1, .int x1), (2, .int x2), (3, .int x3), (4, .int x4), (5, .int x5), (6, .int x6), (7, .int x7), (8, .int x8), (9, .int x9), (10, .int x10)] [] h := by
  unfold X12_goLeast_178 at hF
  refine V.aload_n 0 dX12_goLeast_178 rfl rfl ?_
  refine V.aload_n 0 dX12_goLeast_179 rfl rfl ?_
  refine V.getR (v := 265) fl_X12_64 sh_251 rfl fx_251_33 (by decide) dX12_goLeast_180 ?_
  refine V.iload 7 dX12_goLeast_183 rfl ?_
  refine V.iload 10 dX12_goLeast_185 rfl ?_
  refine V.iconst (v := 0) dX12_goLeast_187 rfl ?_
  obtain ⟨r55, h57, hc56, hF⟩ := bd_s hF
  refine V.callVv mf_X12_reads ml_X12_365 sh_251 (s_X12_reads io_265 hc56) (by omega) rfl rfl (Nat.le_of_ble_eq_true rfl) dX12_goLeast_188 ?_
  refine V.aload_n 0 dX12_goLeast_191 rfl rfl ?_
  refine V.iload_n 1 dX12_goLeast_192 rfl rfl ?_
  refine V.iconst (v := 1) dX12_goLeast_193 rfl ?_
  refine V.isub dX12_goLeast_194 ?_
  refine V.iload_n 2 dX12_goLeast_195 rfl rfl ?_
  refine V.iload 10 dX12_goLeast_196 rfl ?_
  refine V.iadd dX12_goLeast_198 ?_
  refine V.bipush (v := 100) dX12_goLeast_199 (by decide) ?_
  refine V.iload_n 3 dX12_goLeast_201 rfl rfl ?_
  refine V.imul dX12_goLeast_202 ?_
  refine V.bipush (v := 10) dX12_goLeast_203 (by decide) ?_
  refine V.iload 7 dX12_goLeast_205 rfl ?_
  refine V.imul dX12_goLeast_207 ?_
  refine V.iadd dX12_goLeast_208 ?_
  refine V.iload 10 dX12_goLeast_209 rfl ?_
  refine V.iadd dX12_goLeast_211 ?_
  obtain ⟨r58, h60, hc59, hF⟩ := bd_s hF
  refine V.callVv mf_X12_goLeast ml_X12_418 sh_251 (hrf _ _ _ _ _ _ hc59) (by omega) rfl rfl (Nat.le_of_ble_eq_true rfl) dX12_goLeast_212 ?_
  refine V.aload_n 0 dX12_goLeast_215 rfl rfl ?_
  refine V.getR (v := 265) fl_X12_64 sh_251 rfl fx_251_33 (by decide) dX12_goLeast_216 ?_
  refine V.bipush (v := 22) dX12_goLeast_219 (by decide) ?_
  refine V.iload 5 dX12_goLeast_221 rfl ?_
  obtain ⟨hk, hF⟩ := ck hF
  refine V.iast io_265 hk dX12_goLeast_223 ?_
  refine V.aload_n 0 dX12_goLeast_224 rfl rfl ?_
  refine V.getR (v := 265) fl_X12_64 sh_251 rfl fx_251_33 (by decide) dX12_goLeast_225 ?_
  refine V.iload 4 dX12_goLeast_228 rfl ?_
  refine V.iload 6 dX12_goLeast_230 rfl ?_
  obtain ⟨hk, hF⟩ := ck hF
  refine V.iast io_265 hk dX12_goLeast_232 ?_
  refine V.aload_n 0 dX12_goLeast_233 rfl rfl ?_
  refine V.getR (v := 265) fl_X12_64 sh_251 rfl fx_251_33 (by decide) dX12_goLeast_234 ?_
  refine V.iload 8 dX12_goLeast_237 rfl ?_
  refine V.iload 9 dX12_goLeast_239 rfl ?_
  obtain ⟨hk, hF⟩ := ck hF
  refine V.iast io_265 hk dX12_goLeast_241 ?_
  refine V.aload_n 0 dX12_goLeast_242 rfl rfl ?_
  refine V.getR (v := 265) fl_X12_64 sh_251 rfl fx_251_33 (by decide) dX12_goLeast_243 ?_
  refine V.bipush (v := 24) dX12_goLeast_246 (by decide) ?_
  refine V.dup2 dX12_goLeast_248 rfl rfl ?_
  obtain ⟨hk, hF⟩ := ck hF
  refine V.iald io_265 hk dX12_goLeast_249 ?_
  refine V.iconst (v := 1) dX12_goLeast_250 rfl ?_
  refine V.iload 7 dX12_goLeast_251 rfl ?_
  refine V.ishl dX12_goLeast_253 ?_
  refine V.iconst (v := -1) dX12_goLeast_254 rfl ?_
  refine V.ixor dX12_goLeast_255 ?_
  refine V.iand dX12_goLeast_256 ?_
  obtain ⟨hk, hF⟩ := ck hF
  refine V.iast io_265 hk dX12_goLeast_257 ?_
  refine V.iinc (v := (x10 + (1))) 10 [(10, _), (0, _), (1, _), (2, _), (3, _), (4, _), (5, _), (6, _), (7, _), (8, _), (9, _)] dX12_goLeast_258 rfl rfl (by decide) rfl ?_
  refine V.goto (tgt := 129) dX12_goLeast_261 rfl ?_
  exact V.sub [1, 2, 3, 4, 5, 6, 7, 8, 9, 10, 0] rfl (hK129 _ _ _ _ _ _ _ _ _ _ _ hF)
def X12_goLeast_264 (n : Nat) (rf : Int32 → Int32 → Int32 → Mm → Option (Unit × Mm)) (K97 : Int32 → Int32 → Int32 → Int32 → Int32 → Int32 → Int32 → Mm → Option (Unit × Mm)) (x1 : Int32) (x2 : Int32) (x3 : Int32) (x4 : Int32) (x5 : Int32) (x6 : Int32) (x7 : Int32) (h : Mm) : Option (Unit × Mm) := (K97 x1 x2 x3 x4 x5 x6 (x7 + (1)) h)
set_option maxRecDepth 100000 in
set_option maxHeartbeats 4000000 in
theorem v_X12_goLeast_264 {X : WX} {G : GX} {o : Mm} {n : Nat} {rf : Int32 → Int32 → Int32 → Mm → Option (Unit × Mm)} {dr : Nat} (hdr : 93 ≤ dr) (hrf : ∀ (x1 : Int32) (x2 : Int32) (x3 : Int32)  (h : Mm) (r : Unit) (h2 : Mm), rf x1 x2 x3 h = some (r, h2) → Sat X yX12_goLeast cX12_goLeast 11 (none) dr [.ref (xa X 251), .int x1, .int x2, .int x3] false o h none h2) {DD : Nat} (hDD : dr + 1 ≤ DD) {K97 : Int32 → Int32 → Int32 → Int32 → Int32 → Int32 → Int32 → Mm → Option (Unit × Mm)} {rv : Unit} {hz : Mm} (hK97 : ∀ (x1 : Int32) (x2 : Int32) (x3 : Int32) (x4 : Int32) (x5 : Int32) (x6 : Int32) (x7 : Int32) (h : Mm), K97 x1 x2 x3 x4 x5 x6 x7 h = some (rv, hz) → V X G RX12 cX12_goLeast 11 (none) DD 0 0 (QR X G false o none hz) false o 97 [(0, .ref (xa X 251)), (1, .int x1), (2, .int x2), (3, .int x3), (4, .int x4), (5, .int x5), (6, .int x6), (7, .int x7)] [] h) {x1 : Int32} {x2 : Int32} {x3 : Int32} {x4 : Int32} {x5 : Int32} {x6 : Int32} {x7 : Int32} {h : Mm} (hF : X12_goLeast_264 n rf K97 x1 x2 x3 x4 x5 x6 x7 h = some (rv, hz)) : V X G RX12 cX12_goLeast 11 (none) DD 0 0 (QR X G false o none hz) false o 264 [(0, .ref (xa X 251)), (1, .int x1), (2, .int x2), (3, .int x3), (4, .int x4), (5, .int x5), (6, .int x6), (7, .int x7)] [] h := by
  unfold X12_goLeast_264 at hF
  refine V.iinc (v := (x7 + (1))) 7 [(7, _), (0, _), (1, _), (2, _), (3, _), (4, _), (5, _), (6, _)] dX12_goLeast_264 rfl rfl (by decide) rfl ?_
  refine V.goto (tgt := 97) dX12_goLeast_267 rfl ?_
  exact V.sub [1, 2, 3, 4, 5, 6, 7, 0] rfl (hK97 _ _ _ _ _ _ _ _ hF)
def X12_goLeast_129 (n : Nat) (rf : Int32 → Int32 → Int32 → Mm → Option (Unit × Mm)) (K97 : Int32 → Int32 → Int32 → Int32 → Int32 → Int32 → Int32 → Mm → Option (Unit × Mm)) : Nat → Int32 → Int32 → Int32 → Int32 → Int32 → Int32 → Int32 → Int32 → Int32 → Int32 → Mm → Option (Unit × Mm)
  | 0, _, _, _, _, _, _, _, _, _, _, _ => none
  | f + 1, x1, x2, x3, x4, x5, x6, x7, x8, x9, x10, h => (bp (X12_pagesOf x7 h) (fun r61 => (if r61 < x10 then (X12_goLeast_264 n rf K97 x1 x2 x3 x4 x5 x6 x7 h) else (bp (X12_mayRead 265 x7 x10 false h) (fun r63 => (if r63 = true then (if (h.1 251 41) = (-1 : Int32) then (X12_goLeast_178 n rf K97 (X12_goLeast_129 n rf K97 f) x1 x2 x3 x4 x5 x6 x7 x8 x9 x10 h) else (if (x2 + x10) ≤ (h.1 251 41) then (X12_goLeast_178 n rf K97 (X12_goLeast_129 n rf K97 f) x1 x2 x3 x4 x5 x6 x7 x8 x9 x10 h) else (X12_goLeast_264 n rf K97 x1 x2 x3 x4 x5 x6 x7 h))) else (X12_goLeast_264 n rf K97 x1 x2 x3 x4 x5 x6 x7 h)))))))
set_option maxRecDepth 100000 in
set_option maxHeartbeats 4000000 in
theorem v_X12_goLeast_129 {X : WX} {G : GX} {o : Mm} {n : Nat} {rf : Int32 → Int32 → Int32 → Mm → Option (Unit × Mm)} {dr : Nat} (hdr : 93 ≤ dr) (hrf : ∀ (x1 : Int32) (x2 : Int32) (x3 : Int32)  (h : Mm) (r : Unit) (h2 : Mm), rf x1 x2 x3 h = some (r, h2) → Sat X yX12_goLeast cX12_goLeast 11 (none) dr [.ref (xa X 251), .int x1, .int x2, .int x3] false o h none h2) {DD : Nat} (hDD : dr + 1 ≤ DD) {K97 : Int32 → Int32 → Int32 → Int32 → Int32 → Int32 → Int32 → Mm → Option (Unit × Mm)} {rv : Unit} {hz : Mm} (hK97 : ∀ (x1 : Int32) (x2 : Int32) (x3 : Int32) (x4 : Int32) (x5 : Int32) (x6 : Int32) (x7 : Int32) (h : Mm), K97 x1 x2 x3 x4 x5 x6 x7 h = some (rv, hz) → V X G RX12 cX12_goLeast 11 (none) DD 0 0 (QR X G false o none hz) false o 97 [(0, .ref (xa X 251)), (1, .int x1), (2, .int x2), (3, .int x3), (4, .int x4), (5, .int x5), (6, .int x6), (7, .int x7)] [] h) : ∀ (f : Nat) (x1 : Int32) (x2 : Int32) (x3 : Int32) (x4 : Int32) (x5 : Int32) (x6 : Int32) (x7 : Int32) (x8 : Int32) (x9 : Int32) (x10 : Int32) (h : Mm), X12_goLeast_129 n rf K97 f x1 x2 x3 x4 x5 x6 x7 x8 x9 x10 h = some (rv, hz) → V X G RX12 cX12_goLeast 11 (none) DD 0 0 (QR X G false o none hz) false o 129 [(0, .ref (xa X 251)), (1, .int x1), (2, .int x2), (3, .int x3), (4, .int x4), (5, .int x5), (6, .int x6), (7, .int x7), (8, .int x8), (9, .int x9), (10, .int x10)] [] h := by
  intro f
  induction f with
  | zero => intro x1 x2 x3 x4 x5 x6 x7 x8 x9 x10 h hF; exact nomatch (show (none : Option (Unit × Mm)) = some (rv, hz) from hF)
  | succ f ih =>
    intro x1 x2 x3 x4 x5 x6 x7 x8 x9 x10 h hF
    unfold X12_goLeast_129 at hF
    refine V.iload 10 dX12_goLeast_129 rfl ?_
    refine V.aload_n 0 dX12_goLeast_131 rfl rfl ?_
    refine V.iload 7 dX12_goLeast_132 rfl ?_
    obtain ⟨r61, hc62, hF⟩ := bp_s hF
    refine V.callVi mf_X12_pagesOf ml_X12_322 sh_251 (s_X12_pagesOf hc62) (by omega) rfl rfl (Nat.le_of_ble_eq_true rfl) dX12_goLeast_134 ?_
    refine V.icmp_gt (tgt := 264) dX12_goLeast_137 rfl (fun c => ?_) (fun c => ?_)
    · replace hF := ip c hF
      exact V.sub [0, 1, 2, 3, 4, 5, 6, 7] rfl (v_X12_goLeast_264 hdr hrf hDD hK97 hF)
    · replace hF := iq c hF
      refine V.aload_n 0 dX12_goLeast_140 rfl rfl ?_
      refine V.aload_n 0 dX12_goLeast_141 rfl rfl ?_
      refine V.getR (v := 265) fl_X12_64 sh_251 rfl fx_251_33 (by decide) dX12_goLeast_142 ?_
      refine V.iload 7 dX12_goLeast_145 rfl ?_
      refine V.iload 10 dX12_goLeast_147 rfl ?_
      refine V.iconst (v := 0) dX12_goLeast_149 rfl ?_
      obtain ⟨r63, hc64, hF⟩ := bp_s hF
      refine V.callVi mf_X12_mayRead ml_X12_359 sh_251 (s_X12_mayRead io_265 hc64) (by omega) rfl rfl (Nat.le_of_ble_eq_true rfl) dX12_goLeast_150 ?_
      refine V.ifz_eq (tgt := 264) dX12_goLeast_153 rfl (fun c => ?_) (fun c => ?_)
      · replace hF := iq c hF
        exact V.sub [0, 1, 2, 3, 4, 5, 6, 7] rfl (v_X12_goLeast_264 hdr hrf hDD hK97 hF)
      · replace hF := ip c hF
        refine V.aload_n 0 dX12_goLeast_156 rfl rfl ?_
        refine V.getI fl_X12_412 sh_251 rfl km_251 dX12_goLeast_157 ?_
        refine V.iconst (v := -1) dX12_goLeast_160 rfl ?_
        refine V.icmp_eq (tgt := 178) dX12_goLeast_161 rfl (fun c => ?_) (fun c => ?_)
        · replace hF := ip c hF
          exact (v_X12_goLeast_178 hdr hrf hDD hK97 ih hF)
        · replace hF := iq c hF
          refine V.iload_n 2 dX12_goLeast_164 rfl rfl ?_
          refine V.iload 10 dX12_goLeast_165 rfl ?_
          refine V.iadd dX12_goLeast_167 ?_
          refine V.aload_n 0 dX12_goLeast_168 rfl rfl ?_
          refine V.getI fl_X12_412 sh_251 rfl km_251 dX12_goLeast_169 ?_
          refine V.icmp_le (tgt := 178) dX12_goLeast_172 rfl (fun c => ?_) (fun c => ?_)
          · replace hF := ip c hF
            exact (v_X12_goLeast_178 hdr hrf hDD hK97 ih hF)
          · replace hF := iq c hF
            refine V.goto (tgt := 264) dX12_goLeast_175 rfl ?_
            exact V.sub [0, 1, 2, 3, 4, 5, 6, 7] rfl (v_X12_goLeast_264 hdr hrf hDD hK97 hF)
def X12_goLeast_97 (n : Nat) (rf : Int32 → Int32 → Int32 → Mm → Option (Unit × Mm)) : Nat → Int32 → Int32 → Int32 → Int32 → Int32 → Int32 → Int32 → Mm → Option (Unit × Mm)
  | 0, _, _, _, _, _, _, _, _ => none
  | f + 1, x1, x2, x3, x4, x5, x6, x7, h => (if (h.1 251 26) ≤ x7 then (some ((), h)) else (bp (X12_kindOf x7 h) (fun r65 => (if inB ((18 : Int32) + r65) (aln 265) then (X12_goLeast_129 n rf (X12_goLeast_97 n rf f) n x1 x2 x3 x4 x5 x6 x7 ((18 : Int32) + r65) (h.1 265 ((18 : Int32) + r65).toNatClampNeg) (1 : Int32) h) else none))))
set_option maxRecDepth 100000 in
set_option maxHeartbeats 4000000 in
theorem v_X12_goLeast_97 {X : WX} {G : GX} {o : Mm} {n : Nat} {rf : Int32 → Int32 → Int32 → Mm → Option (Unit × Mm)} {dr : Nat} (hdr : 93 ≤ dr) (hrf : ∀ (x1 : Int32) (x2 : Int32) (x3 : Int32)  (h : Mm) (r : Unit) (h2 : Mm), rf x1 x2 x3 h = some (r, h2) → Sat X yX12_goLeast cX12_goLeast 11 (none) dr [.ref (xa X 251), .int x1, .int x2, .int x3] false o h none h2) {DD : Nat} (hDD : dr + 1 ≤ DD) {rv : Unit} {hz : Mm} : ∀ (f : Nat) (x1 : Int32) (x2 : Int32) (x3 : Int32) (x4 : Int32) (x5 : Int32) (x6 : Int32) (x7 : Int32) (h : Mm), X12_goLeast_97 n rf f x1 x2 x3 x4 x5 x6 x7 h = some (rv, hz) → V X G RX12 cX12_goLeast 11 (none) DD 0 0 (QR X G false o none hz) false o 97 [(0, .ref (xa X 251)), (1, .int x1), (2, .int x2), (3, .int x3), (4, .int x4), (5, .int x5), (6, .int x6), (7, .int x7)] [] h := by
  intro f
  induction f with
  | zero => intro x1 x2 x3 x4 x5 x6 x7 h hF; exact nomatch (show (none : Option (Unit × Mm)) = some (rv, hz) from hF)
  | succ f ih =>
    intro x1 x2 x3 x4 x5 x6 x7 h hF
    unfold X12_goLeast_97 at hF
    refine V.iload 7 dX12_goLeast_97 rfl ?_
    refine V.aload_n 0 dX12_goLeast_99 rfl rfl ?_
    refine V.getI fl_X12_288 sh_251 rfl km_251 dX12_goLeast_100 ?_
    refine V.icmp_ge (tgt := 270) dX12_goLeast_103 rfl (fun c => ?_) (fun c => ?_)
    · replace hF := ip c hF
      cases hF
      exact V.vret dX12_goLeast_270
    · replace hF := iq c hF
      refine V.bipush (v := 18) dX12_goLeast_106 (by decide) ?_
      refine V.aload_n 0 dX12_goLeast_108 rfl rfl ?_
      refine V.iload 7 dX12_goLeast_109 rfl ?_
      obtain ⟨r65, hc66, hF⟩ := bp_s hF
      refine V.callVi mf_X12_kindOf ml_X12_328 sh_251 (s_X12_kindOf hc66) (by omega) rfl rfl (Nat.le_of_ble_eq_true rfl) dX12_goLeast_111 ?_
      refine V.iadd dX12_goLeast_114 ?_
      refine V.istore [(8, _), (0, _), (1, _), (2, _), (3, _), (4, _), (5, _), (6, _), (7, _)] dX12_goLeast_115 (by decide) rfl ?_
      refine V.aload_n 1 dX12_goLeast_117 rfl rfl ?_
      refine V.getR (v := 265) fl_X12_64 sh_251 rfl fx_251_33 (by decide) dX12_goLeast_118 ?_
      refine V.iload 0 dX12_goLeast_121 rfl ?_
      obtain ⟨hk, hF⟩ := ck hF
      refine V.iald io_265 hk dX12_goLeast_123 ?_
      refine V.istore [(9, _), (8, _), (0, _), (1, _), (2, _), (3, _), (4, _), (5, _), (6, _), (7, _)] dX12_goLeast_124 (by decide) rfl ?_
      refine V.iconst (v := 1) dX12_goLeast_126 rfl ?_
      refine V.istore [(10, _), (9, _), (8, _), (0, _), (1, _), (2, _), (3, _), (4, _), (5, _), (6, _), (7, _)] dX12_goLeast_127 (by decide) rfl ?_
      exact V.sub [3, 4, 5, 6, 7, 8, 9, 10, 2, 1, 0] rfl (v_X12_goLeast_129 hdr hrf hDD ih n _ _ _ _ _ _ _ _ _ _ _ hF)
def X12_goLeast_b (n : Nat) (rf : Int32 → Int32 → Int32 → Mm → Option (Unit × Mm)) (x1 : Int32) (x2 : Int32) (x3 : Int32) (h : Mm) : Option (Unit × Mm) := (if inB (22 : Int32) (aln 265) then (bp (X12_isEnough (h.1 265 (22 : Int32).toNatClampNeg) h) (fun r67 => (if r67 = true then (if (h.1 251 41) = (-1 : Int32) then (X12_goLeast_47 n rf x2 x3 h) else (if (h.1 251 41) < x2 then (some ((), h)) else (if x2 = (h.1 251 41) then (if x3 < (h.1 251 42) then (X12_goLeast_47 n rf x2 x3 h) else (some ((), h))) else (X12_goLeast_47 n rf x2 x3 h)))) else (if x1 = 0 then (some ((), h)) else (if inB (23 : Int32) (aln 265) then (if inB (22 : Int32) (aln 265) then (if inB (((3 : Int32) * (h.1 265 (23 : Int32).toNatClampNeg)) + (0 : Int32)) (aln 265) then (X12_goLeast_97 n rf n x1 x2 x3 (((3 : Int32) * (h.1 265 (23 : Int32).toNatClampNeg)) + (0 : Int32)) (h.1 265 (22 : Int32).toNatClampNeg) (h.1 265 (((3 : Int32) * (h.1 265 (23 : Int32).toNatClampNeg)) + (0 : Int32)).toNatClampNeg) (0 : Int32) h) else none) else none) else none))))) else none)
set_option maxRecDepth 100000 in
set_option maxHeartbeats 4000000 in
theorem s_X12_goLeast_b {X : WX} {o : Mm} {n : Nat} {rf : Int32 → Int32 → Int32 → Mm → Option (Unit × Mm)} {dr : Nat} (hdr : 93 ≤ dr) (hrf : ∀ (x1 : Int32) (x2 : Int32) (x3 : Int32)  (h : Mm) (r : Unit) (h2 : Mm), rf x1 x2 x3 h = some (r, h2) → Sat X yX12_goLeast cX12_goLeast 11 (none) dr [.ref (xa X 251), .int x1, .int x2, .int x3] false o h none h2) {DD : Nat} (hDD : dr + 1 ≤ DD) {x1 : Int32} {x2 : Int32} {x3 : Int32} {rv : Unit} {hz : Mm} {h : Mm} (hF : X12_goLeast_b n rf x1 x2 x3 h = some (rv, hz)) : Sat X yX12_goLeast cX12_goLeast 11 (none) DD [.ref (xa X 251), .int x1, .int x2, .int x3] false o h none hz := by
  unfold X12_goLeast_b at hF
  refine Sat.mk (own := RX12) rfl (by decide +kernel) (Nat.le_of_ble_eq_true rfl) (fun G => ?_)
  refine V.sub (lv2 := [(0, _), (1, _), (2, _), (3, _)]) [0, 1, 2, 3] rfl ?_
  refine V.aload_n 0 dX12_goLeast_0 rfl rfl ?_
  refine V.aload_n 0 dX12_goLeast_1 rfl rfl ?_
  refine V.getR (v := 265) fl_X12_64 sh_251 rfl fx_251_33 (by decide) dX12_goLeast_2 ?_
  refine V.bipush (v := 22) dX12_goLeast_5 (by decide) ?_
  obtain ⟨hk, hF⟩ := ck hF
  refine V.iald io_265 hk dX12_goLeast_7 ?_
  obtain ⟨r67, hc68, hF⟩ := bp_s hF
  refine V.callVi mf_X12_isEnough ml_X12_340 sh_251 (s_X12_isEnough hc68) (by omega) rfl rfl (Nat.le_of_ble_eq_true rfl) dX12_goLeast_8 ?_
  refine V.ifz_eq (tgt := 58) dX12_goLeast_11 rfl (fun c => ?_) (fun c => ?_)
  · replace hF := iq c hF
    refine V.iload_n 1 dX12_goLeast_58 rfl rfl ?_
    refine V.if_ne (tgt := 63) dX12_goLeast_59 rfl (fun c => ?_) (fun c => ?_)
    · replace hF := iq c hF
      refine V.iconst (v := 3) dX12_goLeast_63 rfl ?_
      refine V.aload_n 0 dX12_goLeast_64 rfl rfl ?_
      refine V.getR (v := 265) fl_X12_64 sh_251 rfl fx_251_33 (by decide) dX12_goLeast_65 ?_
      refine V.bipush (v := 23) dX12_goLeast_68 (by decide) ?_
      obtain ⟨hk, hF⟩ := ck hF
      refine V.iald io_265 hk dX12_goLeast_70 ?_
      refine V.imul dX12_goLeast_71 ?_
      refine V.iconst (v := 0) dX12_goLeast_72 rfl ?_
      refine V.iadd dX12_goLeast_73 ?_
      refine V.istore [(4, _), (0, _), (1, _), (2, _), (3, _)] dX12_goLeast_74 (by decide) rfl ?_
      refine V.aload_n 1 dX12_goLeast_76 rfl rfl ?_
      refine V.getR (v := 265) fl_X12_64 sh_251 rfl fx_251_33 (by decide) dX12_goLeast_77 ?_
      refine V.bipush (v := 22) dX12_goLeast_80 (by decide) ?_
      obtain ⟨hk, hF⟩ := ck hF
      refine V.iald io_265 hk dX12_goLeast_82 ?_
      refine V.istore [(5, _), (4, _), (0, _), (1, _), (2, _), (3, _)] dX12_goLeast_83 (by decide) rfl ?_
      refine V.aload_n 2 dX12_goLeast_85 rfl rfl ?_
      refine V.getR (v := 265) fl_X12_64 sh_251 rfl fx_251_33 (by decide) dX12_goLeast_86 ?_
      refine V.iload 1 dX12_goLeast_89 rfl ?_
      obtain ⟨hk, hF⟩ := ck hF
      refine V.iald io_265 hk dX12_goLeast_91 ?_
      refine V.istore [(6, _), (5, _), (4, _), (0, _), (1, _), (2, _), (3, _)] dX12_goLeast_92 (by decide) rfl ?_
      refine V.iconst (v := 0) dX12_goLeast_94 rfl ?_
      refine V.istore [(7, _), (6, _), (5, _), (4, _), (0, _), (1, _), (2, _), (3, _)] dX12_goLeast_95 (by decide) rfl ?_
      exact V.sub [4, 5, 6, 7, 3, 2, 1, 0] rfl (v_X12_goLeast_97 hdr hrf hDD n _ _ _ _ _ _ _ _ hF)
    · replace hF := ip c hF
      cases hF
      exact V.vret dX12_goLeast_62
  · replace hF := ip c hF
    refine V.aload_n 0 dX12_goLeast_14 rfl rfl ?_
    refine V.getI fl_X12_412 sh_251 rfl km_251 dX12_goLeast_15 ?_
    refine V.iconst (v := -1) dX12_goLeast_18 rfl ?_
    refine V.icmp_eq (tgt := 47) dX12_goLeast_19 rfl (fun c => ?_) (fun c => ?_)
    · replace hF := ip c hF
      exact V.sub [0, 2, 3] rfl (v_X12_goLeast_47 hdr hrf hDD hF)
    · replace hF := iq c hF
      refine V.iload_n 2 dX12_goLeast_22 rfl rfl ?_
      refine V.aload_n 0 dX12_goLeast_23 rfl rfl ?_
      refine V.getI fl_X12_412 sh_251 rfl km_251 dX12_goLeast_24 ?_
      refine V.icmp_gt (tgt := 46) dX12_goLeast_27 rfl (fun c => ?_) (fun c => ?_)
      · replace hF := ip c hF
        cases hF
        exact V.vret dX12_goLeast_46
      · replace hF := iq c hF
        refine V.iload_n 2 dX12_goLeast_30 rfl rfl ?_
        refine V.aload_n 0 dX12_goLeast_31 rfl rfl ?_
        refine V.getI fl_X12_412 sh_251 rfl km_251 dX12_goLeast_32 ?_
        refine V.icmp_ne (tgt := 47) dX12_goLeast_35 rfl (fun c => ?_) (fun c => ?_)
        · replace hF := iq c hF
          exact V.sub [0, 2, 3] rfl (v_X12_goLeast_47 hdr hrf hDD hF)
        · replace hF := ip c hF
          refine V.iload_n 3 dX12_goLeast_38 rfl rfl ?_
          refine V.aload_n 0 dX12_goLeast_39 rfl rfl ?_
          refine V.getI fl_X12_415 sh_251 rfl km_251 dX12_goLeast_40 ?_
          refine V.icmp_lt (tgt := 47) dX12_goLeast_43 rfl (fun c => ?_) (fun c => ?_)
          · replace hF := ip c hF
            exact V.sub [0, 2, 3] rfl (v_X12_goLeast_47 hdr hrf hDD hF)
          · replace hF := iq c hF
            cases hF
            exact V.vret dX12_goLeast_46
def X12_goLeast (n : Nat) : Nat → Int32 → Int32 → Int32 → Mm → Option (Unit × Mm)
  | 0, _, _, _, _ => none
  | e + 1, x1, x2, x3, h => X12_goLeast_b n (X12_goLeast n e) x1 x2 x3 h
set_option maxRecDepth 100000 in
set_option maxHeartbeats 4000000 in
theorem s_X12_goLeast {X : WX} {o : Mm} {n : Nat} : ∀ (e : Nat) (x1 : Int32) (x2 : Int32) (x3 : Int32) (h : Mm) (rv : Unit) (hz : Mm), X12_goLeast n e x1 x2 x3 h = some (rv, hz) → Sat X yX12_goLeast cX12_goLeast 11 (none) (93 + 2 * e) [.ref (xa X 251), .int x1, .int x2, .int x3] false o h none hz := by
  intro e
  induction e with
  | zero => intro x1 x2 x3 h rv hz hF; exact nomatch (show (none : Option (Unit × Mm)) = some (rv, hz) from hF)
  | succ e ih => intro x1 x2 x3 h rv hz hF; exact s_X12_goLeast_b (dr := 93 + 2 * e) (by omega) ih (by omega)  hF
