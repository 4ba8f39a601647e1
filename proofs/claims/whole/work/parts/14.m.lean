/-! MonsterCot.passLoggedNight -/
theorem dX11_passLoggedNight_0 : decode cX11_passLoggedNight 0 = .ok (.aload_n 0, 1) := by decide +kernel
theorem dX11_passLoggedNight_1 : decode cX11_passLoggedNight 1 = .ok (.getfield 65, 3) := by decide +kernel
theorem dX11_passLoggedNight_4 : decode cX11_passLoggedNight 4 = .ok (.getfield 221, 3) := by decide +kernel
theorem dX11_passLoggedNight_7 : decode cX11_passLoggedNight 7 = .ok (.istore_n 1, 1) := by decide +kernel
theorem dX11_passLoggedNight_8 : decode cX11_passLoggedNight 8 = .ok (.aload_n 0, 1) := by decide +kernel
theorem dX11_passLoggedNight_9 : decode cX11_passLoggedNight 9 = .ok (.getfield 65, 3) := by decide +kernel
theorem dX11_passLoggedNight_12 : decode cX11_passLoggedNight 12 = .ok (.getfield 128, 3) := by decide +kernel
theorem dX11_passLoggedNight_15 : decode cX11_passLoggedNight 15 = .ok (.istore_n 2, 1) := by decide +kernel
theorem dX11_passLoggedNight_16 : decode cX11_passLoggedNight 16 = .ok (.aload_n 0, 1) := by decide +kernel
theorem dX11_passLoggedNight_17 : decode cX11_passLoggedNight 17 = .ok (.getfield 58, 3) := by decide +kernel
theorem dX11_passLoggedNight_20 : decode cX11_passLoggedNight 20 = .ok (.aload_n 0, 1) := by decide +kernel
theorem dX11_passLoggedNight_21 : decode cX11_passLoggedNight 21 = .ok (.getfield 65, 3) := by decide +kernel
theorem dX11_passLoggedNight_24 : decode cX11_passLoggedNight 24 = .ok (.invokevirtual 423, 3) := by decide +kernel
theorem dX11_passLoggedNight_27 : decode cX11_passLoggedNight 27 = .ok (.istore_n 3, 1) := by decide +kernel
theorem dX11_passLoggedNight_28 : decode cX11_passLoggedNight 28 = .ok (.aload_n 0, 1) := by decide +kernel
theorem dX11_passLoggedNight_29 : decode cX11_passLoggedNight 29 = .ok (.getfield 75, 3) := by decide +kernel
theorem dX11_passLoggedNight_32 : decode cX11_passLoggedNight 32 = .ok (.aload_n 0, 1) := by decide +kernel
theorem dX11_passLoggedNight_33 : decode cX11_passLoggedNight 33 = .ok (.getfield 65, 3) := by decide +kernel
theorem dX11_passLoggedNight_36 : decode cX11_passLoggedNight 36 = .ok (.iload_n 1, 1) := by decide +kernel
theorem dX11_passLoggedNight_37 : decode cX11_passLoggedNight 37 = .ok (.iload_n 2, 1) := by decide +kernel
theorem dX11_passLoggedNight_38 : decode cX11_passLoggedNight 38 = .ok (.iload_n 3, 1) := by decide +kernel
theorem dX11_passLoggedNight_39 : decode cX11_passLoggedNight 39 = .ok (.invokevirtual 426, 3) := by decide +kernel
theorem dX11_passLoggedNight_42 : decode cX11_passLoggedNight 42 = .ok (.iload_n 3, 1) := by decide +kernel
theorem dX11_passLoggedNight_43 : decode cX11_passLoggedNight 43 = .ok (.ireturn, 1) := by decide +kernel
def X11_passLoggedNight (n : Nat) (h : Mm) : Option (Int32 × Mm) := (bd (X9_pass n 27 h) (fun r7 h9 => (bd (X5_note 27 (h.1 27 5) (h.1 27 4) r7 h9) (fun _ h12 => (some (r7, h12))))))
set_option maxRecDepth 100000 in
set_option maxHeartbeats 4000000 in
theorem s_X11_passLoggedNight {X : WX} {o : Mm} {n : Nat} {rv : Int32} {hz : Mm} {h : Mm} (hF : X11_passLoggedNight n h = some (rv, hz)) : Sat X yX11_passLoggedNight cX11_passLoggedNight 4 (some .int) 6 [.ref (xa X 0)] true o h (some (.int rv)) hz := by
  unfold X11_passLoggedNight at hF
  refine Sat.mk (own := RX11) rfl (by decide +kernel) (Nat.le_of_ble_eq_true rfl) (fun G => ?_)
  refine V.sub (lv2 := [(0, _)]) [0] rfl ?_
  refine V.aload_n 0 dX11_passLoggedNight_0 rfl rfl ?_
  refine V.getR (v := 27) fl_X11_65 sh_0 rfl fx_0_7 (by decide) dX11_passLoggedNight_1 ?_
  refine V.getI fl_X11_221 sh_27 rfl km_27 dX11_passLoggedNight_4 ?_
  refine V.istore_n [(1, _), (0, _)] dX11_passLoggedNight_7 rfl (by decide) rfl ?_
  refine V.aload_n 1 dX11_passLoggedNight_8 rfl rfl ?_
  refine V.getR (v := 27) fl_X11_65 sh_0 rfl fx_0_7 (by decide) dX11_passLoggedNight_9 ?_
  refine V.getI fl_X11_128 sh_27 rfl km_27 dX11_passLoggedNight_12 ?_
  refine V.istore_n [(2, _), (1, _), (0, _)] dX11_passLoggedNight_15 rfl (by decide) rfl ?_
  refine V.aload_n 2 dX11_passLoggedNight_16 rfl rfl ?_
  refine V.getR (v := 26) fl_X11_58 sh_0 rfl fx_0_6 (by decide) dX11_passLoggedNight_17 ?_
  refine V.aload_n 2 dX11_passLoggedNight_20 rfl rfl ?_
  refine V.getR (v := 27) fl_X11_65 sh_0 rfl fx_0_7 (by decide) dX11_passLoggedNight_21 ?_
  obtain ⟨r7, h9, hc8, hF⟩ := bd_s hF
  refine V.callVi mf_X9_pass ml_X11_423 sh_26 (s_X9_pass isb_27 hc8) (by decide) rfl rfl (Nat.le_of_ble_eq_true rfl) dX11_passLoggedNight_24 ?_
  refine V.istore_n [(3, _), (2, _), (1, _), (0, _)] dX11_passLoggedNight_27 rfl (by decide) rfl ?_
  refine V.aload_n 3 dX11_passLoggedNight_28 rfl rfl ?_
  refine V.getR (v := 37) fl_X11_75 sh_0 rfl fx_0_9 (by decide) dX11_passLoggedNight_29 ?_
  refine V.aload_n 3 dX11_passLoggedNight_32 rfl rfl ?_
  refine V.getR (v := 27) fl_X11_65 sh_0 rfl fx_0_7 (by decide) dX11_passLoggedNight_33 ?_
  refine V.iload_n 2 dX11_passLoggedNight_36 rfl rfl ?_
  refine V.iload_n 1 dX11_passLoggedNight_37 rfl rfl ?_
  refine V.iload_n 0 dX11_passLoggedNight_38 rfl rfl ?_
  obtain ⟨r10, h12, hc11, hF⟩ := bd_s hF
  refine V.callVv mf_X5_note ml_X11_426 sh_37 (s_X5_note isb_27 hc11) (by decide) rfl rfl (Nat.le_of_ble_eq_true rfl) dX11_passLoggedNight_39 ?_
  refine V.iload_n 0 dX11_passLoggedNight_42 rfl rfl ?_
  cases hF
  exact V.iret dX11_passLoggedNight_43
/-! MonsterCot.night -/
theorem dX11_night_0 : decode cX11_night 0 = .ok (.aload_n 0, 1) := by decide +kernel
theorem dX11_night_1 : decode cX11_night 1 = .ok (.getfield 58, 3) := by decide +kernel
theorem dX11_night_4 : decode cX11_night 4 = .ok (.aload_n 0, 1) := by decide +kernel
theorem dX11_night_5 : decode cX11_night 5 = .ok (.getfield 65, 3) := by decide +kernel
theorem dX11_night_8 : decode cX11_night 8 = .ok (.invokevirtual 228, 3) := by decide +kernel
theorem dX11_night_11 : decode cX11_night 11 = .ok (.ifCond .ne 5, 3) := by decide +kernel
theorem dX11_night_14 : decode cX11_night 14 = .ok (.iconst (-1), 1) := by decide +kernel
theorem dX11_night_15 : decode cX11_night 15 = .ok (.ireturn, 1) := by decide +kernel
theorem dX11_night_16 : decode cX11_night 16 = .ok (.aload_n 0, 1) := by decide +kernel
theorem dX11_night_17 : decode cX11_night 17 = .ok (.getfield 75, 3) := by decide +kernel
theorem dX11_night_20 : decode cX11_night 20 = .ok (.aload_n 0, 1) := by decide +kernel
theorem dX11_night_21 : decode cX11_night 21 = .ok (.getfield 65, 3) := by decide +kernel
theorem dX11_night_24 : decode cX11_night 24 = .ok (.invokevirtual 199, 3) := by decide +kernel
theorem dX11_night_27 : decode cX11_night 27 = .ok (.aload_n 0, 1) := by decide +kernel
theorem dX11_night_28 : decode cX11_night 28 = .ok (.invokevirtual 231, 3) := by decide +kernel
theorem dX11_night_31 : decode cX11_night 31 = .ok (.ireturn, 1) := by decide +kernel
def X11_night (n : Nat) (h : Mm) : Option (Int32 × Mm) := (bp (X9_canPass 27 h) (fun r9 => (if r9 = true then (bd (X5_keep 27 h) (fun _ h13 => (bd (X11_passLoggedNight n h13) (fun r14 h16 => (some (r14, h16)))))) else (some ((-1 : Int32), h)))))
set_option maxRecDepth 100000 in
set_option maxHeartbeats 4000000 in
theorem s_X11_night {X : WX} {o : Mm} {n : Nat} {rv : Int32} {hz : Mm} {h : Mm} (hF : X11_night n h = some (rv, hz)) : Sat X yX11_night cX11_night 1 (some .int) 7 [.ref (xa X 0)] true o h (some (.int rv)) hz := by
  unfold X11_night at hF
  refine Sat.mk (own := RX11) rfl (by decide +kernel) (Nat.le_of_ble_eq_true rfl) (fun G => ?_)
  refine V.sub (lv2 := [(0, _)]) [0] rfl ?_
  refine V.aload_n 0 dX11_night_0 rfl rfl ?_
  refine V.getR (v := 26) fl_X11_58 sh_0 rfl fx_0_6 (by decide) dX11_night_1 ?_
  refine V.aload_n 0 dX11_night_4 rfl rfl ?_
  refine V.getR (v := 27) fl_X11_65 sh_0 rfl fx_0_7 (by decide) dX11_night_5 ?_
  obtain ⟨r9, hc10, hF⟩ := bp_s hF
  refine V.callVi mf_X9_canPass ml_X11_228 sh_26 (s_X9_canPass isb_27 hc10) (by decide) rfl rfl (Nat.le_of_ble_eq_true rfl) dX11_night_8 ?_
  refine V.ifz_ne (tgt := 16) dX11_night_11 rfl (fun c => ?_) (fun c => ?_)
  · replace hF := ip c hF
    refine V.aload_n 0 dX11_night_16 rfl rfl ?_
    refine V.getR (v := 37) fl_X11_75 sh_0 rfl fx_0_9 (by decide) dX11_night_17 ?_
    refine V.aload_n 0 dX11_night_20 rfl rfl ?_
    refine V.getR (v := 27) fl_X11_65 sh_0 rfl fx_0_7 (by decide) dX11_night_21 ?_
    obtain ⟨r11, h13, hc12, hF⟩ := bd_s hF
    refine V.callVv mf_X5_keep ml_X11_199 sh_37 (s_X5_keep isb_27 hc12) (by decide) rfl rfl (Nat.le_of_ble_eq_true rfl) dX11_night_24 ?_
    refine V.aload_n 0 dX11_night_27 rfl rfl ?_
    obtain ⟨r14, h16, hc15, hF⟩ := bd_s hF
    refine V.callVi mf_X11_passLoggedNight ml_X11_231 sh_0 (s_X11_passLoggedNight hc15) (by decide) rfl rfl (Nat.le_of_ble_eq_true rfl) dX11_night_28 ?_
    cases hF
    exact V.iret dX11_night_31
  · replace hF := iq c hF
    refine V.iconst (v := -1) dX11_night_14 rfl ?_
    cases hF
    exact V.iret dX11_night_15
/-! MonsterCot.draw -/
theorem dX11_draw_0 : decode cX11_draw 0 = .ok (.aload_n 0, 1) := by decide +kernel
theorem dX11_draw_1 : decode cX11_draw 1 = .ok (.aload_n 0, 1) := by decide +kernel
theorem dX11_draw_2 : decode cX11_draw 2 = .ok (.getfield 237, 3) := by decide +kernel
theorem dX11_draw_5 : decode cX11_draw 5 = .ok (.ldc2_w 434, 3) := by decide +kernel
theorem dX11_draw_8 : decode cX11_draw 8 = .ok (.lmul, 1) := by decide +kernel
theorem dX11_draw_9 : decode cX11_draw 9 = .ok (.ldc2_w 436, 3) := by decide +kernel
theorem dX11_draw_12 : decode cX11_draw 12 = .ok (.ladd, 1) := by decide +kernel
theorem dX11_draw_13 : decode cX11_draw 13 = .ok (.putfield 237, 3) := by decide +kernel
theorem dX11_draw_16 : decode cX11_draw 16 = .ok (.iload_n 1, 1) := by decide +kernel
theorem dX11_draw_17 : decode cX11_draw 17 = .ok (.ifCond .le 17, 3) := by decide +kernel
theorem dX11_draw_20 : decode cX11_draw 20 = .ok (.aload_n 0, 1) := by decide +kernel
theorem dX11_draw_21 : decode cX11_draw 21 = .ok (.getfield 237, 3) := by decide +kernel
theorem dX11_draw_24 : decode cX11_draw 24 = .ok (.bipush 33, 2) := by decide +kernel
theorem dX11_draw_26 : decode cX11_draw 26 = .ok (.lushr, 1) := by decide +kernel
theorem dX11_draw_27 : decode cX11_draw 27 = .ok (.iload_n 1, 1) := by decide +kernel
theorem dX11_draw_28 : decode cX11_draw 28 = .ok (.i2l, 1) := by decide +kernel
theorem dX11_draw_29 : decode cX11_draw 29 = .ok (.lrem, 1) := by decide +kernel
theorem dX11_draw_30 : decode cX11_draw 30 = .ok (.l2i, 1) := by decide +kernel
theorem dX11_draw_31 : decode cX11_draw 31 = .ok (.goto 4, 3) := by decide +kernel
theorem dX11_draw_34 : decode cX11_draw 34 = .ok (.iconst 0, 1) := by decide +kernel
theorem dX11_draw_35 : decode cX11_draw 35 = .ok (.ireturn, 1) := by decide +kernel
def X11_draw (x1 : Int32) (h : Mm) : Option (Int32 × Mm) := (if x1 ≤ 0 then (some ((0 : Int32), (wL h 0 13 (((h.2 0 13) * (6364136223846793005 : Int64)) + (1442695040888963407 : Int64))))) else (if ¬ x1.toInt64 = 0 then (some ((((((wL h 0 13 (((h.2 0 13) * (6364136223846793005 : Int64)) + (1442695040888963407 : Int64))).2 0 13).toUInt64 >>> ((33 : Int32).toInt64.toUInt64 &&& Int64.toUInt64 63)).toInt64) - ((((wL h 0 13 (((h.2 0 13) * (6364136223846793005 : Int64)) + (1442695040888963407 : Int64))).2 0 13).toUInt64 >>> ((33 : Int32).toInt64.toUInt64 &&& Int64.toUInt64 63)).toInt64) / x1.toInt64 * x1.toInt64).toInt32, (wL h 0 13 (((h.2 0 13) * (6364136223846793005 : Int64)) + (1442695040888963407 : Int64))))) else none))
set_option maxRecDepth 100000 in
set_option maxHeartbeats 4000000 in
theorem s_X11_draw {X : WX} {o : Mm} {x1 : Int32} {rv : Int32} {hz : Mm} {h : Mm} (hF : X11_draw x1 h = some (rv, hz)) : Sat X yX11_draw cX11_draw 2 (some .int) 1 [.ref (xa X 0), .int x1] true o h (some (.int rv)) hz := by
  unfold X11_draw at hF
  refine Sat.mk (own := RX11) rfl (by decide +kernel) (Nat.le_of_ble_eq_true rfl) (fun G => ?_)
  refine V.sub (lv2 := [(0, _), (1, _)]) [0, 1] rfl ?_
  refine V.aload_n 0 dX11_draw_0 rfl rfl ?_
  refine V.aload_n 0 dX11_draw_1 rfl rfl ?_
  refine V.getJ fl_X11_237 sh_0 rfl km_0 dX11_draw_2 ?_
  refine V.ldc2 (v := 6364136223846793005) dX11_draw_5 kc_X11_434 ?_
  refine V.lmul dX11_draw_8 ?_
  refine V.ldc2 (v := 1442695040888963407) dX11_draw_9 kc_X11_436 ?_
  refine V.ladd dX11_draw_12 ?_
  refine V.putJ fl_X11_237 rfl (tyX11_ok 13 (by decide)) sh_0 rfl km_0 dX11_draw_13 ?_
  refine V.iload_n 1 dX11_draw_16 rfl rfl ?_
  refine V.if_le (tgt := 34) dX11_draw_17 rfl (fun c => ?_) (fun c => ?_)
  · replace hF := ip c hF
    refine V.iconst (v := 0) dX11_draw_34 rfl ?_
    cases hF
    exact V.iret dX11_draw_35
  · replace hF := iq c hF
    refine V.aload_n 0 dX11_draw_20 rfl rfl ?_
    refine V.getJ fl_X11_237 sh_0 rfl km_0 dX11_draw_21 ?_
    refine V.bipush (v := 33) dX11_draw_24 (by decide) ?_
    refine V.lushr dX11_draw_26 ?_
    refine V.iload_n 1 dX11_draw_27 rfl rfl ?_
    refine V.i2l dX11_draw_28 ?_
    obtain ⟨hk, hF⟩ := ck hF
    refine V.lrem dX11_draw_29 hk ?_
    refine V.l2i dX11_draw_30 ?_
    refine V.goto (tgt := 35) dX11_draw_31 rfl ?_
    cases hF
    exact V.iret dX11_draw_35
/-! MonsterCot.readByDraw -/
theorem dX11_readByDraw_0 : decode cX11_readByDraw 0 = .ok (.aload_n 0, 1) := by decide +kernel
theorem dX11_readByDraw_1 : decode cX11_readByDraw 1 = .ok (.aload_n 0, 1) := by decide +kernel
theorem dX11_readByDraw_2 : decode cX11_readByDraw 2 = .ok (.getfield 42, 3) := by decide +kernel
theorem dX11_readByDraw_5 : decode cX11_readByDraw 5 = .ok (.invokevirtual 309, 3) := by decide +kernel
theorem dX11_readByDraw_8 : decode cX11_readByDraw 8 = .ok (.invokevirtual 244, 3) := by decide +kernel
theorem dX11_readByDraw_11 : decode cX11_readByDraw 11 = .ok (.istore_n 1, 1) := by decide +kernel
theorem dX11_readByDraw_12 : decode cX11_readByDraw 12 = .ok (.aload_n 0, 1) := by decide +kernel
theorem dX11_readByDraw_13 : decode cX11_readByDraw 13 = .ok (.bipush 9, 2) := by decide +kernel
theorem dX11_readByDraw_15 : decode cX11_readByDraw 15 = .ok (.invokevirtual 244, 3) := by decide +kernel
theorem dX11_readByDraw_18 : decode cX11_readByDraw 18 = .ok (.iconst 1, 1) := by decide +kernel
theorem dX11_readByDraw_19 : decode cX11_readByDraw 19 = .ok (.iadd, 1) := by decide +kernel
theorem dX11_readByDraw_20 : decode cX11_readByDraw 20 = .ok (.istore_n 2, 1) := by decide +kernel
theorem dX11_readByDraw_21 : decode cX11_readByDraw 21 = .ok (.iload_n 2, 1) := by decide +kernel
theorem dX11_readByDraw_22 : decode cX11_readByDraw 22 = .ok (.aload_n 0, 1) := by decide +kernel
theorem dX11_readByDraw_23 : decode cX11_readByDraw 23 = .ok (.getfield 42, 3) := by decide +kernel
theorem dX11_readByDraw_26 : decode cX11_readByDraw 26 = .ok (.iload_n 1, 1) := by decide +kernel
theorem dX11_readByDraw_27 : decode cX11_readByDraw 27 = .ok (.invokevirtual 140, 3) := by decide +kernel
theorem dX11_readByDraw_30 : decode cX11_readByDraw 30 = .ok (.invokestatic 429, 3) := by decide +kernel
theorem dX11_readByDraw_33 : decode cX11_readByDraw 33 = .ok (.istore_n 3, 1) := by decide +kernel
theorem dX11_readByDraw_34 : decode cX11_readByDraw 34 = .ok (.aload_n 0, 1) := by decide +kernel
theorem dX11_readByDraw_35 : decode cX11_readByDraw 35 = .ok (.getfield 58, 3) := by decide +kernel
theorem dX11_readByDraw_38 : decode cX11_readByDraw 38 = .ok (.aload_n 0, 1) := by decide +kernel
theorem dX11_readByDraw_39 : decode cX11_readByDraw 39 = .ok (.getfield 65, 3) := by decide +kernel
theorem dX11_readByDraw_42 : decode cX11_readByDraw 42 = .ok (.iload_n 1, 1) := by decide +kernel
theorem dX11_readByDraw_43 : decode cX11_readByDraw 43 = .ok (.iload_n 3, 1) := by decide +kernel
theorem dX11_readByDraw_44 : decode cX11_readByDraw 44 = .ok (.iconst 0, 1) := by decide +kernel
theorem dX11_readByDraw_45 : decode cX11_readByDraw 45 = .ok (.invokevirtual 195, 3) := by decide +kernel
theorem dX11_readByDraw_48 : decode cX11_readByDraw 48 = .ok (.ifCond .eq 17, 3) := by decide +kernel
theorem dX11_readByDraw_51 : decode cX11_readByDraw 51 = .ok (.aload_n 0, 1) := by decide +kernel
theorem dX11_readByDraw_52 : decode cX11_readByDraw 52 = .ok (.getfield 58, 3) := by decide +kernel
theorem dX11_readByDraw_55 : decode cX11_readByDraw 55 = .ok (.aload_n 0, 1) := by decide +kernel
theorem dX11_readByDraw_56 : decode cX11_readByDraw 56 = .ok (.getfield 65, 3) := by decide +kernel
theorem dX11_readByDraw_59 : decode cX11_readByDraw 59 = .ok (.iload_n 1, 1) := by decide +kernel
theorem dX11_readByDraw_60 : decode cX11_readByDraw 60 = .ok (.iload_n 3, 1) := by decide +kernel
theorem dX11_readByDraw_61 : decode cX11_readByDraw 61 = .ok (.iconst 0, 1) := by decide +kernel
theorem dX11_readByDraw_62 : decode cX11_readByDraw 62 = .ok (.invokevirtual 202, 3) := by decide +kernel
theorem dX11_readByDraw_65 : decode cX11_readByDraw 65 = .ok (.return_, 1) := by decide +kernel
def X11_readByDraw (n : Nat) (h : Mm) : Option (Unit × Mm) := (bp (X1_books 13 h) (fun r18 => (bd (X11_draw r18 h) (fun r20 h22 => (bd (X11_draw (9 : Int32) h22) (fun r23 h25 => (bp (X1_pagesOf 13 r20 h25) (fun r26 => (bp (J9_min_7cf53 (r23 + (1 : Int32)) r26 h25) (fun r28 => (bp (X9_canRead 27 r20 r28 false h25) (fun r30 => (if r30 = true then (bd (X9_doRead n 27 r20 r28 false h25) (fun _ h34 => (some ((), h34)))) else (some ((), h25)))))))))))))))
set_option maxRecDepth 100000 in
set_option maxHeartbeats 4000000 in
theorem s_X11_readByDraw {X : WX} {o : Mm} {n : Nat} {rv : Unit} {hz : Mm} {h : Mm} (hF : X11_readByDraw n h = some (rv, hz)) : Sat X yX11_readByDraw cX11_readByDraw 4 (none) 7 [.ref (xa X 0)] true o h none hz := by
  unfold X11_readByDraw at hF
  refine Sat.mk (own := RX11) rfl (by decide +kernel) (Nat.le_of_ble_eq_true rfl) (fun G => ?_)
  refine V.sub (lv2 := [(0, _)]) [0] rfl ?_
  refine V.aload_n 0 dX11_readByDraw_0 rfl rfl ?_
  refine V.aload_n 0 dX11_readByDraw_1 rfl rfl ?_
  refine V.getR (v := 13) fl_X11_42 sh_0 rfl fx_0_4 (by decide) dX11_readByDraw_2 ?_
  obtain ⟨r18, hc19, hF⟩ := bp_s hF
  refine V.callVi mf_X1_books ml_X11_309 sh_13 (s_X1_books (Or.inr rfl) hc19) (by decide) rfl rfl (Nat.le_of_ble_eq_true rfl) dX11_readByDraw_5 ?_
  obtain ⟨r20, h22, hc21, hF⟩ := bd_s hF
  refine V.callVi mf_X11_draw ml_X11_244 sh_0 (s_X11_draw hc21) (by decide) rfl rfl (Nat.le_of_ble_eq_true rfl) dX11_readByDraw_8 ?_
  refine V.istore_n [(1, _), (0, _)] dX11_readByDraw_11 rfl (by decide) rfl ?_
  refine V.aload_n 1 dX11_readByDraw_12 rfl rfl ?_
  refine V.bipush (v := 9) dX11_readByDraw_13 (by decide) ?_
  obtain ⟨r23, h25, hc24, hF⟩ := bd_s hF
  refine V.callVi mf_X11_draw ml_X11_244 sh_0 (s_X11_draw hc24) (by decide) rfl rfl (Nat.le_of_ble_eq_true rfl) dX11_readByDraw_15 ?_
  refine V.iconst (v := 1) dX11_readByDraw_18 rfl ?_
  refine V.iadd dX11_readByDraw_19 ?_
  refine V.istore_n [(2, _), (1, _), (0, _)] dX11_readByDraw_20 rfl (by decide) rfl ?_
  refine V.iload_n 0 dX11_readByDraw_21 rfl rfl ?_
  refine V.aload_n 2 dX11_readByDraw_22 rfl rfl ?_
  refine V.getR (v := 13) fl_X11_42 sh_0 rfl fx_0_4 (by decide) dX11_readByDraw_23 ?_
  refine V.iload_n 1 dX11_readByDraw_26 rfl rfl ?_
  obtain ⟨r26, hc27, hF⟩ := bp_s hF
  refine V.callVi mf_X1_pagesOf ml_X11_140 sh_13 (s_X1_pagesOf (Or.inr rfl) hc27) (by decide) rfl rfl (Nat.le_of_ble_eq_true rfl) dX11_readByDraw_27 ?_
  obtain ⟨r28, hc29, hF⟩ := bp_s hF
  refine V.callSi mf_J9_min_7cf53 ml_X11_429 (s_J9_min_7cf53 hc29) (by decide) rfl rfl (Nat.le_of_ble_eq_true rfl) dX11_readByDraw_30 ?_
  refine V.istore_n [(3, _), (2, _), (1, _), (0, _)] dX11_readByDraw_33 rfl (by decide) rfl ?_
  refine V.aload_n 3 dX11_readByDraw_34 rfl rfl ?_
  refine V.getR (v := 26) fl_X11_58 sh_0 rfl fx_0_6 (by decide) dX11_readByDraw_35 ?_
  refine V.aload_n 3 dX11_readByDraw_38 rfl rfl ?_
  refine V.getR (v := 27) fl_X11_65 sh_0 rfl fx_0_7 (by decide) dX11_readByDraw_39 ?_
  refine V.iload_n 2 dX11_readByDraw_42 rfl rfl ?_
  refine V.iload_n 0 dX11_readByDraw_43 rfl rfl ?_
  refine V.iconst (v := 0) dX11_readByDraw_44 rfl ?_
  obtain ⟨r30, hc31, hF⟩ := bp_s hF
  refine V.callVi mf_X9_canRead ml_X11_195 sh_26 (s_X9_canRead isb_27 hc31) (by decide) rfl rfl (Nat.le_of_ble_eq_true rfl) dX11_readByDraw_45 ?_
  refine V.ifz_eq (tgt := 65) dX11_readByDraw_48 rfl (fun c => ?_) (fun c => ?_)
  · replace hF := iq c hF
    cases hF
    exact V.vret dX11_readByDraw_65
  · replace hF := ip c hF
    refine V.aload_n 3 dX11_readByDraw_51 rfl rfl ?_
    refine V.getR (v := 26) fl_X11_58 sh_0 rfl fx_0_6 (by decide) dX11_readByDraw_52 ?_
    refine V.aload_n 3 dX11_readByDraw_55 rfl rfl ?_
    refine V.getR (v := 27) fl_X11_65 sh_0 rfl fx_0_7 (by decide) dX11_readByDraw_56 ?_
    refine V.iload_n 2 dX11_readByDraw_59 rfl rfl ?_
    refine V.iload_n 0 dX11_readByDraw_60 rfl rfl ?_
    refine V.iconst (v := 0) dX11_readByDraw_61 rfl ?_
    obtain ⟨r32, h34, hc33, hF⟩ := bd_s hF
    refine V.callVv mf_X9_doRead ml_X11_202 sh_26 (s_X9_doRead isb_27 hc33) (by decide) rfl rfl (Nat.le_of_ble_eq_true rfl) dX11_readByDraw_62 ?_
    cases hF
    exact V.vret dX11_readByDraw_65
/-! MonsterCot.years -/
theorem dX11_years_0 : decode cX11_years 0 = .ok (.aload_n 0, 1) := by decide +kernel
theorem dX11_years_1 : decode cX11_years 1 = .ok (.getfield 42, 3) := by decide +kernel
theorem dX11_years_4 : decode cX11_years 4 = .ok (.invokevirtual 124, 3) := by decide +kernel
theorem dX11_years_7 : decode cX11_years 7 = .ok (.ifCond .eq 29, 3) := by decide +kernel
theorem dX11_years_10 : decode cX11_years 10 = .ok (.iload_n 1, 1) := by decide +kernel
theorem dX11_years_11 : decode cX11_years 11 = .ok (.iconst 1, 1) := by decide +kernel
theorem dX11_years_12 : decode cX11_years 12 = .ok (.if_icmp .lt 24, 3) := by decide +kernel
theorem dX11_years_15 : decode cX11_years 15 = .ok (.iload_n 1, 1) := by decide +kernel
theorem dX11_years_16 : decode cX11_years 16 = .ok (.bipush 30, 2) := by decide +kernel
theorem dX11_years_18 : decode cX11_years 18 = .ok (.if_icmp .gt 18, 3) := by decide +kernel
theorem dX11_years_21 : decode cX11_years 21 = .ok (.aload_n 0, 1) := by decide +kernel
theorem dX11_years_22 : decode cX11_years 22 = .ok (.getfield 65, 3) := by decide +kernel
theorem dX11_years_25 : decode cX11_years 25 = .ok (.getfield 234, 3) := by decide +kernel
theorem dX11_years_28 : decode cX11_years 28 = .ok (.iload_n 1, 1) := by decide +kernel
theorem dX11_years_29 : decode cX11_years 29 = .ok (.iadd, 1) := by decide +kernel
theorem dX11_years_30 : decode cX11_years 30 = .ok (.sipush 9999, 3) := by decide +kernel
theorem dX11_years_33 : decode cX11_years 33 = .ok (.if_icmp .le 5, 3) := by decide +kernel
theorem dX11_years_36 : decode cX11_years 36 = .ok (.iconst (-1), 1) := by decide +kernel
theorem dX11_years_37 : decode cX11_years 37 = .ok (.ireturn, 1) := by decide +kernel
theorem dX11_years_38 : decode cX11_years 38 = .ok (.aload_n 0, 1) := by decide +kernel
theorem dX11_years_39 : decode cX11_years 39 = .ok (.lload_n 2, 1) := by decide +kernel
theorem dX11_years_40 : decode cX11_years 40 = .ok (.putfield 237, 3) := by decide +kernel
theorem dX11_years_43 : decode cX11_years 43 = .ok (.iconst 0, 1) := by decide +kernel
theorem dX11_years_44 : decode cX11_years 44 = .ok (.istore 4, 2) := by decide +kernel
theorem dX11_years_46 : decode cX11_years 46 = .ok (.iload 4, 2) := by decide +kernel
theorem dX11_years_48 : decode cX11_years 48 = .ok (.iload_n 1, 1) := by decide +kernel
theorem dX11_years_49 : decode cX11_years 49 = .ok (.if_icmp .ge 71, 3) := by decide +kernel
theorem dX11_years_52 : decode cX11_years 52 = .ok (.aload_n 0, 1) := by decide +kernel
theorem dX11_years_53 : decode cX11_years 53 = .ok (.getfield 75, 3) := by decide +kernel
theorem dX11_years_56 : decode cX11_years 56 = .ok (.aload_n 0, 1) := by decide +kernel
theorem dX11_years_57 : decode cX11_years 57 = .ok (.getfield 65, 3) := by decide +kernel
theorem dX11_years_60 : decode cX11_years 60 = .ok (.invokevirtual 199, 3) := by decide +kernel
theorem dX11_years_63 : decode cX11_years 63 = .ok (.aload_n 0, 1) := by decide +kernel
theorem dX11_years_64 : decode cX11_years 64 = .ok (.invokevirtual 241, 3) := by decide +kernel
theorem dX11_years_67 : decode cX11_years 67 = .ok (.aload_n 0, 1) := by decide +kernel
theorem dX11_years_68 : decode cX11_years 68 = .ok (.invokevirtual 241, 3) := by decide +kernel
theorem dX11_years_71 : decode cX11_years 71 = .ok (.aload_n 0, 1) := by decide +kernel
theorem dX11_years_72 : decode cX11_years 72 = .ok (.bipush 10, 2) := by decide +kernel
theorem dX11_years_74 : decode cX11_years 74 = .ok (.invokevirtual 244, 3) := by decide +kernel
theorem dX11_years_77 : decode cX11_years 77 = .ok (.aload_n 0, 1) := by decide +kernel
theorem dX11_years_78 : decode cX11_years 78 = .ok (.getfield 192, 3) := by decide +kernel
theorem dX11_years_81 : decode cX11_years 81 = .ok (.if_icmp .ge 28, 3) := by decide +kernel
theorem dX11_years_84 : decode cX11_years 84 = .ok (.aload_n 0, 1) := by decide +kernel
theorem dX11_years_85 : decode cX11_years 85 = .ok (.getfield 58, 3) := by decide +kernel
theorem dX11_years_88 : decode cX11_years 88 = .ok (.aload_n 0, 1) := by decide +kernel
theorem dX11_years_89 : decode cX11_years 89 = .ok (.getfield 65, 3) := by decide +kernel
theorem dX11_years_92 : decode cX11_years 92 = .ok (.invokevirtual 206, 3) := by decide +kernel
theorem dX11_years_95 : decode cX11_years 95 = .ok (.ifCond .eq 14, 3) := by decide +kernel
theorem dX11_years_98 : decode cX11_years 98 = .ok (.aload_n 0, 1) := by decide +kernel
theorem dX11_years_99 : decode cX11_years 99 = .ok (.getfield 58, 3) := by decide +kernel
theorem dX11_years_102 : decode cX11_years 102 = .ok (.aload_n 0, 1) := by decide +kernel
theorem dX11_years_103 : decode cX11_years 103 = .ok (.getfield 65, 3) := by decide +kernel
theorem dX11_years_106 : decode cX11_years 106 = .ok (.invokevirtual 210, 3) := by decide +kernel
theorem dX11_years_109 : decode cX11_years 109 = .ok (.aload_n 0, 1) := by decide +kernel
theorem dX11_years_110 : decode cX11_years 110 = .ok (.invokevirtual 231, 3) := by decide +kernel
theorem dX11_years_113 : decode cX11_years 113 = .ok (.pop, 1) := by decide +kernel
theorem dX11_years_114 : decode cX11_years 114 = .ok (.iinc 4 1, 3) := by decide +kernel
theorem dX11_years_117 : decode cX11_years 117 = .ok (.goto (-71), 3) := by decide +kernel
theorem dX11_years_120 : decode cX11_years 120 = .ok (.aload_n 0, 1) := by decide +kernel
theorem dX11_years_121 : decode cX11_years 121 = .ok (.getfield 65, 3) := by decide +kernel
theorem dX11_years_124 : decode cX11_years 124 = .ok (.getfield 234, 3) := by decide +kernel
theorem dX11_years_127 : decode cX11_years 127 = .ok (.ireturn, 1) := by decide +kernel
def X11_years_109 (n : Nat) (K46 : Int32 → Int32 → Mm → Option (Int32 × Mm)) (x1 : Int32) (x4 : Int32) (h : Mm) : Option (Int32 × Mm) := (bd (X11_passLoggedNight n h) (fun r86 h88 => (K46 x1 (x4 + (1)) h88)))
set_option maxRecDepth 100000 in
set_option maxHeartbeats 4000000 in
theorem v_X11_years_109 {X : WX} {G : GX} {o : Mm} {n : Nat} {K46 : Int32 → Int32 → Mm → Option (Int32 × Mm)} {rv : Int32} {hz : Mm} (hK46 : ∀ (x1 : Int32) (x4 : Int32) (h : Mm), K46 x1 x4 h = some (rv, hz) → V X G RX11 cX11_years 5 (some .int) 8 0 0 (QR X G true o (some (.int rv)) hz) true o 46 [(0, .ref (xa X 0)), (1, .int x1), (4, .int x4)] [] h) {x1 : Int32} {x4 : Int32} {h : Mm} (hF : X11_years_109 n K46 x1 x4 h = some (rv, hz)) : V X G RX11 cX11_years 5 (some .int) 8 0 0 (QR X G true o (some (.int rv)) hz) true o 109 [(0, .ref (xa X 0)), (1, .int x1), (4, .int x4)] [] h := by
  unfold X11_years_109 at hF
  refine V.aload_n 0 dX11_years_109 rfl rfl ?_
  obtain ⟨r86, h88, hc87, hF⟩ := bd_s hF
  refine V.callVi mf_X11_passLoggedNight ml_X11_231 sh_0 (s_X11_passLoggedNight hc87) (by decide) rfl rfl (Nat.le_of_ble_eq_true rfl) dX11_years_110 ?_
  refine V.pop dX11_years_113 rfl ?_
  refine V.iinc (v := (x4 + (1))) 2 [(4, _), (0, _), (1, _)] dX11_years_114 rfl rfl (by decide) rfl ?_
  refine V.goto (tgt := 46) dX11_years_117 rfl ?_
  exact V.sub [1, 2, 0] rfl (hK46 _ _ _ hF)
def X11_years_46 (n : Nat) : Nat → Int32 → Int32 → Mm → Option (Int32 × Mm)
  | 0, _, _, _ => none
  | f + 1, x1, x4, h => (if x1 ≤ x4 then (some ((h.1 27 6), h)) else (bd (X5_keep 27 h) (fun _ h91 => (bd (X11_readByDraw n h91) (fun _ h94 => (bd (X11_readByDraw n h94) (fun _ h97 => (bd (X11_draw (10 : Int32) h97) (fun r98 h100 => (if (h100.1 0 12) ≤ r98 then (X11_years_109 n (X11_years_46 n f) x1 x4 h100) else (bp (X9_canDrink 27 h100) (fun r101 => (if r101 = true then (bd (X9_drink 27 h100) (fun _ h105 => (X11_years_109 n (X11_years_46 n f) x1 x4 h105))) else (X11_years_109 n (X11_years_46 n f) x1 x4 h100))))))))))))))
set_option maxRecDepth 100000 in
set_option maxHeartbeats 4000000 in
theorem v_X11_years_46 {X : WX} {G : GX} {o : Mm} {n : Nat} {rv : Int32} {hz : Mm} : ∀ (f : Nat) (x1 : Int32) (x4 : Int32) (h : Mm), X11_years_46 n f x1 x4 h = some (rv, hz) → V X G RX11 cX11_years 5 (some .int) 8 0 0 (QR X G true o (some (.int rv)) hz) true o 46 [(0, .ref (xa X 0)), (1, .int x1), (4, .int x4)] [] h := by
  intro f
  induction f with
  | zero => intro x1 x4 h hF; exact nomatch (show (none : Option (Int32 × Mm)) = some (rv, hz) from hF)
  | succ f ih =>
    intro x1 x4 h hF
    unfold X11_years_46 at hF
    refine V.iload 2 dX11_years_46 rfl ?_
    refine V.iload_n 1 dX11_years_48 rfl rfl ?_
    refine V.icmp_ge (tgt := 120) dX11_years_49 rfl (fun c => ?_) (fun c => ?_)
    · replace hF := ip c hF
      refine V.aload_n 0 dX11_years_120 rfl rfl ?_
      refine V.getR (v := 27) fl_X11_65 sh_0 rfl fx_0_7 (by decide) dX11_years_121 ?_
      refine V.getI fl_X11_234 sh_27 rfl km_27 dX11_years_124 ?_
      cases hF
      exact V.iret dX11_years_127
    · replace hF := iq c hF
      refine V.aload_n 0 dX11_years_52 rfl rfl ?_
      refine V.getR (v := 37) fl_X11_75 sh_0 rfl fx_0_9 (by decide) dX11_years_53 ?_
      refine V.aload_n 0 dX11_years_56 rfl rfl ?_
      refine V.getR (v := 27) fl_X11_65 sh_0 rfl fx_0_7 (by decide) dX11_years_57 ?_
      obtain ⟨r89, h91, hc90, hF⟩ := bd_s hF
      refine V.callVv mf_X5_keep ml_X11_199 sh_37 (s_X5_keep isb_27 hc90) (by decide) rfl rfl (Nat.le_of_ble_eq_true rfl) dX11_years_60 ?_
      refine V.aload_n 0 dX11_years_63 rfl rfl ?_
      obtain ⟨r92, h94, hc93, hF⟩ := bd_s hF
      refine V.callVv mf_X11_readByDraw ml_X11_241 sh_0 (s_X11_readByDraw hc93) (by decide) rfl rfl (Nat.le_of_ble_eq_true rfl) dX11_years_64 ?_
      refine V.aload_n 0 dX11_years_67 rfl rfl ?_
      obtain ⟨r95, h97, hc96, hF⟩ := bd_s hF
      refine V.callVv mf_X11_readByDraw ml_X11_241 sh_0 (s_X11_readByDraw hc96) (by decide) rfl rfl (Nat.le_of_ble_eq_true rfl) dX11_years_68 ?_
      refine V.aload_n 0 dX11_years_71 rfl rfl ?_
      refine V.bipush (v := 10) dX11_years_72 (by decide) ?_
      obtain ⟨r98, h100, hc99, hF⟩ := bd_s hF
      refine V.callVi mf_X11_draw ml_X11_244 sh_0 (s_X11_draw hc99) (by decide) rfl rfl (Nat.le_of_ble_eq_true rfl) dX11_years_74 ?_
      refine V.aload_n 0 dX11_years_77 rfl rfl ?_
      refine V.getI fl_X11_192 sh_0 rfl km_0 dX11_years_78 ?_
      refine V.icmp_ge (tgt := 109) dX11_years_81 rfl (fun c => ?_) (fun c => ?_)
      · replace hF := ip c hF
        exact (v_X11_years_109 ih hF)
      · replace hF := iq c hF
        refine V.aload_n 0 dX11_years_84 rfl rfl ?_
        refine V.getR (v := 26) fl_X11_58 sh_0 rfl fx_0_6 (by decide) dX11_years_85 ?_
        refine V.aload_n 0 dX11_years_88 rfl rfl ?_
        refine V.getR (v := 27) fl_X11_65 sh_0 rfl fx_0_7 (by decide) dX11_years_89 ?_
        obtain ⟨r101, hc102, hF⟩ := bp_s hF
        refine V.callVi mf_X9_canDrink ml_X11_206 sh_26 (s_X9_canDrink isb_27 hc102) (by decide) rfl rfl (Nat.le_of_ble_eq_true rfl) dX11_years_92 ?_
        refine V.ifz_eq (tgt := 109) dX11_years_95 rfl (fun c => ?_) (fun c => ?_)
        · replace hF := iq c hF
          exact (v_X11_years_109 ih hF)
        · replace hF := ip c hF
          refine V.aload_n 0 dX11_years_98 rfl rfl ?_
          refine V.getR (v := 26) fl_X11_58 sh_0 rfl fx_0_6 (by decide) dX11_years_99 ?_
          refine V.aload_n 0 dX11_years_102 rfl rfl ?_
          refine V.getR (v := 27) fl_X11_65 sh_0 rfl fx_0_7 (by decide) dX11_years_103 ?_
          obtain ⟨r103, h105, hc104, hF⟩ := bd_s hF
          refine V.callVv mf_X9_drink ml_X11_210 sh_26 (s_X9_drink isb_27 hc104) (by decide) rfl rfl (Nat.le_of_ble_eq_true rfl) dX11_years_106 ?_
          exact (v_X11_years_109 ih hF)
def X11_years (n : Nat) (x1 : Int32) (x2 : Int64) (h : Mm) : Option (Int32 × Mm) := (bp (X1_stands 13 h) (fun r106 => (if r106 = true then (if x1 < (1 : Int32) then (some ((-1 : Int32), h)) else (if (30 : Int32) < x1 then (some ((-1 : Int32), h)) else (if ((h.1 27 6) + x1) ≤ (9999 : Int32) then (X11_years_46 n n x1 (0 : Int32) (wL h 0 13 x2)) else (some ((-1 : Int32), h))))) else (some ((-1 : Int32), h)))))
set_option maxRecDepth 100000 in
set_option maxHeartbeats 4000000 in
theorem s_X11_years {X : WX} {o : Mm} {n : Nat} {x1 : Int32} {x2 : Int64} {rv : Int32} {hz : Mm} {h : Mm} (hF : X11_years n x1 x2 h = some (rv, hz)) : Sat X yX11_years cX11_years 5 (some .int) 8 [.ref (xa X 0), .int x1, .long x2] true o h (some (.int rv)) hz := by
  unfold X11_years at hF
  refine Sat.mk (own := RX11) rfl (by decide +kernel) (Nat.le_of_ble_eq_true rfl) (fun G => ?_)
  refine V.sub (lv2 := [(0, _), (1, _), (2, _)]) [0, 1, 2] rfl ?_
  refine V.aload_n 0 dX11_years_0 rfl rfl ?_
  refine V.getR (v := 13) fl_X11_42 sh_0 rfl fx_0_4 (by decide) dX11_years_1 ?_
  obtain ⟨r106, hc107, hF⟩ := bp_s hF
  refine V.callVi mf_X1_stands ml_X11_124 sh_13 (s_X1_stands (Or.inr rfl) hc107) (by decide) rfl rfl (Nat.le_of_ble_eq_true rfl) dX11_years_4 ?_
  refine V.ifz_eq (tgt := 36) dX11_years_7 rfl (fun c => ?_) (fun c => ?_)
  · replace hF := iq c hF
    refine V.iconst (v := -1) dX11_years_36 rfl ?_
    cases hF
    exact V.iret dX11_years_37
  · replace hF := ip c hF
    refine V.iload_n 1 dX11_years_10 rfl rfl ?_
    refine V.iconst (v := 1) dX11_years_11 rfl ?_
    refine V.icmp_lt (tgt := 36) dX11_years_12 rfl (fun c => ?_) (fun c => ?_)
    · replace hF := ip c hF
      refine V.iconst (v := -1) dX11_years_36 rfl ?_
      cases hF
      exact V.iret dX11_years_37
    · replace hF := iq c hF
      refine V.iload_n 1 dX11_years_15 rfl rfl ?_
      refine V.bipush (v := 30) dX11_years_16 (by decide) ?_
      refine V.icmp_gt (tgt := 36) dX11_years_18 rfl (fun c => ?_) (fun c => ?_)
      · replace hF := ip c hF
        refine V.iconst (v := -1) dX11_years_36 rfl ?_
        cases hF
        exact V.iret dX11_years_37
      · replace hF := iq c hF
        refine V.aload_n 0 dX11_years_21 rfl rfl ?_
        refine V.getR (v := 27) fl_X11_65 sh_0 rfl fx_0_7 (by decide) dX11_years_22 ?_
        refine V.getI fl_X11_234 sh_27 rfl km_27 dX11_years_25 ?_
        refine V.iload_n 1 dX11_years_28 rfl rfl ?_
        refine V.iadd dX11_years_29 ?_
        refine V.sipush (v := 9999) dX11_years_30 (by decide) ?_
        refine V.icmp_le (tgt := 38) dX11_years_33 rfl (fun c => ?_) (fun c => ?_)
        · replace hF := ip c hF
          refine V.aload_n 0 dX11_years_38 rfl rfl ?_
          refine V.lload_n 2 dX11_years_39 rfl rfl ?_
          refine V.putJ fl_X11_237 rfl (tyX11_ok 13 (by decide)) sh_0 rfl km_0 dX11_years_40 ?_
          refine V.iconst (v := 0) dX11_years_43 rfl ?_
          refine V.istore [(4, _), (0, _), (1, _), (2, _)] dX11_years_44 (by decide) rfl ?_
          exact V.sub [1, 2, 0] rfl (v_X11_years_46 n _ _ _ hF)
        · replace hF := iq c hF
          refine V.iconst (v := -1) dX11_years_36 rfl ?_
          cases hF
          exact V.iret dX11_years_37
/-! MonsterCot$Past.takeBack -/
theorem dX5_takeBack_0 : decode cX5_takeBack 0 = .ok (.aload_n 0, 1) := by decide +kernel
theorem dX5_takeBack_1 : decode cX5_takeBack 1 = .ok (.getfield 37, 3) := by decide +kernel
theorem dX5_takeBack_4 : decode cX5_takeBack 4 = .ok (.ifCond .le 12, 3) := by decide +kernel
theorem dX5_takeBack_7 : decode cX5_takeBack 7 = .ok (.aload_n 0, 1) := by decide +kernel
theorem dX5_takeBack_8 : decode cX5_takeBack 8 = .ok (.getfield 37, 3) := by decide +kernel
theorem dX5_takeBack_11 : decode cX5_takeBack 11 = .ok (.iconst 1, 1) := by decide +kernel
theorem dX5_takeBack_12 : decode cX5_takeBack 12 = .ok (.isub, 1) := by decide +kernel
theorem dX5_takeBack_13 : decode cX5_takeBack 13 = .ok (.goto 5, 3) := by decide +kernel
theorem dX5_takeBack_16 : decode cX5_takeBack 16 = .ok (.bipush 39, 2) := by decide +kernel
theorem dX5_takeBack_18 : decode cX5_takeBack 18 = .ok (.istore_n 2, 1) := by decide +kernel
theorem dX5_takeBack_19 : decode cX5_takeBack 19 = .ok (.aload_n 0, 1) := by decide +kernel
theorem dX5_takeBack_20 : decode cX5_takeBack 20 = .ok (.getfield 29, 3) := by decide +kernel
theorem dX5_takeBack_23 : decode cX5_takeBack 23 = .ok (.iconst 1, 1) := by decide +kernel
theorem dX5_takeBack_24 : decode cX5_takeBack 24 = .ok (.if_icmp .lt 21, 3) := by decide +kernel
theorem dX5_takeBack_27 : decode cX5_takeBack 27 = .ok (.iload_n 2, 1) := by decide +kernel
theorem dX5_takeBack_28 : decode cX5_takeBack 28 = .ok (.aload_n 0, 1) := by decide +kernel
theorem dX5_takeBack_29 : decode cX5_takeBack 29 = .ok (.getfield 13, 3) := by decide +kernel
theorem dX5_takeBack_32 : decode cX5_takeBack 32 = .ok (.arraylength, 1) := by decide +kernel
theorem dX5_takeBack_33 : decode cX5_takeBack 33 = .ok (.if_icmp .ge 12, 3) := by decide +kernel
theorem dX5_takeBack_36 : decode cX5_takeBack 36 = .ok (.aload_n 0, 1) := by decide +kernel
theorem dX5_takeBack_37 : decode cX5_takeBack 37 = .ok (.getfield 13, 3) := by decide +kernel
theorem dX5_takeBack_40 : decode cX5_takeBack 40 = .ok (.iload_n 2, 1) := by decide +kernel
theorem dX5_takeBack_41 : decode cX5_takeBack 41 = .ok (.aaload, 1) := by decide +kernel
theorem dX5_takeBack_42 : decode cX5_takeBack 42 = .ok (.ifnonnull 5, 3) := by decide +kernel
theorem dX5_takeBack_45 : decode cX5_takeBack 45 = .ok (.iconst 0, 1) := by decide +kernel
theorem dX5_takeBack_46 : decode cX5_takeBack 46 = .ok (.ireturn, 1) := by decide +kernel
theorem dX5_takeBack_47 : decode cX5_takeBack 47 = .ok (.aload_n 1, 1) := by decide +kernel
theorem dX5_takeBack_48 : decode cX5_takeBack 48 = .ok (.aload_n 0, 1) := by decide +kernel
theorem dX5_takeBack_49 : decode cX5_takeBack 49 = .ok (.getfield 13, 3) := by decide +kernel
theorem dX5_takeBack_52 : decode cX5_takeBack 52 = .ok (.iload_n 2, 1) := by decide +kernel
theorem dX5_takeBack_53 : decode cX5_takeBack 53 = .ok (.aaload, 1) := by decide +kernel
theorem dX5_takeBack_54 : decode cX5_takeBack 54 = .ok (.invokevirtual 40, 3) := by decide +kernel
theorem dX5_takeBack_57 : decode cX5_takeBack 57 = .ok (.aload_n 0, 1) := by decide +kernel
theorem dX5_takeBack_58 : decode cX5_takeBack 58 = .ok (.iload_n 2, 1) := by decide +kernel
theorem dX5_takeBack_59 : decode cX5_takeBack 59 = .ok (.putfield 37, 3) := by decide +kernel
theorem dX5_takeBack_62 : decode cX5_takeBack 62 = .ok (.aload_n 0, 1) := by decide +kernel
theorem dX5_takeBack_63 : decode cX5_takeBack 63 = .ok (.dup, 1) := by decide +kernel
theorem dX5_takeBack_64 : decode cX5_takeBack 64 = .ok (.getfield 29, 3) := by decide +kernel
theorem dX5_takeBack_67 : decode cX5_takeBack 67 = .ok (.iconst 1, 1) := by decide +kernel
theorem dX5_takeBack_68 : decode cX5_takeBack 68 = .ok (.isub, 1) := by decide +kernel
theorem dX5_takeBack_69 : decode cX5_takeBack 69 = .ok (.putfield 29, 3) := by decide +kernel
theorem dX5_takeBack_72 : decode cX5_takeBack 72 = .ok (.iconst 1, 1) := by decide +kernel
theorem dX5_takeBack_73 : decode cX5_takeBack 73 = .ok (.ireturn, 1) := by decide +kernel
def X5_takeBack_18 (a1 : Nat) (s0 : Int32) (h : Mm) : Option (Bool × Mm) := (if (h.1 37 5) < (1 : Int32) then (some (false, h)) else (if (40 : Int32) ≤ s0 then (some (false, h)) else (if inB s0 40 then (if inB s0 40 then (bd (X0_copyFrom a1 (46 + 5 * s0.toNatClampNeg) h) (fun _ h15 => (some (true, (wI (wI h15 37 6 s0) 37 5 (((wI h15 37 6 s0).1 37 5) - (1 : Int32))))))) else none) else none)))
set_option maxRecDepth 100000 in
set_option maxHeartbeats 4000000 in
theorem v_X5_takeBack_18 {X : WX} {G : GX} {o : Mm} {a1 : Nat} {rv : Bool} {hz : Mm} (ha1 : isBed a1) {s0 : Int32} {h : Mm} (hF : X5_takeBack_18 a1 s0 h = some (rv, hz)) : V X G RX5 cX5_takeBack 3 (some .boolean) 4 0 0 (QR X G true o (some (.int (b2i rv))) hz) true o 18 [(0, .ref (xa X 37)), (1, .ref (xa X a1))] [.int s0] h := by
  unfold X5_takeBack_18 at hF
  refine V.istore_n [(2, _), (0, _), (1, _)] dX5_takeBack_18 rfl (by decide) rfl ?_
  refine V.aload_n 1 dX5_takeBack_19 rfl rfl ?_
  refine V.getI fl_X5_29 sh_37 rfl km_37 dX5_takeBack_20 ?_
  refine V.iconst (v := 1) dX5_takeBack_23 rfl ?_
  refine V.icmp_lt (tgt := 45) dX5_takeBack_24 rfl (fun c => ?_) (fun c => ?_)
  · replace hF := ip c hF
    refine V.iconst (v := 0) dX5_takeBack_45 rfl ?_
    cases hF
    exact V.bret dX5_takeBack_46
  · replace hF := iq c hF
    refine V.iload_n 0 dX5_takeBack_27 rfl rfl ?_
    refine V.aload_n 1 dX5_takeBack_28 rfl rfl ?_
    refine V.getR (v := 38) fl_X5_13 sh_37 rfl fx_37_0 (by decide) dX5_takeBack_29 ?_
    refine V.alen (v := 40) sh_38 (by decide) rfl dX5_takeBack_32 ?_
    refine V.icmp_ge (tgt := 45) dX5_takeBack_33 rfl (fun c => ?_) (fun c => ?_)
    · replace hF := ip c hF
      refine V.iconst (v := 0) dX5_takeBack_45 rfl ?_
      cases hF
      exact V.bret dX5_takeBack_46
    · replace hF := iq c hF
      refine V.aload_n 1 dX5_takeBack_36 rfl rfl ?_
      refine V.getR (v := 38) fl_X5_13 sh_37 rfl fx_37_0 (by decide) dX5_takeBack_37 ?_
      refine V.iload_n 0 dX5_takeBack_40 rfl rfl ?_
      obtain ⟨hk, hF⟩ := ck hF
      have hx11 := hk.lt
      refine V.aald (v := (46 + 5 * s0.toNatClampNeg)) sh_38 (Or.inl rfl) hk (ring_fx hx11) (by omega) dX5_takeBack_41 ?_
      refine V.ifnonnull (tgt := 47) dX5_takeBack_42 rfl ?_
      refine V.aload_n 2 dX5_takeBack_47 rfl rfl ?_
      refine V.aload_n 1 dX5_takeBack_48 rfl rfl ?_
      refine V.getR (v := 38) fl_X5_13 sh_37 rfl fx_37_0 (by decide) dX5_takeBack_49 ?_
      refine V.iload_n 0 dX5_takeBack_52 rfl rfl ?_
      obtain ⟨hk, hF⟩ := ck hF
      have hx12 := hk.lt
      refine V.aald (v := (46 + 5 * s0.toNatClampNeg)) sh_38 (Or.inl rfl) hk (ring_fx hx12) (by omega) dX5_takeBack_53 ?_
      obtain ⟨r13, h15, hc14, hF⟩ := bd_s hF
      refine V.callVv mf_X0_copyFrom ml_X5_40 ha1.sh (s_X0_copyFrom ha1 (ring_bed hx12) hc14) (by decide) rfl rfl (Nat.le_of_ble_eq_true rfl) dX5_takeBack_54 ?_
      refine V.aload_n 1 dX5_takeBack_57 rfl rfl ?_
      refine V.iload_n 0 dX5_takeBack_58 rfl rfl ?_
      refine V.putI fl_X5_37 rfl (tyX5_ok 6 (by decide)) rfl rfl sh_37 rfl km_37 dX5_takeBack_59 ?_
      refine V.aload_n 1 dX5_takeBack_62 rfl rfl ?_
      refine V.dup dX5_takeBack_63 rfl ?_
      refine V.getI fl_X5_29 sh_37 rfl km_37 dX5_takeBack_64 ?_
      refine V.iconst (v := 1) dX5_takeBack_67 rfl ?_
      refine V.isub dX5_takeBack_68 ?_
      refine V.putI fl_X5_29 rfl (tyX5_ok 5 (by decide)) rfl rfl sh_37 rfl km_37 dX5_takeBack_69 ?_
      refine V.iconst (v := 1) dX5_takeBack_72 rfl ?_
      cases hF
      exact V.bret dX5_takeBack_73
def X5_takeBack (a1 : Nat) (h : Mm) : Option (Bool × Mm) := (if (h.1 37 6) ≤ 0 then (X5_takeBack_18 a1 (39 : Int32) h) else (X5_takeBack_18 a1 ((h.1 37 6) - (1 : Int32)) h))
set_option maxRecDepth 100000 in
set_option maxHeartbeats 4000000 in
theorem s_X5_takeBack {X : WX} {o : Mm} {a1 : Nat} {rv : Bool} {hz : Mm} {h : Mm} (ha1 : isBed a1) (hF : X5_takeBack a1 h = some (rv, hz)) : Sat X yX5_takeBack cX5_takeBack 3 (some .boolean) 4 [.ref (xa X 37), .ref (xa X a1)] true o h (some (.int (b2i rv))) hz := by
  unfold X5_takeBack at hF
  refine Sat.mk (own := RX5) rfl (by decide +kernel) (Nat.le_of_ble_eq_true rfl) (fun G => ?_)
  refine V.sub (lv2 := [(0, _), (1, _)]) [0, 1] rfl ?_
  refine V.aload_n 0 dX5_takeBack_0 rfl rfl ?_
  refine V.getI fl_X5_37 sh_37 rfl km_37 dX5_takeBack_1 ?_
  refine V.if_le (tgt := 16) dX5_takeBack_4 rfl (fun c => ?_) (fun c => ?_)
  · replace hF := ip c hF
    refine V.bipush (v := 39) dX5_takeBack_16 (by decide) ?_
    exact (v_X5_takeBack_18 ha1 hF)
  · replace hF := iq c hF
    refine V.aload_n 0 dX5_takeBack_7 rfl rfl ?_
    refine V.getI fl_X5_37 sh_37 rfl km_37 dX5_takeBack_8 ?_
    refine V.iconst (v := 1) dX5_takeBack_11 rfl ?_
    refine V.isub dX5_takeBack_12 ?_
    refine V.goto (tgt := 18) dX5_takeBack_13 rfl ?_
    exact (v_X5_takeBack_18 ha1 hF)
/-! MonsterCot.undo -/
theorem dX11_undo_0 : decode cX11_undo 0 = .ok (.aload_n 0, 1) := by decide +kernel
theorem dX11_undo_1 : decode cX11_undo 1 = .ok (.getfield 75, 3) := by decide +kernel
theorem dX11_undo_4 : decode cX11_undo 4 = .ok (.aload_n 0, 1) := by decide +kernel
theorem dX11_undo_5 : decode cX11_undo 5 = .ok (.getfield 65, 3) := by decide +kernel
theorem dX11_undo_8 : decode cX11_undo 8 = .ok (.invokevirtual 247, 3) := by decide +kernel
theorem dX11_undo_11 : decode cX11_undo 11 = .ok (.ifCond .eq 13, 3) := by decide +kernel
theorem dX11_undo_14 : decode cX11_undo 14 = .ok (.aload_n 0, 1) := by decide +kernel
theorem dX11_undo_15 : decode cX11_undo 15 = .ok (.getfield 75, 3) := by decide +kernel
theorem dX11_undo_18 : decode cX11_undo 18 = .ok (.getfield 250, 3) := by decide +kernel
theorem dX11_undo_21 : decode cX11_undo 21 = .ok (.goto 4, 3) := by decide +kernel
theorem dX11_undo_24 : decode cX11_undo 24 = .ok (.iconst (-1), 1) := by decide +kernel
theorem dX11_undo_25 : decode cX11_undo 25 = .ok (.ireturn, 1) := by decide +kernel
def X11_undo (h : Mm) : Option (Int32 × Mm) := (bd (X5_takeBack 27 h) (fun r4 h6 => (if r4 = true then (some ((h6.1 37 5), h6)) else (some ((-1 : Int32), h6)))))
set_option maxRecDepth 100000 in
set_option maxHeartbeats 4000000 in
theorem s_X11_undo {X : WX} {o : Mm} {rv : Int32} {hz : Mm} {h : Mm} (hF : X11_undo h = some (rv, hz)) : Sat X yX11_undo cX11_undo 1 (some .int) 5 [.ref (xa X 0)] true o h (some (.int rv)) hz := by
  unfold X11_undo at hF
  refine Sat.mk (own := RX11) rfl (by decide +kernel) (Nat.le_of_ble_eq_true rfl) (fun G => ?_)
  refine V.sub (lv2 := [(0, _)]) [0] rfl ?_
  refine V.aload_n 0 dX11_undo_0 rfl rfl ?_
  refine V.getR (v := 37) fl_X11_75 sh_0 rfl fx_0_9 (by decide) dX11_undo_1 ?_
  refine V.aload_n 0 dX11_undo_4 rfl rfl ?_
  refine V.getR (v := 27) fl_X11_65 sh_0 rfl fx_0_7 (by decide) dX11_undo_5 ?_
  obtain ⟨r4, h6, hc5, hF⟩ := bd_s hF
  refine V.callVi mf_X5_takeBack ml_X11_247 sh_37 (s_X5_takeBack isb_27 hc5) (by decide) rfl rfl (Nat.le_of_ble_eq_true rfl) dX11_undo_8 ?_
  refine V.ifz_eq (tgt := 24) dX11_undo_11 rfl (fun c => ?_) (fun c => ?_)
  · replace hF := iq c hF
    refine V.iconst (v := -1) dX11_undo_24 rfl ?_
    cases hF
    exact V.iret dX11_undo_25
  · replace hF := ip c hF
    refine V.aload_n 0 dX11_undo_14 rfl rfl ?_
    refine V.getR (v := 37) fl_X11_75 sh_0 rfl fx_0_9 (by decide) dX11_undo_15 ?_
    refine V.getI fl_X11_250 sh_37 rfl km_37 dX11_undo_18 ?_
    refine V.goto (tgt := 25) dX11_undo_21 rfl ?_
    cases hF
    exact V.iret dX11_undo_25
/-! MonsterCot$Past.lengthOf -/
theorem dX5_lengthOf_0 : decode cX5_lengthOf 0 = .ok (.aload_n 0, 1) := by decide +kernel
theorem dX5_lengthOf_1 : decode cX5_lengthOf 1 = .ok (.getfield 50, 3) := by decide +kernel
theorem dX5_lengthOf_4 : decode cX5_lengthOf 4 = .ok (.bipush 60, 2) := by decide +kernel
theorem dX5_lengthOf_6 : decode cX5_lengthOf 6 = .ok (.invokestatic 44, 3) := by decide +kernel
theorem dX5_lengthOf_9 : decode cX5_lengthOf 9 = .ok (.ireturn, 1) := by decide +kernel
def X5_lengthOf (a0 : Nat) (h : Mm) : Option Int32 := (bp (J9_min_7cf53 (h.1 a0 10) (60 : Int32) h) (fun r3 => (some r3)))
set_option maxRecDepth 100000 in
set_option maxHeartbeats 4000000 in
theorem s_X5_lengthOf {X : WX} {o : Mm} {a0 : Nat} {rv : Int32} {h : Mm} (ha0 : isBed a0) (hF : X5_lengthOf a0 h = some rv) : Sat X yX5_lengthOf cX5_lengthOf 1 (some .int) 2 [.ref (xa X a0)] true o h (some (.int rv)) h := by
  unfold X5_lengthOf at hF
  refine Sat.mk (own := RX5) rfl (by decide +kernel) (Nat.le_of_ble_eq_true rfl) (fun G => ?_)
  refine V.sub (lv2 := [(0, _)]) [0] rfl ?_
  refine V.aload_n 0 dX5_lengthOf_0 rfl rfl ?_
  refine V.getI fl_X5_50 ha0.sh rfl ha0.km dX5_lengthOf_1 ?_
  refine V.bipush (v := 60) dX5_lengthOf_4 (by decide) ?_
  obtain ⟨r3, hc4, hF⟩ := bp_s hF
  refine V.callSi mf_J9_min_7cf53 ml_X5_44 (s_J9_min_7cf53 hc4) (by decide) rfl rfl (Nat.le_of_ble_eq_true rfl) dX5_lengthOf_6 ?_
  cases hF
  exact V.iret dX5_lengthOf_9
/-! MonsterCot$Past.logged -/
theorem dX5_logged_0 : decode cX5_logged 0 = .ok (.iload_n 2, 1) := by decide +kernel
theorem dX5_logged_1 : decode cX5_logged 1 = .ok (.ifCond .lt 20, 3) := by decide +kernel
theorem dX5_logged_4 : decode cX5_logged 4 = .ok (.iload_n 2, 1) := by decide +kernel
theorem dX5_logged_5 : decode cX5_logged 5 = .ok (.aload_n 1, 1) := by decide +kernel
theorem dX5_logged_6 : decode cX5_logged 6 = .ok (.invokestatic 60, 3) := by decide +kernel
theorem dX5_logged_9 : decode cX5_logged 9 = .ok (.if_icmp .ge 12, 3) := by decide +kernel
theorem dX5_logged_12 : decode cX5_logged 12 = .ok (.iload_n 3, 1) := by decide +kernel
theorem dX5_logged_13 : decode cX5_logged 13 = .ok (.ifCond .lt 8, 3) := by decide +kernel
theorem dX5_logged_16 : decode cX5_logged 16 = .ok (.iload_n 3, 1) := by decide +kernel
theorem dX5_logged_17 : decode cX5_logged 17 = .ok (.iconst 3, 1) := by decide +kernel
theorem dX5_logged_18 : decode cX5_logged 18 = .ok (.if_icmp .lt 5, 3) := by decide +kernel
theorem dX5_logged_21 : decode cX5_logged 21 = .ok (.iconst (-1), 1) := by decide +kernel
theorem dX5_logged_22 : decode cX5_logged 22 = .ok (.ireturn, 1) := by decide +kernel
theorem dX5_logged_23 : decode cX5_logged 23 = .ok (.aload_n 0, 1) := by decide +kernel
theorem dX5_logged_24 : decode cX5_logged 24 = .ok (.getfield 17, 3) := by decide +kernel
theorem dX5_logged_27 : decode cX5_logged 27 = .ok (.aload_n 1, 1) := by decide +kernel
theorem dX5_logged_28 : decode cX5_logged 28 = .ok (.getfield 50, 3) := by decide +kernel
theorem dX5_logged_31 : decode cX5_logged 31 = .ok (.iconst 1, 1) := by decide +kernel
theorem dX5_logged_32 : decode cX5_logged 32 = .ok (.isub, 1) := by decide +kernel
theorem dX5_logged_33 : decode cX5_logged 33 = .ok (.iload_n 2, 1) := by decide +kernel
theorem dX5_logged_34 : decode cX5_logged 34 = .ok (.isub, 1) := by decide +kernel
theorem dX5_logged_35 : decode cX5_logged 35 = .ok (.bipush 100, 2) := by decide +kernel
theorem dX5_logged_37 : decode cX5_logged 37 = .ok (.invokestatic 53, 3) := by decide +kernel
theorem dX5_logged_40 : decode cX5_logged 40 = .ok (.iconst 3, 1) := by decide +kernel
theorem dX5_logged_41 : decode cX5_logged 41 = .ok (.imul, 1) := by decide +kernel
theorem dX5_logged_42 : decode cX5_logged 42 = .ok (.iload_n 3, 1) := by decide +kernel
theorem dX5_logged_43 : decode cX5_logged 43 = .ok (.iadd, 1) := by decide +kernel
theorem dX5_logged_44 : decode cX5_logged 44 = .ok (.invokestatic 64, 3) := by decide +kernel
theorem dX5_logged_47 : decode cX5_logged 47 = .ok (.ireturn, 1) := by decide +kernel
def X5_logged (a1 : Nat) (x2 : Int32) (x3 : Int32) (h : Mm) : Option Int32 := (if x2 < 0 then (some (-1 : Int32)) else (bp (X5_lengthOf a1 h) (fun r7 => (if r7 ≤ x2 then (some (-1 : Int32)) else (if x3 < 0 then (some (-1 : Int32)) else (if x3 < (3 : Int32) then (bp (J9_floorMod_7cf53 (((h.1 a1 10) - (1 : Int32)) - x2) (100 : Int32) h) (fun r9 => (bp (X11_at 39 ((r9 * (3 : Int32)) + x3) h) (fun r11 => (some r11))))) else (some (-1 : Int32))))))))
set_option maxRecDepth 100000 in
set_option maxHeartbeats 4000000 in
theorem s_X5_logged {X : WX} {o : Mm} {a1 : Nat} {x2 : Int32} {x3 : Int32} {rv : Int32} {h : Mm} (ha1 : isBed a1) (hF : X5_logged a1 x2 x3 h = some rv) : Sat X yX5_logged cX5_logged 4 (some .int) 3 [.ref (xa X 37), .ref (xa X a1), .int x2, .int x3] true o h (some (.int rv)) h := by
  unfold X5_logged at hF
  refine Sat.mk (own := RX5) rfl (by decide +kernel) (Nat.le_of_ble_eq_true rfl) (fun G => ?_)
  refine V.sub (lv2 := [(0, _), (1, _), (2, _), (3, _)]) [0, 1, 2, 3] rfl ?_
  refine V.iload_n 2 dX5_logged_0 rfl rfl ?_
  refine V.if_lt (tgt := 21) dX5_logged_1 rfl (fun c => ?_) (fun c => ?_)
  · replace hF := ip c hF
    refine V.iconst (v := -1) dX5_logged_21 rfl ?_
    cases hF
    exact V.iret dX5_logged_22
  · replace hF := iq c hF
    refine V.iload_n 2 dX5_logged_4 rfl rfl ?_
    refine V.aload_n 1 dX5_logged_5 rfl rfl ?_
    obtain ⟨r7, hc8, hF⟩ := bp_s hF
    refine V.callSi mf_X5_lengthOf ml_X5_60 (s_X5_lengthOf ha1 hc8) (by decide) rfl rfl (Nat.le_of_ble_eq_true rfl) dX5_logged_6 ?_
    refine V.icmp_ge (tgt := 21) dX5_logged_9 rfl (fun c => ?_) (fun c => ?_)
    · replace hF := ip c hF
      refine V.iconst (v := -1) dX5_logged_21 rfl ?_
      cases hF
      exact V.iret dX5_logged_22
    · replace hF := iq c hF
      refine V.iload_n 3 dX5_logged_12 rfl rfl ?_
      refine V.if_lt (tgt := 21) dX5_logged_13 rfl (fun c => ?_) (fun c => ?_)
      · replace hF := ip c hF
        refine V.iconst (v := -1) dX5_logged_21 rfl ?_
        cases hF
        exact V.iret dX5_logged_22
      · replace hF := iq c hF
        refine V.iload_n 3 dX5_logged_16 rfl rfl ?_
        refine V.iconst (v := 3) dX5_logged_17 rfl ?_
        refine V.icmp_lt (tgt := 23) dX5_logged_18 rfl (fun c => ?_) (fun c => ?_)
        · replace hF := ip c hF
          refine V.aload_n 0 dX5_logged_23 rfl rfl ?_
          refine V.getR (v := 39) fl_X5_17 sh_37 rfl fx_37_1 (by decide) dX5_logged_24 ?_
          refine V.aload_n 1 dX5_logged_27 rfl rfl ?_
          refine V.getI fl_X5_50 ha1.sh rfl ha1.km dX5_logged_28 ?_
          refine V.iconst (v := 1) dX5_logged_31 rfl ?_
          refine V.isub dX5_logged_32 ?_
          refine V.iload_n 2 dX5_logged_33 rfl rfl ?_
          refine V.isub dX5_logged_34 ?_
          refine V.bipush (v := 100) dX5_logged_35 (by decide) ?_
          obtain ⟨r9, hc10, hF⟩ := bp_s hF
          refine V.callSi mf_J9_floorMod_7cf53 ml_X5_53 (s_J9_floorMod_7cf53 hc10) (by decide) rfl rfl (Nat.le_of_ble_eq_true rfl) dX5_logged_37 ?_
          refine V.iconst (v := 3) dX5_logged_40 rfl ?_
          refine V.imul dX5_logged_41 ?_
          refine V.iload_n 3 dX5_logged_42 rfl rfl ?_
          refine V.iadd dX5_logged_43 ?_
          obtain ⟨r11, hc12, hF⟩ := bp_s hF
          refine V.callNi mf_X11_at ml_X5_64 (s_X11_at (Or.inl io_39) hc12) (by decide) rfl rfl (Nat.le_of_ble_eq_true rfl) dX5_logged_44 ?_
          cases hF
          exact V.iret dX5_logged_47
        · replace hF := iq c hF
          refine V.iconst (v := -1) dX5_logged_21 rfl ?_
          cases hF
          exact V.iret dX5_logged_22
/-! MonsterCot.log -/
theorem dX11_log_0 : decode cX11_log 0 = .ok (.aload_n 0, 1) := by decide +kernel
theorem dX11_log_1 : decode cX11_log 1 = .ok (.getfield 75, 3) := by decide +kernel
theorem dX11_log_4 : decode cX11_log 4 = .ok (.aload_n 0, 1) := by decide +kernel
theorem dX11_log_5 : decode cX11_log 5 = .ok (.getfield 65, 3) := by decide +kernel
theorem dX11_log_8 : decode cX11_log 8 = .ok (.iload_n 1, 1) := by decide +kernel
theorem dX11_log_9 : decode cX11_log 9 = .ok (.iload_n 2, 1) := by decide +kernel
theorem dX11_log_10 : decode cX11_log 10 = .ok (.invokevirtual 253, 3) := by decide +kernel
theorem dX11_log_13 : decode cX11_log 13 = .ok (.ireturn, 1) := by decide +kernel
def X11_log (x1 : Int32) (x2 : Int32) (h : Mm) : Option Int32 := (bp (X5_logged 27 x1 x2 h) (fun r3 => (some r3)))
set_option maxRecDepth 100000 in
set_option maxHeartbeats 4000000 in
theorem s_X11_log {X : WX} {o : Mm} {x1 : Int32} {x2 : Int32} {rv : Int32} {h : Mm} (hF : X11_log x1 x2 h = some rv) : Sat X yX11_log cX11_log 3 (some .int) 4 [.ref (xa X 0), .int x1, .int x2] true o h (some (.int rv)) h := by
  unfold X11_log at hF
  refine Sat.mk (own := RX11) rfl (by decide +kernel) (Nat.le_of_ble_eq_true rfl) (fun G => ?_)
  refine V.sub (lv2 := [(0, _), (1, _), (2, _)]) [0, 1, 2] rfl ?_
  refine V.aload_n 0 dX11_log_0 rfl rfl ?_
  refine V.getR (v := 37) fl_X11_75 sh_0 rfl fx_0_9 (by decide) dX11_log_1 ?_
  refine V.aload_n 0 dX11_log_4 rfl rfl ?_
  refine V.getR (v := 27) fl_X11_65 sh_0 rfl fx_0_7 (by decide) dX11_log_5 ?_
  refine V.iload_n 1 dX11_log_8 rfl rfl ?_
  refine V.iload_n 2 dX11_log_9 rfl rfl ?_
  obtain ⟨r3, hc4, hF⟩ := bp_s hF
  refine V.callVi mf_X5_logged ml_X11_253 sh_37 (s_X5_logged isb_27 hc4) (by decide) rfl rfl (Nat.le_of_ble_eq_true rfl) dX11_log_10 ?_
  cases hF
  exact V.iret dX11_log_13
/-! MonsterCot$Weeks.has -/
theorem dX10_has_0 : decode cX10_has 0 = .ok (.iload_n 1, 1) := by decide +kernel
theorem dX10_has_1 : decode cX10_has 1 = .ok (.ifCond .lt 15, 3) := by decide +kernel
theorem dX10_has_4 : decode cX10_has 4 = .ok (.iload_n 1, 1) := by decide +kernel
theorem dX10_has_5 : decode cX10_has 5 = .ok (.aload_n 0, 1) := by decide +kernel
theorem dX10_has_6 : decode cX10_has 6 = .ok (.getfield 67, 3) := by decide +kernel
theorem dX10_has_9 : decode cX10_has 9 = .ok (.if_icmp .ge 7, 3) := by decide +kernel
theorem dX10_has_12 : decode cX10_has 12 = .ok (.iconst 1, 1) := by decide +kernel
theorem dX10_has_13 : decode cX10_has 13 = .ok (.goto 4, 3) := by decide +kernel
theorem dX10_has_16 : decode cX10_has 16 = .ok (.iconst 0, 1) := by decide +kernel
theorem dX10_has_17 : decode cX10_has 17 = .ok (.ireturn, 1) := by decide +kernel
def X10_has (x1 : Int32) (h : Mm) : Option Bool := (if x1 < 0 then (some false) else (if (h.1 9 5) ≤ x1 then (some false) else (some true)))
set_option maxRecDepth 100000 in
set_option maxHeartbeats 4000000 in
theorem s_X10_has {X : WX} {o : Mm} {x1 : Int32} {rv : Bool} {h : Mm} (hF : X10_has x1 h = some rv) : Sat X yX10_has cX10_has 2 (some .boolean) 1 [.ref (xa X 9), .int x1] true o h (some (.int (b2i rv))) h := by
  unfold X10_has at hF
  refine Sat.mk (own := RX10) rfl (by decide +kernel) (Nat.le_of_ble_eq_true rfl) (fun G => ?_)
  refine V.sub (lv2 := [(0, _), (1, _)]) [0, 1] rfl ?_
  refine V.iload_n 1 dX10_has_0 rfl rfl ?_
  refine V.if_lt (tgt := 16) dX10_has_1 rfl (fun c => ?_) (fun c => ?_)
  · replace hF := ip c hF
    refine V.iconst (v := 0) dX10_has_16 rfl ?_
    cases hF
    exact V.bret dX10_has_17
  · replace hF := iq c hF
    refine V.iload_n 1 dX10_has_4 rfl rfl ?_
    refine V.aload_n 0 dX10_has_5 rfl rfl ?_
    refine V.getI fl_X10_67 sh_9 rfl km_9 dX10_has_6 ?_
    refine V.icmp_ge (tgt := 16) dX10_has_9 rfl (fun c => ?_) (fun c => ?_)
    · replace hF := ip c hF
      refine V.iconst (v := 0) dX10_has_16 rfl ?_
      cases hF
      exact V.bret dX10_has_17
    · replace hF := iq c hF
      refine V.iconst (v := 1) dX10_has_12 rfl ?_
      refine V.goto (tgt := 17) dX10_has_13 rfl ?_
      cases hF
      exact V.bret dX10_has_17
/-! MonsterCot$Weeks.sizeOf -/
theorem dX10_sizeOf_0 : decode cX10_sizeOf 0 = .ok (.aload_n 0, 1) := by decide +kernel
theorem dX10_sizeOf_1 : decode cX10_sizeOf 1 = .ok (.getfield 18, 3) := by decide +kernel
theorem dX10_sizeOf_4 : decode cX10_sizeOf 4 = .ok (.iload_n 1, 1) := by decide +kernel
theorem dX10_sizeOf_5 : decode cX10_sizeOf 5 = .ok (.invokestatic 55, 3) := by decide +kernel
theorem dX10_sizeOf_8 : decode cX10_sizeOf 8 = .ok (.ireturn, 1) := by decide +kernel
def X10_sizeOf (x1 : Int32) (h : Mm) : Option Int32 := (bp (X11_at 12 x1 h) (fun r3 => (some r3)))
set_option maxRecDepth 100000 in
set_option maxHeartbeats 4000000 in
theorem s_X10_sizeOf {X : WX} {o : Mm} {x1 : Int32} {rv : Int32} {h : Mm} (hF : X10_sizeOf x1 h = some rv) : Sat X yX10_sizeOf cX10_sizeOf 2 (some .int) 2 [.ref (xa X 9), .int x1] true o h (some (.int rv)) h := by
  unfold X10_sizeOf at hF
  refine Sat.mk (own := RX10) rfl (by decide +kernel) (Nat.le_of_ble_eq_true rfl) (fun G => ?_)
  refine V.sub (lv2 := [(0, _), (1, _)]) [0, 1] rfl ?_
  refine V.aload_n 0 dX10_sizeOf_0 rfl rfl ?_
  refine V.getR (v := 12) fl_X10_18 sh_9 rfl fx_9_3 (by decide) dX10_sizeOf_1 ?_
  refine V.iload_n 1 dX10_sizeOf_4 rfl rfl ?_
  obtain ⟨r3, hc4, hF⟩ := bp_s hF
  refine V.callNi mf_X11_at ml_X10_55 (s_X11_at (Or.inl io_12) hc4) (by decide) rfl rfl (Nat.le_of_ble_eq_true rfl) dX10_sizeOf_5 ?_
  cases hF
  exact V.iret dX10_sizeOf_8
/-! MonsterCot$Weeks.hasStep -/
theorem dX10_hasStep_0 : decode cX10_hasStep 0 = .ok (.aload_n 0, 1) := by decide +kernel
theorem dX10_hasStep_1 : decode cX10_hasStep 1 = .ok (.iload_n 1, 1) := by decide +kernel
theorem dX10_hasStep_2 : decode cX10_hasStep 2 = .ok (.invokevirtual 70, 3) := by decide +kernel
theorem dX10_hasStep_5 : decode cX10_hasStep 5 = .ok (.ifCond .eq 20, 3) := by decide +kernel
theorem dX10_hasStep_8 : decode cX10_hasStep 8 = .ok (.iload_n 2, 1) := by decide +kernel
theorem dX10_hasStep_9 : decode cX10_hasStep 9 = .ok (.ifCond .lt 16, 3) := by decide +kernel
theorem dX10_hasStep_12 : decode cX10_hasStep 12 = .ok (.iload_n 2, 1) := by decide +kernel
theorem dX10_hasStep_13 : decode cX10_hasStep 13 = .ok (.aload_n 0, 1) := by decide +kernel
theorem dX10_hasStep_14 : decode cX10_hasStep 14 = .ok (.iload_n 1, 1) := by decide +kernel
theorem dX10_hasStep_15 : decode cX10_hasStep 15 = .ok (.invokevirtual 73, 3) := by decide +kernel
theorem dX10_hasStep_18 : decode cX10_hasStep 18 = .ok (.if_icmp .ge 7, 3) := by decide +kernel
theorem dX10_hasStep_21 : decode cX10_hasStep 21 = .ok (.iconst 1, 1) := by decide +kernel
theorem dX10_hasStep_22 : decode cX10_hasStep 22 = .ok (.goto 4, 3) := by decide +kernel
theorem dX10_hasStep_25 : decode cX10_hasStep 25 = .ok (.iconst 0, 1) := by decide +kernel
theorem dX10_hasStep_26 : decode cX10_hasStep 26 = .ok (.ireturn, 1) := by decide +kernel
def X10_hasStep (x1 : Int32) (x2 : Int32) (h : Mm) : Option Bool := (bp (X10_has x1 h) (fun r5 => (if r5 = true then (if x2 < 0 then (some false) else (bp (X10_sizeOf x1 h) (fun r7 => (if r7 ≤ x2 then (some false) else (some true))))) else (some false))))
set_option maxRecDepth 100000 in
set_option maxHeartbeats 4000000 in
theorem s_X10_hasStep {X : WX} {o : Mm} {x1 : Int32} {x2 : Int32} {rv : Bool} {h : Mm} (hF : X10_hasStep x1 x2 h = some rv) : Sat X yX10_hasStep cX10_hasStep 3 (some .boolean) 3 [.ref (xa X 9), .int x1, .int x2] true o h (some (.int (b2i rv))) h := by
  unfold X10_hasStep at hF
  refine Sat.mk (own := RX10) rfl (by decide +kernel) (Nat.le_of_ble_eq_true rfl) (fun G => ?_)
  refine V.sub (lv2 := [(0, _), (1, _), (2, _)]) [0, 1, 2] rfl ?_
  refine V.aload_n 0 dX10_hasStep_0 rfl rfl ?_
  refine V.iload_n 1 dX10_hasStep_1 rfl rfl ?_
  obtain ⟨r5, hc6, hF⟩ := bp_s hF
  refine V.callVi mf_X10_has ml_X10_70 sh_9 (s_X10_has hc6) (by decide) rfl rfl (Nat.le_of_ble_eq_true rfl) dX10_hasStep_2 ?_
  refine V.ifz_eq (tgt := 25) dX10_hasStep_5 rfl (fun c => ?_) (fun c => ?_)
  · replace hF := iq c hF
    refine V.iconst (v := 0) dX10_hasStep_25 rfl ?_
    cases hF
    exact V.bret dX10_hasStep_26
  · replace hF := ip c hF
    refine V.iload_n 2 dX10_hasStep_8 rfl rfl ?_
    refine V.if_lt (tgt := 25) dX10_hasStep_9 rfl (fun c => ?_) (fun c => ?_)
    · replace hF := ip c hF
      refine V.iconst (v := 0) dX10_hasStep_25 rfl ?_
      cases hF
      exact V.bret dX10_hasStep_26
    · replace hF := iq c hF
      refine V.iload_n 2 dX10_hasStep_12 rfl rfl ?_
      refine V.aload_n 0 dX10_hasStep_13 rfl rfl ?_
      refine V.iload_n 1 dX10_hasStep_14 rfl rfl ?_
      obtain ⟨r7, hc8, hF⟩ := bp_s hF
      refine V.callVi mf_X10_sizeOf ml_X10_73 sh_9 (s_X10_sizeOf hc8) (by decide) rfl rfl (Nat.le_of_ble_eq_true rfl) dX10_hasStep_15 ?_
      refine V.icmp_ge (tgt := 25) dX10_hasStep_18 rfl (fun c => ?_) (fun c => ?_)
      · replace hF := ip c hF
        refine V.iconst (v := 0) dX10_hasStep_25 rfl ?_
        cases hF
        exact V.bret dX10_hasStep_26
      · replace hF := iq c hF
        refine V.iconst (v := 1) dX10_hasStep_21 rfl ?_
        refine V.goto (tgt := 26) dX10_hasStep_22 rfl ?_
        cases hF
        exact V.bret dX10_hasStep_26
/-! MonsterCot$Weeks.stepOf -/
theorem dX10_stepOf_0 : decode cX10_stepOf 0 = .ok (.aload_n 0, 1) := by decide +kernel
theorem dX10_stepOf_1 : decode cX10_stepOf 1 = .ok (.iload_n 1, 1) := by decide +kernel
theorem dX10_stepOf_2 : decode cX10_stepOf 2 = .ok (.iload_n 2, 1) := by decide +kernel
theorem dX10_stepOf_3 : decode cX10_stepOf 3 = .ok (.invokevirtual 77, 3) := by decide +kernel
theorem dX10_stepOf_6 : decode cX10_stepOf 6 = .ok (.ifCond .eq 19, 3) := by decide +kernel
theorem dX10_stepOf_9 : decode cX10_stepOf 9 = .ok (.aload_n 0, 1) := by decide +kernel
theorem dX10_stepOf_10 : decode cX10_stepOf 10 = .ok (.getfield 15, 3) := by decide +kernel
theorem dX10_stepOf_13 : decode cX10_stepOf 13 = .ok (.iload_n 1, 1) := by decide +kernel
theorem dX10_stepOf_14 : decode cX10_stepOf 14 = .ok (.bipush 16, 2) := by decide +kernel
theorem dX10_stepOf_16 : decode cX10_stepOf 16 = .ok (.imul, 1) := by decide +kernel
theorem dX10_stepOf_17 : decode cX10_stepOf 17 = .ok (.iload_n 2, 1) := by decide +kernel
theorem dX10_stepOf_18 : decode cX10_stepOf 18 = .ok (.iadd, 1) := by decide +kernel
theorem dX10_stepOf_19 : decode cX10_stepOf 19 = .ok (.invokestatic 55, 3) := by decide +kernel
theorem dX10_stepOf_22 : decode cX10_stepOf 22 = .ok (.goto 4, 3) := by decide +kernel
theorem dX10_stepOf_25 : decode cX10_stepOf 25 = .ok (.iconst 0, 1) := by decide +kernel
theorem dX10_stepOf_26 : decode cX10_stepOf 26 = .ok (.ireturn, 1) := by decide +kernel
def X10_stepOf (x1 : Int32) (x2 : Int32) (h : Mm) : Option Int32 := (bp (X10_hasStep x1 x2 h) (fun r5 => (if r5 = true then (bp (X11_at 11 ((x1 * (16 : Int32)) + x2) h) (fun r7 => (some r7))) else (some (0 : Int32)))))
set_option maxRecDepth 100000 in
set_option maxHeartbeats 4000000 in
theorem s_X10_stepOf {X : WX} {o : Mm} {x1 : Int32} {x2 : Int32} {rv : Int32} {h : Mm} (hF : X10_stepOf x1 x2 h = some rv) : Sat X yX10_stepOf cX10_stepOf 3 (some .int) 4 [.ref (xa X 9), .int x1, .int x2] true o h (some (.int rv)) h := by
  unfold X10_stepOf at hF
  refine Sat.mk (own := RX10) rfl (by decide +kernel) (Nat.le_of_ble_eq_true rfl) (fun G => ?_)
  refine V.sub (lv2 := [(0, _), (1, _), (2, _)]) [0, 1, 2] rfl ?_
  refine V.aload_n 0 dX10_stepOf_0 rfl rfl ?_
  refine V.iload_n 1 dX10_stepOf_1 rfl rfl ?_
  refine V.iload_n 2 dX10_stepOf_2 rfl rfl ?_
  obtain ⟨r5, hc6, hF⟩ := bp_s hF
  refine V.callVi mf_X10_hasStep ml_X10_77 sh_9 (s_X10_hasStep hc6) (by decide) rfl rfl (Nat.le_of_ble_eq_true rfl) dX10_stepOf_3 ?_
  refine V.ifz_eq (tgt := 25) dX10_stepOf_6 rfl (fun c => ?_) (fun c => ?_)
  · replace hF := iq c hF
    refine V.iconst (v := 0) dX10_stepOf_25 rfl ?_
    cases hF
    exact V.iret dX10_stepOf_26
  · replace hF := ip c hF
    refine V.aload_n 0 dX10_stepOf_9 rfl rfl ?_
    refine V.getR (v := 11) fl_X10_15 sh_9 rfl fx_9_2 (by decide) dX10_stepOf_10 ?_
    refine V.iload_n 1 dX10_stepOf_13 rfl rfl ?_
    refine V.bipush (v := 16) dX10_stepOf_14 (by decide) ?_
    refine V.imul dX10_stepOf_16 ?_
    refine V.iload_n 2 dX10_stepOf_17 rfl rfl ?_
    refine V.iadd dX10_stepOf_18 ?_
    obtain ⟨r7, hc8, hF⟩ := bp_s hF
    refine V.callNi mf_X11_at ml_X10_55 (s_X11_at (Or.inl io_11) hc8) (by decide) rfl rfl (Nat.le_of_ble_eq_true rfl) dX10_stepOf_19 ?_
    refine V.goto (tgt := 26) dX10_stepOf_22 rfl ?_
    cases hF
    exact V.iret dX10_stepOf_26
/-! MonsterCot$Weeks.sortOf -/
theorem dX10_sortOf_0 : decode cX10_sortOf 0 = .ok (.iload_n 0, 1) := by decide +kernel
theorem dX10_sortOf_1 : decode cX10_sortOf 1 = .ok (.bipush 100, 2) := by decide +kernel
theorem dX10_sortOf_3 : decode cX10_sortOf 3 = .ok (.idiv, 1) := by decide +kernel
theorem dX10_sortOf_4 : decode cX10_sortOf 4 = .ok (.ireturn, 1) := by decide +kernel
def X10_sortOf (x0 : Int32) (h : Mm) : Option Int32 := (some (x0 / (100 : Int32)))
set_option maxRecDepth 100000 in
set_option maxHeartbeats 4000000 in
theorem s_X10_sortOf {X : WX} {o : Mm} {x0 : Int32} {rv : Int32} {h : Mm} (hF : X10_sortOf x0 h = some rv) : Sat X yX10_sortOf cX10_sortOf 1 (some .int) 1 [.int x0] true o h (some (.int rv)) h := by
  unfold X10_sortOf at hF
  refine Sat.mk (own := RX10) rfl (by decide +kernel) (Nat.le_of_ble_eq_true rfl) (fun G => ?_)
  refine V.sub (lv2 := [(0, _)]) [0] rfl ?_
  refine V.iload_n 0 dX10_sortOf_0 rfl rfl ?_
  refine V.bipush (v := 100) dX10_sortOf_1 (by decide) ?_
  refine V.idiv dX10_sortOf_3 (by decide) ?_
  cases hF
  exact V.iret dX10_sortOf_4
/-! MonsterCot$Weeks.hasDigit -/
theorem dX10_hasDigit_0 : decode cX10_hasDigit 0 = .ok (.iload_n 1, 1) := by decide +kernel
theorem dX10_hasDigit_1 : decode cX10_hasDigit 1 = .ok (.getstatic 52, 3) := by decide +kernel
theorem dX10_hasDigit_4 : decode cX10_hasDigit 4 = .ok (.iload_n 0, 1) := by decide +kernel
theorem dX10_hasDigit_5 : decode cX10_hasDigit 5 = .ok (.invokestatic 81, 3) := by decide +kernel
theorem dX10_hasDigit_8 : decode cX10_hasDigit 8 = .ok (.invokestatic 55, 3) := by decide +kernel
theorem dX10_hasDigit_11 : decode cX10_hasDigit 11 = .ok (.if_icmp .gt 7, 3) := by decide +kernel
theorem dX10_hasDigit_14 : decode cX10_hasDigit 14 = .ok (.iconst 1, 1) := by decide +kernel
theorem dX10_hasDigit_15 : decode cX10_hasDigit 15 = .ok (.goto 4, 3) := by decide +kernel
theorem dX10_hasDigit_18 : decode cX10_hasDigit 18 = .ok (.iconst 0, 1) := by decide +kernel
theorem dX10_hasDigit_19 : decode cX10_hasDigit 19 = .ok (.ireturn, 1) := by decide +kernel
def X10_hasDigit (x0 : Int32) (x1 : Int32) (h : Mm) : Option Bool := (bp (X10_sortOf x0 h) (fun r5 => (bp (X11_at 1006 r5 h) (fun r7 => (if r7 < x1 then (some false) else (some true))))))
set_option maxRecDepth 100000 in
set_option maxHeartbeats 4000000 in
theorem s_X10_hasDigit {X : WX} {o : Mm} {x0 : Int32} {x1 : Int32} {rv : Bool} {h : Mm} (hF : X10_hasDigit x0 x1 h = some rv) : Sat X yX10_hasDigit cX10_hasDigit 2 (some .boolean) 2 [.int x0, .int x1] true o h (some (.int (b2i rv))) h := by
  unfold X10_hasDigit at hF
  refine Sat.mk (own := RX10) rfl (by decide +kernel) (Nat.le_of_ble_eq_true rfl) (fun G => ?_)
  refine V.sub (lv2 := [(0, _), (1, _)]) [0, 1] rfl ?_
  refine V.iload_n 1 dX10_hasDigit_0 rfl rfl ?_
  refine V.gets zm_1006 sl_X10_52 dX10_hasDigit_1 ?_
  refine V.iload_n 0 dX10_hasDigit_4 rfl rfl ?_
  obtain ⟨r5, hc6, hF⟩ := bp_s hF
  refine V.callSi mf_X10_sortOf ml_X10_81 (s_X10_sortOf hc6) (by decide) rfl rfl (Nat.le_of_ble_eq_true rfl) dX10_hasDigit_5 ?_
  obtain ⟨r7, hc8, hF⟩ := bp_s hF
  refine V.callNi mf_X11_at ml_X10_55 (s_X11_at (Or.inr ⟨by decide, by decide⟩) hc8) (by decide) rfl rfl (Nat.le_of_ble_eq_true rfl) dX10_hasDigit_8 ?_
  refine V.icmp_gt (tgt := 18) dX10_hasDigit_11 rfl (fun c => ?_) (fun c => ?_)
  · replace hF := ip c hF
    refine V.iconst (v := 0) dX10_hasDigit_18 rfl ?_
    cases hF
    exact V.bret dX10_hasDigit_19
  · replace hF := iq c hF
    refine V.iconst (v := 1) dX10_hasDigit_14 rfl ?_
    refine V.goto (tgt := 19) dX10_hasDigit_15 rfl ?_
    cases hF
    exact V.bret dX10_hasDigit_19
/-! MonsterCot$Weeks.digitOf -/
theorem dX10_digitOf_0 : decode cX10_digitOf 0 = .ok (.iload_n 1, 1) := by decide +kernel
theorem dX10_digitOf_1 : decode cX10_digitOf 1 = .ok (.iconst 1, 1) := by decide +kernel
theorem dX10_digitOf_2 : decode cX10_digitOf 2 = .ok (.if_icmp .ne 13, 3) := by decide +kernel
theorem dX10_digitOf_5 : decode cX10_digitOf 5 = .ok (.iload_n 0, 1) := by decide +kernel
theorem dX10_digitOf_6 : decode cX10_digitOf 6 = .ok (.bipush 10, 2) := by decide +kernel
theorem dX10_digitOf_8 : decode cX10_digitOf 8 = .ok (.idiv, 1) := by decide +kernel
theorem dX10_digitOf_9 : decode cX10_digitOf 9 = .ok (.bipush 10, 2) := by decide +kernel
theorem dX10_digitOf_11 : decode cX10_digitOf 11 = .ok (.irem, 1) := by decide +kernel
theorem dX10_digitOf_12 : decode cX10_digitOf 12 = .ok (.goto 7, 3) := by decide +kernel
theorem dX10_digitOf_15 : decode cX10_digitOf 15 = .ok (.iload_n 0, 1) := by decide +kernel
theorem dX10_digitOf_16 : decode cX10_digitOf 16 = .ok (.bipush 10, 2) := by decide +kernel
theorem dX10_digitOf_18 : decode cX10_digitOf 18 = .ok (.irem, 1) := by decide +kernel
theorem dX10_digitOf_19 : decode cX10_digitOf 19 = .ok (.ireturn, 1) := by decide +kernel
def X10_digitOf (x0 : Int32) (x1 : Int32) (h : Mm) : Option Int32 := (if x1 = (1 : Int32) then (some ((x0 / (10 : Int32)) - (x0 / (10 : Int32)) / (10 : Int32) * (10 : Int32))) else (some (x0 - x0 / (10 : Int32) * (10 : Int32))))
set_option maxRecDepth 100000 in
set_option maxHeartbeats 4000000 in
theorem s_X10_digitOf {X : WX} {o : Mm} {x0 : Int32} {x1 : Int32} {rv : Int32} {h : Mm} (hF : X10_digitOf x0 x1 h = some rv) : Sat X yX10_digitOf cX10_digitOf 2 (some .int) 1 [.int x0, .int x1] true o h (some (.int rv)) h := by
  unfold X10_digitOf at hF
  refine Sat.mk (own := RX10) rfl (by decide +kernel) (Nat.le_of_ble_eq_true rfl) (fun G => ?_)
  refine V.sub (lv2 := [(0, _), (1, _)]) [0, 1] rfl ?_
  refine V.iload_n 1 dX10_digitOf_0 rfl rfl ?_
  refine V.iconst (v := 1) dX10_digitOf_1 rfl ?_
  refine V.icmp_ne (tgt := 15) dX10_digitOf_2 rfl (fun c => ?_) (fun c => ?_)
  · replace hF := iq c hF
    refine V.iload_n 0 dX10_digitOf_15 rfl rfl ?_
    refine V.bipush (v := 10) dX10_digitOf_16 (by decide) ?_
    refine V.irem dX10_digitOf_18 (by decide) ?_
    cases hF
    exact V.iret dX10_digitOf_19
  · replace hF := ip c hF
    refine V.iload_n 0 dX10_digitOf_5 rfl rfl ?_
    refine V.bipush (v := 10) dX10_digitOf_6 (by decide) ?_
    refine V.idiv dX10_digitOf_8 (by decide) ?_
    refine V.bipush (v := 10) dX10_digitOf_9 (by decide) ?_
    refine V.irem dX10_digitOf_11 (by decide) ?_
    refine V.goto (tgt := 19) dX10_digitOf_12 rfl ?_
    cases hF
    exact V.iret dX10_digitOf_19
/-! MonsterCot.step -/
theorem dX11_step_0 : decode cX11_step 0 = .ok (.iload_n 3, 1) := by decide +kernel
theorem dX11_step_1 : decode cX11_step 1 = .ok (.ifCond .lt 20, 3) := by decide +kernel
theorem dX11_step_4 : decode cX11_step 4 = .ok (.iload_n 3, 1) := by decide +kernel
theorem dX11_step_5 : decode cX11_step 5 = .ok (.iconst 2, 1) := by decide +kernel
theorem dX11_step_6 : decode cX11_step 6 = .ok (.if_icmp .gt 15, 3) := by decide +kernel
theorem dX11_step_9 : decode cX11_step 9 = .ok (.aload_n 0, 1) := by decide +kernel
theorem dX11_step_10 : decode cX11_step 10 = .ok (.getfield 35, 3) := by decide +kernel
theorem dX11_step_13 : decode cX11_step 13 = .ok (.iload_n 1, 1) := by decide +kernel
theorem dX11_step_14 : decode cX11_step 14 = .ok (.iload_n 2, 1) := by decide +kernel
theorem dX11_step_15 : decode cX11_step 15 = .ok (.invokevirtual 257, 3) := by decide +kernel
theorem dX11_step_18 : decode cX11_step 18 = .ok (.ifCond .ne 7, 3) := by decide +kernel
theorem dX11_step_21 : decode cX11_step 21 = .ok (.ldc_w 261, 3) := by decide +kernel
theorem dX11_step_24 : decode cX11_step 24 = .ok (.ireturn, 1) := by decide +kernel
theorem dX11_step_25 : decode cX11_step 25 = .ok (.aload_n 0, 1) := by decide +kernel
theorem dX11_step_26 : decode cX11_step 26 = .ok (.getfield 35, 3) := by decide +kernel
theorem dX11_step_29 : decode cX11_step 29 = .ok (.iload_n 1, 1) := by decide +kernel
theorem dX11_step_30 : decode cX11_step 30 = .ok (.iload_n 2, 1) := by decide +kernel
theorem dX11_step_31 : decode cX11_step 31 = .ok (.invokevirtual 262, 3) := by decide +kernel
theorem dX11_step_34 : decode cX11_step 34 = .ok (.istore 4, 2) := by decide +kernel
theorem dX11_step_36 : decode cX11_step 36 = .ok (.iload_n 3, 1) := by decide +kernel
theorem dX11_step_37 : decode cX11_step 37 = .ok (.ifCond .ne 9, 3) := by decide +kernel
theorem dX11_step_40 : decode cX11_step 40 = .ok (.iload 4, 2) := by decide +kernel
theorem dX11_step_42 : decode cX11_step 42 = .ok (.invokestatic 266, 3) := by decide +kernel
theorem dX11_step_45 : decode cX11_step 45 = .ok (.ireturn, 1) := by decide +kernel
theorem dX11_step_46 : decode cX11_step 46 = .ok (.iload 4, 2) := by decide +kernel
theorem dX11_step_48 : decode cX11_step 48 = .ok (.iload_n 3, 1) := by decide +kernel
theorem dX11_step_49 : decode cX11_step 49 = .ok (.invokestatic 269, 3) := by decide +kernel
theorem dX11_step_52 : decode cX11_step 52 = .ok (.ifCond .eq 12, 3) := by decide +kernel
theorem dX11_step_55 : decode cX11_step 55 = .ok (.iload 4, 2) := by decide +kernel
theorem dX11_step_57 : decode cX11_step 57 = .ok (.iload_n 3, 1) := by decide +kernel
theorem dX11_step_58 : decode cX11_step 58 = .ok (.invokestatic 272, 3) := by decide +kernel
theorem dX11_step_61 : decode cX11_step 61 = .ok (.goto 4, 3) := by decide +kernel
theorem dX11_step_64 : decode cX11_step 64 = .ok (.iconst (-1), 1) := by decide +kernel
theorem dX11_step_65 : decode cX11_step 65 = .ok (.ireturn, 1) := by decide +kernel
def X11_step_21 (h : Mm) : Option Int32 := (some (-1000000 : Int32))
set_option maxRecDepth 100000 in
set_option maxHeartbeats 4000000 in
theorem v_X11_step_21 {X : WX} {G : GX} {o : Mm} {rv : Int32} {h : Mm} (hF : X11_step_21  h = some rv) : V X G RX11 cX11_step 5 (some .int) 5 0 0 (QR X G true o (some (.int rv)) h) true o 21 [] [] h := by
  unfold X11_step_21 at hF
  refine V.ldcw (v := -1000000) dX11_step_21 kc_X11_261 ?_
  cases hF
  exact V.iret dX11_step_24
def X11_step (x1 : Int32) (x2 : Int32) (x3 : Int32) (h : Mm) : Option Int32 := (if x3 < 0 then (X11_step_21 h) else (if (2 : Int32) < x3 then (X11_step_21 h) else (bp (X10_hasStep x1 x2 h) (fun r21 => (if r21 = true then (bp (X10_stepOf x1 x2 h) (fun r23 => (if x3 = 0 then (bp (X10_sortOf r23 h) (fun r29 => (some r29))) else (bp (X10_hasDigit r23 x3 h) (fun r25 => (if r25 = true then (bp (X10_digitOf r23 x3 h) (fun r27 => (some r27))) else (some (-1 : Int32)))))))) else (X11_step_21 h))))))
set_option maxRecDepth 100000 in
set_option maxHeartbeats 4000000 in
theorem s_X11_step {X : WX} {o : Mm} {x1 : Int32} {x2 : Int32} {x3 : Int32} {rv : Int32} {h : Mm} (hF : X11_step x1 x2 x3 h = some rv) : Sat X yX11_step cX11_step 5 (some .int) 5 [.ref (xa X 0), .int x1, .int x2, .int x3] true o h (some (.int rv)) h := by
  unfold X11_step at hF
  refine Sat.mk (own := RX11) rfl (by decide +kernel) (Nat.le_of_ble_eq_true rfl) (fun G => ?_)
  refine V.sub (lv2 := [(0, _), (1, _), (2, _), (3, _)]) [0, 1, 2, 3] rfl ?_
  refine V.iload_n 3 dX11_step_0 rfl rfl ?_
  refine V.if_lt (tgt := 21) dX11_step_1 rfl (fun c => ?_) (fun c => ?_)
  · replace hF := ip c hF
    exact V.sub [] rfl (v_X11_step_21 hF)
  · replace hF := iq c hF
    refine V.iload_n 3 dX11_step_4 rfl rfl ?_
    refine V.iconst (v := 2) dX11_step_5 rfl ?_
    refine V.icmp_gt (tgt := 21) dX11_step_6 rfl (fun c => ?_) (fun c => ?_)
    · replace hF := ip c hF
      exact V.sub [] rfl (v_X11_step_21 hF)
    · replace hF := iq c hF
      refine V.aload_n 0 dX11_step_9 rfl rfl ?_
      refine V.getR (v := 9) fl_X11_35 sh_0 rfl fx_0_3 (by decide) dX11_step_10 ?_
      refine V.iload_n 1 dX11_step_13 rfl rfl ?_
      refine V.iload_n 2 dX11_step_14 rfl rfl ?_
      obtain ⟨r21, hc22, hF⟩ := bp_s hF
      refine V.callVi mf_X10_hasStep ml_X11_257 sh_9 (s_X10_hasStep hc22) (by decide) rfl rfl (Nat.le_of_ble_eq_true rfl) dX11_step_15 ?_
      refine V.ifz_ne (tgt := 25) dX11_step_18 rfl (fun c => ?_) (fun c => ?_)
      · replace hF := ip c hF
        refine V.aload_n 0 dX11_step_25 rfl rfl ?_
        refine V.getR (v := 9) fl_X11_35 sh_0 rfl fx_0_3 (by decide) dX11_step_26 ?_
        refine V.iload_n 1 dX11_step_29 rfl rfl ?_
        refine V.iload_n 2 dX11_step_30 rfl rfl ?_
        obtain ⟨r23, hc24, hF⟩ := bp_s hF
        refine V.callVi mf_X10_stepOf ml_X11_262 sh_9 (s_X10_stepOf hc24) (by decide) rfl rfl (Nat.le_of_ble_eq_true rfl) dX11_step_31 ?_
        refine V.istore [(4, _), (0, _), (1, _), (2, _), (3, _)] dX11_step_34 (by decide) rfl ?_
        refine V.iload_n 4 dX11_step_36 rfl rfl ?_
        refine V.if_ne (tgt := 46) dX11_step_37 rfl (fun c => ?_) (fun c => ?_)
        · replace hF := iq c hF
          refine V.iload 0 dX11_step_46 rfl ?_
          refine V.iload_n 4 dX11_step_48 rfl rfl ?_
          obtain ⟨r25, hc26, hF⟩ := bp_s hF
          refine V.callSi mf_X10_hasDigit ml_X11_269 (s_X10_hasDigit hc26) (by decide) rfl rfl (Nat.le_of_ble_eq_true rfl) dX11_step_49 ?_
          refine V.ifz_eq (tgt := 64) dX11_step_52 rfl (fun c => ?_) (fun c => ?_)
          · replace hF := iq c hF
            refine V.iconst (v := -1) dX11_step_64 rfl ?_
            cases hF
            exact V.iret dX11_step_65
          · replace hF := ip c hF
            refine V.iload 0 dX11_step_55 rfl ?_
            refine V.iload_n 4 dX11_step_57 rfl rfl ?_
            obtain ⟨r27, hc28, hF⟩ := bp_s hF
            refine V.callSi mf_X10_digitOf ml_X11_272 (s_X10_digitOf hc28) (by decide) rfl rfl (Nat.le_of_ble_eq_true rfl) dX11_step_58 ?_
            refine V.goto (tgt := 65) dX11_step_61 rfl ?_
            cases hF
            exact V.iret dX11_step_65
        · replace hF := ip c hF
          refine V.iload 0 dX11_step_40 rfl ?_
          obtain ⟨r29, hc30, hF⟩ := bp_s hF
          refine V.callSi mf_X10_sortOf ml_X11_266 (s_X10_sortOf hc30) (by decide) rfl rfl (Nat.le_of_ble_eq_true rfl) dX11_step_42 ?_
          cases hF
          exact V.iret dX11_step_45
      · replace hF := iq c hF
        exact V.sub [] rfl (v_X11_step_21 hF)
/-! MonsterCot$Ways.canStep -/
theorem dX9_canStep_0 : decode cX9_canStep 0 = .ok (.iload_n 2, 1) := by decide +kernel
theorem dX9_canStep_1 : decode cX9_canStep 1 = .ok (.iconst 1, 1) := by decide +kernel
theorem dX9_canStep_2 : decode cX9_canStep 2 = .ok (.invokestatic 161, 3) := by decide +kernel
theorem dX9_canStep_5 : decode cX9_canStep 5 = .ok (.istore_n 3, 1) := by decide +kernel
theorem dX9_canStep_6 : decode cX9_canStep 6 = .ok (.iload_n 2, 1) := by decide +kernel
theorem dX9_canStep_7 : decode cX9_canStep 7 = .ok (.iconst 2, 1) := by decide +kernel
theorem dX9_canStep_8 : decode cX9_canStep 8 = .ok (.invokestatic 161, 3) := by decide +kernel
theorem dX9_canStep_11 : decode cX9_canStep 11 = .ok (.istore 4, 2) := by decide +kernel
theorem dX9_canStep_13 : decode cX9_canStep 13 = .ok (.iload_n 2, 1) := by decide +kernel
theorem dX9_canStep_14 : decode cX9_canStep 14 = .ok (.invokestatic 166, 3) := by decide +kernel
theorem dX9_canStep_17 : decode cX9_canStep 17 = .ok (.tableswitch 63 0 3 #[31, 41, 51, 57], 31) := by decide +kernel
theorem dX9_canStep_48 : decode cX9_canStep 48 = .ok (.aload_n 0, 1) := by decide +kernel
theorem dX9_canStep_49 : decode cX9_canStep 49 = .ok (.aload_n 1, 1) := by decide +kernel
theorem dX9_canStep_50 : decode cX9_canStep 50 = .ok (.iload_n 3, 1) := by decide +kernel
theorem dX9_canStep_51 : decode cX9_canStep 51 = .ok (.iload 4, 2) := by decide +kernel
theorem dX9_canStep_53 : decode cX9_canStep 53 = .ok (.iconst 0, 1) := by decide +kernel
theorem dX9_canStep_54 : decode cX9_canStep 54 = .ok (.invokevirtual 169, 3) := by decide +kernel
theorem dX9_canStep_57 : decode cX9_canStep 57 = .ok (.ireturn, 1) := by decide +kernel
theorem dX9_canStep_58 : decode cX9_canStep 58 = .ok (.aload_n 0, 1) := by decide +kernel
theorem dX9_canStep_59 : decode cX9_canStep 59 = .ok (.aload_n 1, 1) := by decide +kernel
theorem dX9_canStep_60 : decode cX9_canStep 60 = .ok (.iload_n 3, 1) := by decide +kernel
theorem dX9_canStep_61 : decode cX9_canStep 61 = .ok (.iload 4, 2) := by decide +kernel
theorem dX9_canStep_63 : decode cX9_canStep 63 = .ok (.iconst 1, 1) := by decide +kernel
theorem dX9_canStep_64 : decode cX9_canStep 64 = .ok (.invokevirtual 169, 3) := by decide +kernel
theorem dX9_canStep_67 : decode cX9_canStep 67 = .ok (.ireturn, 1) := by decide +kernel
theorem dX9_canStep_68 : decode cX9_canStep 68 = .ok (.aload_n 0, 1) := by decide +kernel
theorem dX9_canStep_69 : decode cX9_canStep 69 = .ok (.aload_n 1, 1) := by decide +kernel
theorem dX9_canStep_70 : decode cX9_canStep 70 = .ok (.invokevirtual 173, 3) := by decide +kernel
theorem dX9_canStep_73 : decode cX9_canStep 73 = .ok (.ireturn, 1) := by decide +kernel
theorem dX9_canStep_74 : decode cX9_canStep 74 = .ok (.aload_n 0, 1) := by decide +kernel
theorem dX9_canStep_75 : decode cX9_canStep 75 = .ok (.aload_n 1, 1) := by decide +kernel
theorem dX9_canStep_76 : decode cX9_canStep 76 = .ok (.invokevirtual 177, 3) := by decide +kernel
theorem dX9_canStep_79 : decode cX9_canStep 79 = .ok (.ireturn, 1) := by decide +kernel
theorem dX9_canStep_80 : decode cX9_canStep 80 = .ok (.aload_n 0, 1) := by decide +kernel
theorem dX9_canStep_81 : decode cX9_canStep 81 = .ok (.aload_n 1, 1) := by decide +kernel
theorem dX9_canStep_82 : decode cX9_canStep 82 = .ok (.iload_n 3, 1) := by decide +kernel
theorem dX9_canStep_83 : decode cX9_canStep 83 = .ok (.invokevirtual 180, 3) := by decide +kernel
theorem dX9_canStep_86 : decode cX9_canStep 86 = .ok (.ireturn, 1) := by decide +kernel
def X9_canStep (a1 : Nat) (x2 : Int32) (h : Mm) : Option Bool := (bp (X10_digitOf x2 (1 : Int32) h) (fun r17 => (bp (X10_digitOf x2 (2 : Int32) h) (fun r19 => (bp (X10_sortOf x2 h) (fun r21 => (if r21 = 0 then (bp (X9_canRead a1 r17 r19 false h) (fun r23 => (some r23))) else (if r21 = 1 then (bp (X9_canRead a1 r17 r19 true h) (fun r25 => (some r25))) else (if r21 = 2 then (bp (X9_canDrink a1 h) (fun r27 => (some r27))) else (if r21 = 3 then (bp (X9_canPass a1 h) (fun r29 => (some r29))) else (bp (X9_canGo a1 r17 h) (fun r31 => (some r31)))))))))))))
set_option maxRecDepth 100000 in
set_option maxHeartbeats 4000000 in
theorem s_X9_canStep {X : WX} {o : Mm} {a1 : Nat} {x2 : Int32} {rv : Bool} {h : Mm} (ha1 : isBed a1) (hF : X9_canStep a1 x2 h = some rv) : Sat X yX9_canStep cX9_canStep 5 (some .boolean) 6 [.ref (xa X 26), .ref (xa X a1), .int x2] true o h (some (.int (b2i rv))) h := by
  unfold X9_canStep at hF
  refine Sat.mk (own := RX9) rfl (by decide +kernel) (Nat.le_of_ble_eq_true rfl) (fun G => ?_)
  refine V.sub (lv2 := [(0, _), (1, _), (2, _)]) [0, 1, 2] rfl ?_
  refine V.iload_n 2 dX9_canStep_0 rfl rfl ?_
  refine V.iconst (v := 1) dX9_canStep_1 rfl ?_
  obtain ⟨r17, hc18, hF⟩ := bp_s hF
  refine V.callSi mf_X10_digitOf ml_X9_161 (s_X10_digitOf hc18) (by decide) rfl rfl (Nat.le_of_ble_eq_true rfl) dX9_canStep_2 ?_
  refine V.istore_n [(3, _), (0, _), (1, _), (2, _)] dX9_canStep_5 rfl (by decide) rfl ?_
  refine V.iload_n 3 dX9_canStep_6 rfl rfl ?_
  refine V.iconst (v := 2) dX9_canStep_7 rfl ?_
  obtain ⟨r19, hc20, hF⟩ := bp_s hF
  refine V.callSi mf_X10_digitOf ml_X9_161 (s_X10_digitOf hc20) (by decide) rfl rfl (Nat.le_of_ble_eq_true rfl) dX9_canStep_8 ?_
  refine V.istore [(4, _), (3, _), (0, _), (1, _), (2, _)] dX9_canStep_11 (by decide) rfl ?_
  refine V.iload_n 4 dX9_canStep_13 rfl rfl ?_
  obtain ⟨r21, hc22, hF⟩ := bp_s hF
  refine V.callSi mf_X10_sortOf ml_X9_166 (s_X10_sortOf hc22) (by decide) rfl rfl (Nat.le_of_ble_eq_true rfl) dX9_canStep_14 ?_
  by_cases c0 : r21 = 0
  · replace hF := ip c0 hF
    refine V.tswIn (tgt := 48) c0 dX9_canStep_17 (by decide) (by decide) rfl rfl ?_
    refine V.aload_n 2 dX9_canStep_48 rfl rfl ?_
    refine V.aload_n 3 dX9_canStep_49 rfl rfl ?_
    refine V.iload_n 1 dX9_canStep_50 rfl rfl ?_
    refine V.iload 0 dX9_canStep_51 rfl ?_
    refine V.iconst (v := 0) dX9_canStep_53 rfl ?_
    obtain ⟨r23, hc24, hF⟩ := bp_s hF
    refine V.callVi mf_X9_canRead ml_X9_169 sh_26 (s_X9_canRead ha1 hc24) (by decide) rfl rfl (Nat.le_of_ble_eq_true rfl) dX9_canStep_54 ?_
    cases hF
    exact V.bret dX9_canStep_57
  replace hF := iq c0 hF
  by_cases c1 : r21 = 1
  · replace hF := ip c1 hF
    refine V.tswIn (tgt := 58) c1 dX9_canStep_17 (by decide) (by decide) rfl rfl ?_
    refine V.aload_n 2 dX9_canStep_58 rfl rfl ?_
    refine V.aload_n 3 dX9_canStep_59 rfl rfl ?_
    refine V.iload_n 1 dX9_canStep_60 rfl rfl ?_
    refine V.iload 0 dX9_canStep_61 rfl ?_
    refine V.iconst (v := 1) dX9_canStep_63 rfl ?_
    obtain ⟨r25, hc26, hF⟩ := bp_s hF
    refine V.callVi mf_X9_canRead ml_X9_169 sh_26 (s_X9_canRead ha1 hc26) (by decide) rfl rfl (Nat.le_of_ble_eq_true rfl) dX9_canStep_64 ?_
    cases hF
    exact V.bret dX9_canStep_67
  replace hF := iq c1 hF
  by_cases c2 : r21 = 2
  · replace hF := ip c2 hF
    refine V.tswIn (tgt := 68) c2 dX9_canStep_17 (by decide) (by decide) rfl rfl ?_
    refine V.aload_n 2 dX9_canStep_68 rfl rfl ?_
    refine V.aload_n 3 dX9_canStep_69 rfl rfl ?_
    obtain ⟨r27, hc28, hF⟩ := bp_s hF
    refine V.callVi mf_X9_canDrink ml_X9_173 sh_26 (s_X9_canDrink ha1 hc28) (by decide) rfl rfl (Nat.le_of_ble_eq_true rfl) dX9_canStep_70 ?_
    cases hF
    exact V.bret dX9_canStep_73
  replace hF := iq c2 hF
  by_cases c3 : r21 = 3
  · replace hF := ip c3 hF
    refine V.tswIn (tgt := 74) c3 dX9_canStep_17 (by decide) (by decide) rfl rfl ?_
    refine V.aload_n 2 dX9_canStep_74 rfl rfl ?_
    refine V.aload_n 3 dX9_canStep_75 rfl rfl ?_
    obtain ⟨r29, hc30, hF⟩ := bp_s hF
    refine V.callVi mf_X9_canPass ml_X9_177 sh_26 (s_X9_canPass ha1 hc30) (by decide) rfl rfl (Nat.le_of_ble_eq_true rfl) dX9_canStep_76 ?_
    cases hF
    exact V.bret dX9_canStep_79
  replace hF := iq c3 hF
  refine V.tswOut (tgt := 80) dX9_canStep_17 (tsw_out (by decide) (by decide) [0, 1, 2, 3] rfl (fun v hv => ?_)) rfl ?_
  · simp only [List.mem_cons, List.not_mem_nil, or_false] at hv
    rcases hv with rfl | rfl | rfl | rfl <;> assumption
  refine V.aload_n 2 dX9_canStep_80 rfl rfl ?_
  refine V.aload_n 3 dX9_canStep_81 rfl rfl ?_
  refine V.iload_n 1 dX9_canStep_82 rfl rfl ?_
  obtain ⟨r31, hc32, hF⟩ := bp_s hF
  refine V.callVi mf_X9_canGo ml_X9_180 sh_26 (s_X9_canGo ha1 hc32) (by decide) rfl rfl (Nat.le_of_ble_eq_true rfl) dX9_canStep_83 ?_
  cases hF
  exact V.bret dX9_canStep_86
/-! MonsterCot$Ways.doStep -/
theorem dX9_doStep_0 : decode cX9_doStep 0 = .ok (.iload_n 2, 1) := by decide +kernel
theorem dX9_doStep_1 : decode cX9_doStep 1 = .ok (.iconst 1, 1) := by decide +kernel
theorem dX9_doStep_2 : decode cX9_doStep 2 = .ok (.invokestatic 161, 3) := by decide +kernel
theorem dX9_doStep_5 : decode cX9_doStep 5 = .ok (.istore_n 3, 1) := by decide +kernel
theorem dX9_doStep_6 : decode cX9_doStep 6 = .ok (.iload_n 2, 1) := by decide +kernel
theorem dX9_doStep_7 : decode cX9_doStep 7 = .ok (.iconst 2, 1) := by decide +kernel
theorem dX9_doStep_8 : decode cX9_doStep 8 = .ok (.invokestatic 161, 3) := by decide +kernel
theorem dX9_doStep_11 : decode cX9_doStep 11 = .ok (.istore 4, 2) := by decide +kernel
theorem dX9_doStep_13 : decode cX9_doStep 13 = .ok (.iload_n 2, 1) := by decide +kernel
theorem dX9_doStep_14 : decode cX9_doStep 14 = .ok (.invokestatic 166, 3) := by decide +kernel
theorem dX9_doStep_17 : decode cX9_doStep 17 = .ok (.tableswitch 66 0 3 #[31, 42, 53, 60], 31) := by decide +kernel
theorem dX9_doStep_48 : decode cX9_doStep 48 = .ok (.aload_n 0, 1) := by decide +kernel
theorem dX9_doStep_49 : decode cX9_doStep 49 = .ok (.aload_n 1, 1) := by decide +kernel
theorem dX9_doStep_50 : decode cX9_doStep 50 = .ok (.iload_n 3, 1) := by decide +kernel
theorem dX9_doStep_51 : decode cX9_doStep 51 = .ok (.iload 4, 2) := by decide +kernel
theorem dX9_doStep_53 : decode cX9_doStep 53 = .ok (.iconst 0, 1) := by decide +kernel
theorem dX9_doStep_54 : decode cX9_doStep 54 = .ok (.invokevirtual 184, 3) := by decide +kernel
theorem dX9_doStep_57 : decode cX9_doStep 57 = .ok (.iconst 0, 1) := by decide +kernel
theorem dX9_doStep_58 : decode cX9_doStep 58 = .ok (.ireturn, 1) := by decide +kernel
theorem dX9_doStep_59 : decode cX9_doStep 59 = .ok (.aload_n 0, 1) := by decide +kernel
theorem dX9_doStep_60 : decode cX9_doStep 60 = .ok (.aload_n 1, 1) := by decide +kernel
theorem dX9_doStep_61 : decode cX9_doStep 61 = .ok (.iload_n 3, 1) := by decide +kernel
theorem dX9_doStep_62 : decode cX9_doStep 62 = .ok (.iload 4, 2) := by decide +kernel
theorem dX9_doStep_64 : decode cX9_doStep 64 = .ok (.iconst 1, 1) := by decide +kernel
theorem dX9_doStep_65 : decode cX9_doStep 65 = .ok (.invokevirtual 184, 3) := by decide +kernel
theorem dX9_doStep_68 : decode cX9_doStep 68 = .ok (.iconst 0, 1) := by decide +kernel
theorem dX9_doStep_69 : decode cX9_doStep 69 = .ok (.ireturn, 1) := by decide +kernel
theorem dX9_doStep_70 : decode cX9_doStep 70 = .ok (.aload_n 0, 1) := by decide +kernel
theorem dX9_doStep_71 : decode cX9_doStep 71 = .ok (.aload_n 1, 1) := by decide +kernel
theorem dX9_doStep_72 : decode cX9_doStep 72 = .ok (.invokevirtual 188, 3) := by decide +kernel
theorem dX9_doStep_75 : decode cX9_doStep 75 = .ok (.iconst 0, 1) := by decide +kernel
theorem dX9_doStep_76 : decode cX9_doStep 76 = .ok (.ireturn, 1) := by decide +kernel
theorem dX9_doStep_77 : decode cX9_doStep 77 = .ok (.aload_n 0, 1) := by decide +kernel
theorem dX9_doStep_78 : decode cX9_doStep 78 = .ok (.aload_n 1, 1) := by decide +kernel
theorem dX9_doStep_79 : decode cX9_doStep 79 = .ok (.invokevirtual 192, 3) := by decide +kernel
theorem dX9_doStep_82 : decode cX9_doStep 82 = .ok (.ireturn, 1) := by decide +kernel
theorem dX9_doStep_83 : decode cX9_doStep 83 = .ok (.aload_n 0, 1) := by decide +kernel
theorem dX9_doStep_84 : decode cX9_doStep 84 = .ok (.aload_n 1, 1) := by decide +kernel
theorem dX9_doStep_85 : decode cX9_doStep 85 = .ok (.iload_n 3, 1) := by decide +kernel
theorem dX9_doStep_86 : decode cX9_doStep 86 = .ok (.invokevirtual 196, 3) := by decide +kernel
theorem dX9_doStep_89 : decode cX9_doStep 89 = .ok (.iconst 0, 1) := by decide +kernel
theorem dX9_doStep_90 : decode cX9_doStep 90 = .ok (.ireturn, 1) := by decide +kernel
def X9_doStep (n : Nat) (a1 : Nat) (x2 : Int32) (h : Mm) : Option (Int32 × Mm) := (bp (X10_digitOf x2 (1 : Int32) h) (fun r22 => (bp (X10_digitOf x2 (2 : Int32) h) (fun r24 => (bp (X10_sortOf x2 h) (fun r26 => (if r26 = 0 then (bd (X9_doRead n a1 r22 r24 false h) (fun _ h30 => (some ((0 : Int32), h30)))) else (if r26 = 1 then (bd (X9_doRead n a1 r22 r24 true h) (fun _ h33 => (some ((0 : Int32), h33)))) else (if r26 = 2 then (bd (X9_drink a1 h) (fun _ h36 => (some ((0 : Int32), h36)))) else (if r26 = 3 then (bd (X9_pass n a1 h) (fun r37 h39 => (some (r37, h39)))) else (bd (X9_go a1 r22 h) (fun _ h42 => (some ((0 : Int32), h42))))))))))))))
set_option maxRecDepth 100000 in
set_option maxHeartbeats 4000000 in
theorem s_X9_doStep {X : WX} {o : Mm} {n : Nat} {a1 : Nat} {x2 : Int32} {rv : Int32} {hz : Mm} {h : Mm} (ha1 : isBed a1) (hF : X9_doStep n a1 x2 h = some (rv, hz)) : Sat X yX9_doStep cX9_doStep 5 (some .int) 7 [.ref (xa X 26), .ref (xa X a1), .int x2] true o h (some (.int rv)) hz := by
  unfold X9_doStep at hF
  refine Sat.mk (own := RX9) rfl (by decide +kernel) (Nat.le_of_ble_eq_true rfl) (fun G => ?_)
  refine V.sub (lv2 := [(0, _), (1, _), (2, _)]) [0, 1, 2] rfl ?_
  refine V.iload_n 2 dX9_doStep_0 rfl rfl ?_
  refine V.iconst (v := 1) dX9_doStep_1 rfl ?_
  obtain ⟨r22, hc23, hF⟩ := bp_s hF
  refine V.callSi mf_X10_digitOf ml_X9_161 (s_X10_digitOf hc23) (by decide) rfl rfl (Nat.le_of_ble_eq_true rfl) dX9_doStep_2 ?_
  refine V.istore_n [(3, _), (0, _), (1, _), (2, _)] dX9_doStep_5 rfl (by decide) rfl ?_
  refine V.iload_n 3 dX9_doStep_6 rfl rfl ?_
  refine V.iconst (v := 2) dX9_doStep_7 rfl ?_
  obtain ⟨r24, hc25, hF⟩ := bp_s hF
  refine V.callSi mf_X10_digitOf ml_X9_161 (s_X10_digitOf hc25) (by decide) rfl rfl (Nat.le_of_ble_eq_true rfl) dX9_doStep_8 ?_
  refine V.istore [(4, _), (3, _), (0, _), (1, _), (2, _)] dX9_doStep_11 (by decide) rfl ?_
  refine V.iload_n 4 dX9_doStep_13 rfl rfl ?_
  obtain ⟨r26, hc27, hF⟩ := bp_s hF
  refine V.callSi mf_X10_sortOf ml_X9_166 (s_X10_sortOf hc27) (by decide) rfl rfl (Nat.le_of_ble_eq_true rfl) dX9_doStep_14 ?_
  by_cases c0 : r26 = 0
  · replace hF := ip c0 hF
    refine V.tswIn (tgt := 48) c0 dX9_doStep_17 (by decide) (by decide) rfl rfl ?_
    refine V.aload_n 2 dX9_doStep_48 rfl rfl ?_
    refine V.aload_n 3 dX9_doStep_49 rfl rfl ?_
    refine V.iload_n 1 dX9_doStep_50 rfl rfl ?_
    refine V.iload 0 dX9_doStep_51 rfl ?_
    refine V.iconst (v := 0) dX9_doStep_53 rfl ?_
    obtain ⟨r28, h30, hc29, hF⟩ := bd_s hF
    refine V.callVv mf_X9_doRead ml_X9_184 sh_26 (s_X9_doRead ha1 hc29) (by decide) rfl rfl (Nat.le_of_ble_eq_true rfl) dX9_doStep_54 ?_
    refine V.iconst (v := 0) dX9_doStep_57 rfl ?_
    cases hF
    exact V.iret dX9_doStep_58
  replace hF := iq c0 hF
  by_cases c1 : r26 = 1
  · replace hF := ip c1 hF
    refine V.tswIn (tgt := 59) c1 dX9_doStep_17 (by decide) (by decide) rfl rfl ?_
    refine V.aload_n 2 dX9_doStep_59 rfl rfl ?_
    refine V.aload_n 3 dX9_doStep_60 rfl rfl ?_
    refine V.iload_n 1 dX9_doStep_61 rfl rfl ?_
    refine V.iload 0 dX9_doStep_62 rfl ?_
    refine V.iconst (v := 1) dX9_doStep_64 rfl ?_
    obtain ⟨r31, h33, hc32, hF⟩ := bd_s hF
    refine V.callVv mf_X9_doRead ml_X9_184 sh_26 (s_X9_doRead ha1 hc32) (by decide) rfl rfl (Nat.le_of_ble_eq_true rfl) dX9_doStep_65 ?_
    refine V.iconst (v := 0) dX9_doStep_68 rfl ?_
    cases hF
    exact V.iret dX9_doStep_69
  replace hF := iq c1 hF
  by_cases c2 : r26 = 2
  · replace hF := ip c2 hF
    refine V.tswIn (tgt := 70) c2 dX9_doStep_17 (by decide) (by decide) rfl rfl ?_
    refine V.aload_n 2 dX9_doStep_70 rfl rfl ?_
    refine V.aload_n 3 dX9_doStep_71 rfl rfl ?_
    obtain ⟨r34, h36, hc35, hF⟩ := bd_s hF
    refine V.callVv mf_X9_drink ml_X9_188 sh_26 (s_X9_drink ha1 hc35) (by decide) rfl rfl (Nat.le_of_ble_eq_true rfl) dX9_doStep_72 ?_
    refine V.iconst (v := 0) dX9_doStep_75 rfl ?_
    cases hF
    exact V.iret dX9_doStep_76
  replace hF := iq c2 hF
  by_cases c3 : r26 = 3
  · replace hF := ip c3 hF
    refine V.tswIn (tgt := 77) c3 dX9_doStep_17 (by decide) (by decide) rfl rfl ?_
    refine V.aload_n 2 dX9_doStep_77 rfl rfl ?_
    refine V.aload_n 3 dX9_doStep_78 rfl rfl ?_
    obtain ⟨r37, h39, hc38, hF⟩ := bd_s hF
    refine V.callVi mf_X9_pass ml_X9_192 sh_26 (s_X9_pass ha1 hc38) (by decide) rfl rfl (Nat.le_of_ble_eq_true rfl) dX9_doStep_79 ?_
    cases hF
    exact V.iret dX9_doStep_82
  replace hF := iq c3 hF
  refine V.tswOut (tgt := 83) dX9_doStep_17 (tsw_out (by decide) (by decide) [0, 1, 2, 3] rfl (fun v hv => ?_)) rfl ?_
  · simp only [List.mem_cons, List.not_mem_nil, or_false] at hv
    rcases hv with rfl | rfl | rfl | rfl <;> assumption
  refine V.aload_n 2 dX9_doStep_83 rfl rfl ?_
  refine V.aload_n 3 dX9_doStep_84 rfl rfl ?_
  refine V.iload_n 1 dX9_doStep_85 rfl rfl ?_
  obtain ⟨r40, h42, hc41, hF⟩ := bd_s hF
  refine V.callVv mf_X9_go ml_X9_196 sh_26 (s_X9_go ha1 hc41) (by decide) rfl rfl (Nat.le_of_ble_eq_true rfl) dX9_doStep_86 ?_
  refine V.iconst (v := 0) dX9_doStep_89 rfl ?_
  cases hF
  exact V.iret dX9_doStep_90
/-! MonsterCot.run -/
theorem dX11_run_0 : decode cX11_run 0 = .ok (.aload_n 0, 1) := by decide +kernel
theorem dX11_run_1 : decode cX11_run 1 = .ok (.getfield 42, 3) := by decide +kernel
theorem dX11_run_4 : decode cX11_run 4 = .ok (.invokevirtual 124, 3) := by decide +kernel
theorem dX11_run_7 : decode cX11_run 7 = .ok (.ifCond .eq 23, 3) := by decide +kernel
theorem dX11_run_10 : decode cX11_run 10 = .ok (.aload_n 0, 1) := by decide +kernel
theorem dX11_run_11 : decode cX11_run 11 = .ok (.getfield 35, 3) := by decide +kernel
theorem dX11_run_14 : decode cX11_run 14 = .ok (.iload_n 1, 1) := by decide +kernel
theorem dX11_run_15 : decode cX11_run 15 = .ok (.invokevirtual 275, 3) := by decide +kernel
theorem dX11_run_18 : decode cX11_run 18 = .ok (.ifCond .eq 12, 3) := by decide +kernel
theorem dX11_run_21 : decode cX11_run 21 = .ok (.iload_n 2, 1) := by decide +kernel
theorem dX11_run_22 : decode cX11_run 22 = .ok (.ifCond .lt 8, 3) := by decide +kernel
theorem dX11_run_25 : decode cX11_run 25 = .ok (.iload_n 2, 1) := by decide +kernel
theorem dX11_run_26 : decode cX11_run 26 = .ok (.iconst 1, 1) := by decide +kernel
theorem dX11_run_27 : decode cX11_run 27 = .ok (.if_icmp .le 7, 3) := by decide +kernel
theorem dX11_run_30 : decode cX11_run 30 = .ok (.ldc_w 261, 3) := by decide +kernel
theorem dX11_run_33 : decode cX11_run 33 = .ok (.ireturn, 1) := by decide +kernel
theorem dX11_run_34 : decode cX11_run 34 = .ok (.aload_n 0, 1) := by decide +kernel
theorem dX11_run_35 : decode cX11_run 35 = .ok (.getfield 69, 3) := by decide +kernel
theorem dX11_run_38 : decode cX11_run 38 = .ok (.aload_n 0, 1) := by decide +kernel
theorem dX11_run_39 : decode cX11_run 39 = .ok (.getfield 65, 3) := by decide +kernel
theorem dX11_run_42 : decode cX11_run 42 = .ok (.invokevirtual 278, 3) := by decide +kernel
theorem dX11_run_45 : decode cX11_run 45 = .ok (.aload_n 0, 1) := by decide +kernel
theorem dX11_run_46 : decode cX11_run 46 = .ok (.getfield 35, 3) := by decide +kernel
theorem dX11_run_49 : decode cX11_run 49 = .ok (.iload_n 1, 1) := by decide +kernel
theorem dX11_run_50 : decode cX11_run 50 = .ok (.invokevirtual 281, 3) := by decide +kernel
theorem dX11_run_53 : decode cX11_run 53 = .ok (.istore_n 3, 1) := by decide +kernel
theorem dX11_run_54 : decode cX11_run 54 = .ok (.iconst 0, 1) := by decide +kernel
theorem dX11_run_55 : decode cX11_run 55 = .ok (.istore 4, 2) := by decide +kernel
theorem dX11_run_57 : decode cX11_run 57 = .ok (.iconst (-1), 1) := by decide +kernel
theorem dX11_run_58 : decode cX11_run 58 = .ok (.istore 5, 2) := by decide +kernel
theorem dX11_run_60 : decode cX11_run 60 = .ok (.iconst 0, 1) := by decide +kernel
theorem dX11_run_61 : decode cX11_run 61 = .ok (.istore 6, 2) := by decide +kernel
theorem dX11_run_63 : decode cX11_run 63 = .ok (.iload 6, 2) := by decide +kernel
theorem dX11_run_65 : decode cX11_run 65 = .ok (.iload_n 3, 1) := by decide +kernel
theorem dX11_run_66 : decode cX11_run 66 = .ok (.if_icmp .ge 68, 3) := by decide +kernel
theorem dX11_run_69 : decode cX11_run 69 = .ok (.iload 5, 2) := by decide +kernel
theorem dX11_run_71 : decode cX11_run 71 = .ok (.iconst (-1), 1) := by decide +kernel
theorem dX11_run_72 : decode cX11_run 72 = .ok (.if_icmp .ne 62, 3) := by decide +kernel
theorem dX11_run_75 : decode cX11_run 75 = .ok (.aload_n 0, 1) := by decide +kernel
theorem dX11_run_76 : decode cX11_run 76 = .ok (.getfield 35, 3) := by decide +kernel
theorem dX11_run_79 : decode cX11_run 79 = .ok (.iload_n 1, 1) := by decide +kernel
theorem dX11_run_80 : decode cX11_run 80 = .ok (.iload 6, 2) := by decide +kernel
theorem dX11_run_82 : decode cX11_run 82 = .ok (.invokevirtual 262, 3) := by decide +kernel
theorem dX11_run_85 : decode cX11_run 85 = .ok (.istore 7, 2) := by decide +kernel
theorem dX11_run_87 : decode cX11_run 87 = .ok (.aload_n 0, 1) := by decide +kernel
theorem dX11_run_88 : decode cX11_run 88 = .ok (.getfield 58, 3) := by decide +kernel
theorem dX11_run_91 : decode cX11_run 91 = .ok (.aload_n 0, 1) := by decide +kernel
theorem dX11_run_92 : decode cX11_run 92 = .ok (.getfield 69, 3) := by decide +kernel
theorem dX11_run_95 : decode cX11_run 95 = .ok (.iload 7, 2) := by decide +kernel
theorem dX11_run_97 : decode cX11_run 97 = .ok (.invokevirtual 284, 3) := by decide +kernel
theorem dX11_run_100 : decode cX11_run 100 = .ok (.ifCond .eq 24, 3) := by decide +kernel
theorem dX11_run_103 : decode cX11_run 103 = .ok (.iload 4, 2) := by decide +kernel
theorem dX11_run_105 : decode cX11_run 105 = .ok (.aload_n 0, 1) := by decide +kernel
theorem dX11_run_106 : decode cX11_run 106 = .ok (.getfield 58, 3) := by decide +kernel
theorem dX11_run_109 : decode cX11_run 109 = .ok (.aload_n 0, 1) := by decide +kernel
theorem dX11_run_110 : decode cX11_run 110 = .ok (.getfield 69, 3) := by decide +kernel
theorem dX11_run_113 : decode cX11_run 113 = .ok (.iload 7, 2) := by decide +kernel
theorem dX11_run_115 : decode cX11_run 115 = .ok (.invokevirtual 287, 3) := by decide +kernel
theorem dX11_run_118 : decode cX11_run 118 = .ok (.iadd, 1) := by decide +kernel
theorem dX11_run_119 : decode cX11_run 119 = .ok (.istore 4, 2) := by decide +kernel
theorem dX11_run_121 : decode cX11_run 121 = .ok (.goto 7, 3) := by decide +kernel
theorem dX11_run_124 : decode cX11_run 124 = .ok (.iload 6, 2) := by decide +kernel
theorem dX11_run_126 : decode cX11_run 126 = .ok (.istore 5, 2) := by decide +kernel
theorem dX11_run_128 : decode cX11_run 128 = .ok (.iinc 6 1, 3) := by decide +kernel
theorem dX11_run_131 : decode cX11_run 131 = .ok (.goto (-68), 3) := by decide +kernel
theorem dX11_run_134 : decode cX11_run 134 = .ok (.iload_n 2, 1) := by decide +kernel
theorem dX11_run_135 : decode cX11_run 135 = .ok (.ifCond .ne 8, 3) := by decide +kernel
theorem dX11_run_138 : decode cX11_run 138 = .ok (.iload 5, 2) := by decide +kernel
theorem dX11_run_140 : decode cX11_run 140 = .ok (.goto 5, 3) := by decide +kernel
theorem dX11_run_143 : decode cX11_run 143 = .ok (.iload 4, 2) := by decide +kernel
theorem dX11_run_145 : decode cX11_run 145 = .ok (.ireturn, 1) := by decide +kernel
def X11_run_30 (n : Nat) (h : Mm) : Option (Int32 × Mm) := (some ((-1000000 : Int32), h))
set_option maxRecDepth 100000 in
set_option maxHeartbeats 4000000 in
theorem v_X11_run_30 {X : WX} {G : GX} {o : Mm} {n : Nat} {rv : Int32} {hz : Mm} {h : Mm} (hF : X11_run_30 n h = some (rv, hz)) : V X G RX11 cX11_run 8 (some .int) 8 0 0 (QR X G true o (some (.int rv)) hz) true o 30 [] [] h := by
  unfold X11_run_30 at hF
  refine V.ldcw (v := -1000000) dX11_run_30 kc_X11_261 ?_
  cases hF
  exact V.iret dX11_run_33
def X11_run_128 (n : Nat) (K63 : Int32 → Int32 → Int32 → Int32 → Int32 → Int32 → Mm → Option (Int32 × Mm)) (x1 : Int32) (x2 : Int32) (x3 : Int32) (x4 : Int32) (x5 : Int32) (x6 : Int32) (h : Mm) : Option (Int32 × Mm) := (K63 x1 x2 x3 x4 x5 (x6 + (1)) h)
set_option maxRecDepth 100000 in
set_option maxHeartbeats 4000000 in
theorem v_X11_run_128 {X : WX} {G : GX} {o : Mm} {n : Nat} {K63 : Int32 → Int32 → Int32 → Int32 → Int32 → Int32 → Mm → Option (Int32 × Mm)} {rv : Int32} {hz : Mm} (hK63 : ∀ (x1 : Int32) (x2 : Int32) (x3 : Int32) (x4 : Int32) (x5 : Int32) (x6 : Int32) (h : Mm), K63 x1 x2 x3 x4 x5 x6 h = some (rv, hz) → V X G RX11 cX11_run 8 (some .int) 8 0 0 (QR X G true o (some (.int rv)) hz) true o 63 [(0, .ref (xa X 0)), (1, .int x1), (2, .int x2), (3, .int x3), (4, .int x4), (5, .int x5), (6, .int x6)] [] h) {x1 : Int32} {x2 : Int32} {x3 : Int32} {x4 : Int32} {x5 : Int32} {x6 : Int32} {h : Mm} (hF : X11_run_128 n K63 x1 x2 x3 x4 x5 x6 h = some (rv, hz)) : V X G RX11 cX11_run 8 (some .int) 8 0 0 (QR X G true o (some (.int rv)) hz) true o 128 [(0, .ref (xa X 0)), (1, .int x1), (2, .int x2), (3, .int x3), (4, .int x4), (5, .int x5), (6, .int x6)] [] h := by
  unfold X11_run_128 at hF
  refine V.iinc (v := (x6 + (1))) 6 [(6, _), (0, _), (1, _), (2, _), (3, _), (4, _), (5, _)] dX11_run_128 rfl rfl (by decide) rfl ?_
  refine V.goto (tgt := 63) dX11_run_131 rfl ?_
  exact V.sub [1, 2, 3, 4, 5, 6, 0] rfl (hK63 _ _ _ _ _ _ _ hF)
def X11_run_134 (n : Nat) (x2 : Int32) (x4 : Int32) (x5 : Int32) (h : Mm) : Option (Int32 × Mm) := (if x2 = 0 then (some (x5, h)) else (some (x4, h)))
set_option maxRecDepth 100000 in
set_option maxHeartbeats 4000000 in
theorem v_X11_run_134 {X : WX} {G : GX} {o : Mm} {n : Nat} {rv : Int32} {hz : Mm} {x2 : Int32} {x4 : Int32} {x5 : Int32} {h : Mm} (hF : X11_run_134 n x2 x4 x5 h = some (rv, hz)) : V X G RX11 cX11_run 8 (some .int) 8 0 0 (QR X G true o (some (.int rv)) hz) true o 134 [(2, .int x2), (4, .int x4), (5, .int x5)] [] h := by
  unfold X11_run_134 at hF
  refine V.iload_n 0 dX11_run_134 rfl rfl ?_
  refine V.if_ne (tgt := 143) dX11_run_135 rfl (fun c => ?_) (fun c => ?_)
  · replace hF := iq c hF
    refine V.iload 1 dX11_run_143 rfl ?_
    cases hF
    exact V.iret dX11_run_145
  · replace hF := ip c hF
    refine V.iload 2 dX11_run_138 rfl ?_
    refine V.goto (tgt := 145) dX11_run_140 rfl ?_
    cases hF
    exact V.iret dX11_run_145
def X11_run_63 (n : Nat) : Nat → Int32 → Int32 → Int32 → Int32 → Int32 → Int32 → Mm → Option (Int32 × Mm)
  | 0, _, _, _, _, _, _, _ => none
  | f + 1, x1, x2, x3, x4, x5, x6, h => (if x3 ≤ x6 then (X11_run_134 n x2 x4 x5 h) else (if x5 = (-1 : Int32) then (bp (X10_stepOf x1 x6 h) (fun r65 => (bp (X9_canStep 32 r65 h) (fun r67 => (if r67 = true then (bd (X9_doStep n 32 r65 h) (fun r69 h71 => (X11_run_128 n (X11_run_63 n f) x1 x2 x3 (x4 + r69) x5 x6 h71))) else (X11_run_128 n (X11_run_63 n f) x1 x2 x3 x4 x6 x6 h)))))) else (X11_run_134 n x2 x4 x5 h)))
set_option maxRecDepth 100000 in
set_option maxHeartbeats 4000000 in
theorem v_X11_run_63 {X : WX} {G : GX} {o : Mm} {n : Nat} {rv : Int32} {hz : Mm} : ∀ (f : Nat) (x1 : Int32) (x2 : Int32) (x3 : Int32) (x4 : Int32) (x5 : Int32) (x6 : Int32) (h : Mm), X11_run_63 n f x1 x2 x3 x4 x5 x6 h = some (rv, hz) → V X G RX11 cX11_run 8 (some .int) 8 0 0 (QR X G true o (some (.int rv)) hz) true o 63 [(0, .ref (xa X 0)), (1, .int x1), (2, .int x2), (3, .int x3), (4, .int x4), (5, .int x5), (6, .int x6)] [] h := by
  intro f
  induction f with
  | zero => intro x1 x2 x3 x4 x5 x6 h hF; exact nomatch (show (none : Option (Int32 × Mm)) = some (rv, hz) from hF)
  | succ f ih =>
    intro x1 x2 x3 x4 x5 x6 h hF
    unfold X11_run_63 at hF
    refine V.iload 6 dX11_run_63 rfl ?_
    refine V.iload_n 3 dX11_run_65 rfl rfl ?_
    refine V.icmp_ge (tgt := 134) dX11_run_66 rfl (fun c => ?_) (fun c => ?_)
    · replace hF := ip c hF
      exact V.sub [2, 4, 5] rfl (v_X11_run_134 hF)
    · replace hF := iq c hF
      refine V.iload 5 dX11_run_69 rfl ?_
      refine V.iconst (v := -1) dX11_run_71 rfl ?_
      refine V.icmp_ne (tgt := 134) dX11_run_72 rfl (fun c => ?_) (fun c => ?_)
      · replace hF := iq c hF
        exact V.sub [2, 4, 5] rfl (v_X11_run_134 hF)
      · replace hF := ip c hF
        refine V.aload_n 0 dX11_run_75 rfl rfl ?_
        refine V.getR (v := 9) fl_X11_35 sh_0 rfl fx_0_3 (by decide) dX11_run_76 ?_
        refine V.iload_n 1 dX11_run_79 rfl rfl ?_
        refine V.iload 6 dX11_run_80 rfl ?_
        obtain ⟨r65, hc66, hF⟩ := bp_s hF
        refine V.callVi mf_X10_stepOf ml_X11_262 sh_9 (s_X10_stepOf hc66) (by decide) rfl rfl (Nat.le_of_ble_eq_true rfl) dX11_run_82 ?_
        refine V.istore [(7, _), (0, _), (1, _), (2, _), (3, _), (4, _), (5, _), (6, _)] dX11_run_85 (by decide) rfl ?_
        refine V.aload_n 1 dX11_run_87 rfl rfl ?_
        refine V.getR (v := 26) fl_X11_58 sh_0 rfl fx_0_6 (by decide) dX11_run_88 ?_
        refine V.aload_n 1 dX11_run_91 rfl rfl ?_
        refine V.getR (v := 32) fl_X11_69 sh_0 rfl fx_0_8 (by decide) dX11_run_92 ?_
        refine V.iload 0 dX11_run_95 rfl ?_
        obtain ⟨r67, hc68, hF⟩ := bp_s hF
        refine V.callVi mf_X9_canStep ml_X11_284 sh_26 (s_X9_canStep isb_32 hc68) (by decide) rfl rfl (Nat.le_of_ble_eq_true rfl) dX11_run_97 ?_
        refine V.ifz_eq (tgt := 124) dX11_run_100 rfl (fun c => ?_) (fun c => ?_)
        · replace hF := iq c hF
          refine V.iload 7 dX11_run_124 rfl ?_
          refine V.istore [(5, _), (7, _), (0, _), (1, _), (2, _), (3, _), (4, _), (6, _)] dX11_run_126 (by decide) rfl ?_
          exact V.sub [2, 3, 4, 5, 6, 0, 7] rfl (v_X11_run_128 ih hF)
        · replace hF := ip c hF
          refine V.iload 5 dX11_run_103 rfl ?_
          refine V.aload_n 1 dX11_run_105 rfl rfl ?_
          refine V.getR (v := 26) fl_X11_58 sh_0 rfl fx_0_6 (by decide) dX11_run_106 ?_
          refine V.aload_n 1 dX11_run_109 rfl rfl ?_
          refine V.getR (v := 32) fl_X11_69 sh_0 rfl fx_0_8 (by decide) dX11_run_110 ?_
          refine V.iload 0 dX11_run_113 rfl ?_
          obtain ⟨r69, h71, hc70, hF⟩ := bd_s hF
          refine V.callVi mf_X9_doStep ml_X11_287 sh_26 (s_X9_doStep isb_32 hc70) (by decide) rfl rfl (Nat.le_of_ble_eq_true rfl) dX11_run_115 ?_
          refine V.iadd dX11_run_118 ?_
          refine V.istore [(4, _), (7, _), (0, _), (1, _), (2, _), (3, _), (5, _), (6, _)] dX11_run_119 (by decide) rfl ?_
          refine V.goto (tgt := 128) dX11_run_121 rfl ?_
          exact V.sub [2, 3, 4, 5, 0, 6, 7] rfl (v_X11_run_128 ih hF)
def X11_run (n : Nat) (x1 : Int32) (x2 : Int32) (h : Mm) : Option (Int32 × Mm) := (bp (X1_stands 13 h) (fun r72 => (if r72 = true then (bp (X10_has x1 h) (fun r74 => (if r74 = true then (if x2 < 0 then (X11_run_30 n h) else (if x2 ≤ (1 : Int32) then (bd (X0_copyFrom 32 27 h) (fun _ h78 => (bp (X10_sizeOf x1 h78) (fun r79 => (X11_run_63 n n x1 x2 r79 (0 : Int32) (-1 : Int32) (0 : Int32) h78))))) else (X11_run_30 n h))) else (X11_run_30 n h)))) else (X11_run_30 n h))))
set_option maxRecDepth 100000 in
set_option maxHeartbeats 4000000 in
theorem s_X11_run {X : WX} {o : Mm} {n : Nat} {x1 : Int32} {x2 : Int32} {rv : Int32} {hz : Mm} {h : Mm} (hF : X11_run n x1 x2 h = some (rv, hz)) : Sat X yX11_run cX11_run 8 (some .int) 8 [.ref (xa X 0), .int x1, .int x2] true o h (some (.int rv)) hz := by
  unfold X11_run at hF
  refine Sat.mk (own := RX11) rfl (by decide +kernel) (Nat.le_of_ble_eq_true rfl) (fun G => ?_)
  refine V.sub (lv2 := [(0, _), (1, _), (2, _)]) [0, 1, 2] rfl ?_
  refine V.aload_n 0 dX11_run_0 rfl rfl ?_
  refine V.getR (v := 13) fl_X11_42 sh_0 rfl fx_0_4 (by decide) dX11_run_1 ?_
  obtain ⟨r72, hc73, hF⟩ := bp_s hF
  refine V.callVi mf_X1_stands ml_X11_124 sh_13 (s_X1_stands (Or.inr rfl) hc73) (by decide) rfl rfl (Nat.le_of_ble_eq_true rfl) dX11_run_4 ?_
  refine V.ifz_eq (tgt := 30) dX11_run_7 rfl (fun c => ?_) (fun c => ?_)
  · replace hF := iq c hF
    exact V.sub [] rfl (v_X11_run_30 hF)
  · replace hF := ip c hF
    refine V.aload_n 0 dX11_run_10 rfl rfl ?_
    refine V.getR (v := 9) fl_X11_35 sh_0 rfl fx_0_3 (by decide) dX11_run_11 ?_
    refine V.iload_n 1 dX11_run_14 rfl rfl ?_
    obtain ⟨r74, hc75, hF⟩ := bp_s hF
    refine V.callVi mf_X10_has ml_X11_275 sh_9 (s_X10_has hc75) (by decide) rfl rfl (Nat.le_of_ble_eq_true rfl) dX11_run_15 ?_
    refine V.ifz_eq (tgt := 30) dX11_run_18 rfl (fun c => ?_) (fun c => ?_)
    · replace hF := iq c hF
      exact V.sub [] rfl (v_X11_run_30 hF)
    · replace hF := ip c hF
      refine V.iload_n 2 dX11_run_21 rfl rfl ?_
      refine V.if_lt (tgt := 30) dX11_run_22 rfl (fun c => ?_) (fun c => ?_)
      · replace hF := ip c hF
        exact V.sub [] rfl (v_X11_run_30 hF)
      · replace hF := iq c hF
        refine V.iload_n 2 dX11_run_25 rfl rfl ?_
        refine V.iconst (v := 1) dX11_run_26 rfl ?_
        refine V.icmp_le (tgt := 34) dX11_run_27 rfl (fun c => ?_) (fun c => ?_)
        · replace hF := ip c hF
          refine V.aload_n 0 dX11_run_34 rfl rfl ?_
          refine V.getR (v := 32) fl_X11_69 sh_0 rfl fx_0_8 (by decide) dX11_run_35 ?_
          refine V.aload_n 0 dX11_run_38 rfl rfl ?_
          refine V.getR (v := 27) fl_X11_65 sh_0 rfl fx_0_7 (by decide) dX11_run_39 ?_
          obtain ⟨r76, h78, hc77, hF⟩ := bd_s hF
          refine V.callVv mf_X0_copyFrom ml_X11_278 sh_32 (s_X0_copyFrom isb_32 isb_27 hc77) (by decide) rfl rfl (Nat.le_of_ble_eq_true rfl) dX11_run_42 ?_
          refine V.aload_n 0 dX11_run_45 rfl rfl ?_
          refine V.getR (v := 9) fl_X11_35 sh_0 rfl fx_0_3 (by decide) dX11_run_46 ?_
          refine V.iload_n 1 dX11_run_49 rfl rfl ?_
          obtain ⟨r79, hc80, hF⟩ := bp_s hF
          refine V.callVi mf_X10_sizeOf ml_X11_281 sh_9 (s_X10_sizeOf hc80) (by decide) rfl rfl (Nat.le_of_ble_eq_true rfl) dX11_run_50 ?_
          refine V.istore_n [(3, _), (0, _), (1, _), (2, _)] dX11_run_53 rfl (by decide) rfl ?_
          refine V.iconst (v := 0) dX11_run_54 rfl ?_
          refine V.istore [(4, _), (3, _), (0, _), (1, _), (2, _)] dX11_run_55 (by decide) rfl ?_
          refine V.iconst (v := -1) dX11_run_57 rfl ?_
          refine V.istore [(5, _), (4, _), (3, _), (0, _), (1, _), (2, _)] dX11_run_58 (by decide) rfl ?_
          refine V.iconst (v := 0) dX11_run_60 rfl ?_
          refine V.istore [(6, _), (5, _), (4, _), (3, _), (0, _), (1, _), (2, _)] dX11_run_61 (by decide) rfl ?_
          exact V.sub [4, 5, 6, 3, 2, 1, 0] rfl (v_X11_run_63 n _ _ _ _ _ _ _ hF)
        · replace hF := iq c hF
          exact V.sub [] rfl (v_X11_run_30 hF)
/-! MonsterCot.perform -/
theorem dX11_perform_0 : decode cX11_perform 0 = .ok (.aload_n 0, 1) := by decide +kernel
theorem dX11_perform_1 : decode cX11_perform 1 = .ok (.getfield 42, 3) := by decide +kernel
theorem dX11_perform_4 : decode cX11_perform 4 = .ok (.invokevirtual 124, 3) := by decide +kernel
theorem dX11_perform_7 : decode cX11_perform 7 = .ok (.ifCond .eq 14, 3) := by decide +kernel
theorem dX11_perform_10 : decode cX11_perform 10 = .ok (.aload_n 0, 1) := by decide +kernel
theorem dX11_perform_11 : decode cX11_perform 11 = .ok (.getfield 35, 3) := by decide +kernel
theorem dX11_perform_14 : decode cX11_perform 14 = .ok (.iload_n 1, 1) := by decide +kernel
theorem dX11_perform_15 : decode cX11_perform 15 = .ok (.invokevirtual 275, 3) := by decide +kernel
theorem dX11_perform_18 : decode cX11_perform 18 = .ok (.ifCond .ne 5, 3) := by decide +kernel
theorem dX11_perform_21 : decode cX11_perform 21 = .ok (.iconst (-1), 1) := by decide +kernel
theorem dX11_perform_22 : decode cX11_perform 22 = .ok (.ireturn, 1) := by decide +kernel
theorem dX11_perform_23 : decode cX11_perform 23 = .ok (.aload_n 0, 1) := by decide +kernel
theorem dX11_perform_24 : decode cX11_perform 24 = .ok (.getfield 35, 3) := by decide +kernel
theorem dX11_perform_27 : decode cX11_perform 27 = .ok (.iload_n 1, 1) := by decide +kernel
theorem dX11_perform_28 : decode cX11_perform 28 = .ok (.invokevirtual 281, 3) := by decide +kernel
theorem dX11_perform_31 : decode cX11_perform 31 = .ok (.istore_n 2, 1) := by decide +kernel
theorem dX11_perform_32 : decode cX11_perform 32 = .ok (.iconst 0, 1) := by decide +kernel
theorem dX11_perform_33 : decode cX11_perform 33 = .ok (.istore_n 3, 1) := by decide +kernel
theorem dX11_perform_34 : decode cX11_perform 34 = .ok (.iload_n 3, 1) := by decide +kernel
theorem dX11_perform_35 : decode cX11_perform 35 = .ok (.iload_n 2, 1) := by decide +kernel
theorem dX11_perform_36 : decode cX11_perform 36 = .ok (.if_icmp .ge 85, 3) := by decide +kernel
theorem dX11_perform_39 : decode cX11_perform 39 = .ok (.aload_n 0, 1) := by decide +kernel
theorem dX11_perform_40 : decode cX11_perform 40 = .ok (.getfield 58, 3) := by decide +kernel
theorem dX11_perform_43 : decode cX11_perform 43 = .ok (.aload_n 0, 1) := by decide +kernel
theorem dX11_perform_44 : decode cX11_perform 44 = .ok (.getfield 65, 3) := by decide +kernel
theorem dX11_perform_47 : decode cX11_perform 47 = .ok (.aload_n 0, 1) := by decide +kernel
theorem dX11_perform_48 : decode cX11_perform 48 = .ok (.getfield 35, 3) := by decide +kernel
theorem dX11_perform_51 : decode cX11_perform 51 = .ok (.iload_n 1, 1) := by decide +kernel
theorem dX11_perform_52 : decode cX11_perform 52 = .ok (.iload_n 3, 1) := by decide +kernel
theorem dX11_perform_53 : decode cX11_perform 53 = .ok (.invokevirtual 262, 3) := by decide +kernel
theorem dX11_perform_56 : decode cX11_perform 56 = .ok (.invokevirtual 284, 3) := by decide +kernel
theorem dX11_perform_59 : decode cX11_perform 59 = .ok (.ifCond .eq 62, 3) := by decide +kernel
theorem dX11_perform_62 : decode cX11_perform 62 = .ok (.aload_n 0, 1) := by decide +kernel
theorem dX11_perform_63 : decode cX11_perform 63 = .ok (.getfield 35, 3) := by decide +kernel
theorem dX11_perform_66 : decode cX11_perform 66 = .ok (.iload_n 1, 1) := by decide +kernel
theorem dX11_perform_67 : decode cX11_perform 67 = .ok (.iload_n 3, 1) := by decide +kernel
theorem dX11_perform_68 : decode cX11_perform 68 = .ok (.invokevirtual 262, 3) := by decide +kernel
theorem dX11_perform_71 : decode cX11_perform 71 = .ok (.istore 4, 2) := by decide +kernel
theorem dX11_perform_73 : decode cX11_perform 73 = .ok (.aload_n 0, 1) := by decide +kernel
theorem dX11_perform_74 : decode cX11_perform 74 = .ok (.getfield 75, 3) := by decide +kernel
theorem dX11_perform_77 : decode cX11_perform 77 = .ok (.aload_n 0, 1) := by decide +kernel
theorem dX11_perform_78 : decode cX11_perform 78 = .ok (.getfield 65, 3) := by decide +kernel
theorem dX11_perform_81 : decode cX11_perform 81 = .ok (.invokevirtual 199, 3) := by decide +kernel
theorem dX11_perform_84 : decode cX11_perform 84 = .ok (.iload 4, 2) := by decide +kernel
theorem dX11_perform_86 : decode cX11_perform 86 = .ok (.invokestatic 266, 3) := by decide +kernel
theorem dX11_perform_89 : decode cX11_perform 89 = .ok (.iconst 3, 1) := by decide +kernel
theorem dX11_perform_90 : decode cX11_perform 90 = .ok (.if_icmp .ne 11, 3) := by decide +kernel
theorem dX11_perform_93 : decode cX11_perform 93 = .ok (.aload_n 0, 1) := by decide +kernel
theorem dX11_perform_94 : decode cX11_perform 94 = .ok (.invokevirtual 231, 3) := by decide +kernel
theorem dX11_perform_97 : decode cX11_perform 97 = .ok (.pop, 1) := by decide +kernel
theorem dX11_perform_98 : decode cX11_perform 98 = .ok (.goto 17, 3) := by decide +kernel
theorem dX11_perform_101 : decode cX11_perform 101 = .ok (.aload_n 0, 1) := by decide +kernel
theorem dX11_perform_102 : decode cX11_perform 102 = .ok (.getfield 58, 3) := by decide +kernel
theorem dX11_perform_105 : decode cX11_perform 105 = .ok (.aload_n 0, 1) := by decide +kernel
theorem dX11_perform_106 : decode cX11_perform 106 = .ok (.getfield 65, 3) := by decide +kernel
theorem dX11_perform_109 : decode cX11_perform 109 = .ok (.iload 4, 2) := by decide +kernel
theorem dX11_perform_111 : decode cX11_perform 111 = .ok (.invokevirtual 287, 3) := by decide +kernel
theorem dX11_perform_114 : decode cX11_perform 114 = .ok (.pop, 1) := by decide +kernel
theorem dX11_perform_115 : decode cX11_perform 115 = .ok (.iinc 3 1, 3) := by decide +kernel
theorem dX11_perform_118 : decode cX11_perform 118 = .ok (.goto (-84), 3) := by decide +kernel
theorem dX11_perform_121 : decode cX11_perform 121 = .ok (.iload_n 3, 1) := by decide +kernel
theorem dX11_perform_122 : decode cX11_perform 122 = .ok (.ireturn, 1) := by decide +kernel
def X11_perform_115 (n : Nat) (K34 : Int32 → Int32 → Int32 → Mm → Option (Int32 × Mm)) (x1 : Int32) (x2 : Int32) (x3 : Int32) (h : Mm) : Option (Int32 × Mm) := (K34 x1 x2 (x3 + (1)) h)
set_option maxRecDepth 100000 in
set_option maxHeartbeats 4000000 in
theorem v_X11_perform_115 {X : WX} {G : GX} {o : Mm} {n : Nat} {K34 : Int32 → Int32 → Int32 → Mm → Option (Int32 × Mm)} {rv : Int32} {hz : Mm} (hK34 : ∀ (x1 : Int32) (x2 : Int32) (x3 : Int32) (h : Mm), K34 x1 x2 x3 h = some (rv, hz) → V X G RX11 cX11_perform 5 (some .int) 8 0 0 (QR X G true o (some (.int rv)) hz) true o 34 [(0, .ref (xa X 0)), (1, .int x1), (2, .int x2), (3, .int x3)] [] h) {x1 : Int32} {x2 : Int32} {x3 : Int32} {h : Mm} (hF : X11_perform_115 n K34 x1 x2 x3 h = some (rv, hz)) : V X G RX11 cX11_perform 5 (some .int) 8 0 0 (QR X G true o (some (.int rv)) hz) true o 115 [(0, .ref (xa X 0)), (1, .int x1), (2, .int x2), (3, .int x3)] [] h := by
  unfold X11_perform_115 at hF
  refine V.iinc (v := (x3 + (1))) 3 [(3, _), (0, _), (1, _), (2, _)] dX11_perform_115 rfl rfl (by decide) rfl ?_
  refine V.goto (tgt := 34) dX11_perform_118 rfl ?_
  exact V.sub [1, 2, 3, 0] rfl (hK34 _ _ _ _ hF)
def X11_perform_121 (n : Nat) (x3 : Int32) (h : Mm) : Option (Int32 × Mm) := (some (x3, h))
set_option maxRecDepth 100000 in
set_option maxHeartbeats 4000000 in
theorem v_X11_perform_121 {X : WX} {G : GX} {o : Mm} {n : Nat} {rv : Int32} {hz : Mm} {x3 : Int32} {h : Mm} (hF : X11_perform_121 n x3 h = some (rv, hz)) : V X G RX11 cX11_perform 5 (some .int) 8 0 0 (QR X G true o (some (.int rv)) hz) true o 121 [(3, .int x3)] [] h := by
  unfold X11_perform_121 at hF
  refine V.iload_n 0 dX11_perform_121 rfl rfl ?_
  cases hF
  exact V.iret dX11_perform_122
def X11_perform_34 (n : Nat) : Nat → Int32 → Int32 → Int32 → Mm → Option (Int32 × Mm)
  | 0, _, _, _, _ => none
  | f + 1, x1, x2, x3, h => (if x2 ≤ x3 then (X11_perform_121 n x3 h) else (bp (X10_stepOf x1 x3 h) (fun r93 => (bp (X9_canStep 27 r93 h) (fun r95 => (if r95 = true then (bp (X10_stepOf x1 x3 h) (fun r97 => (bd (X5_keep 27 h) (fun _ h101 => (bp (X10_sortOf r97 h101) (fun r102 => (if r102 = (3 : Int32) then (bd (X11_passLoggedNight n h101) (fun r107 h109 => (X11_perform_115 n (X11_perform_34 n f) x1 x2 x3 h109))) else (bd (X9_doStep n 27 r97 h101) (fun r104 h106 => (X11_perform_115 n (X11_perform_34 n f) x1 x2 x3 h106)))))))))) else (X11_perform_121 n x3 h)))))))
set_option maxRecDepth 100000 in
set_option maxHeartbeats 4000000 in
theorem v_X11_perform_34 {X : WX} {G : GX} {o : Mm} {n : Nat} {rv : Int32} {hz : Mm} : ∀ (f : Nat) (x1 : Int32) (x2 : Int32) (x3 : Int32) (h : Mm), X11_perform_34 n f x1 x2 x3 h = some (rv, hz) → V X G RX11 cX11_perform 5 (some .int) 8 0 0 (QR X G true o (some (.int rv)) hz) true o 34 [(0, .ref (xa X 0)), (1, .int x1), (2, .int x2), (3, .int x3)] [] h := by
  intro f
  induction f with
  | zero => intro x1 x2 x3 h hF; exact nomatch (show (none : Option (Int32 × Mm)) = some (rv, hz) from hF)
  | succ f ih =>
    intro x1 x2 x3 h hF
    unfold X11_perform_34 at hF
    refine V.iload_n 3 dX11_perform_34 rfl rfl ?_
    refine V.iload_n 2 dX11_perform_35 rfl rfl ?_
    refine V.icmp_ge (tgt := 121) dX11_perform_36 rfl (fun c => ?_) (fun c => ?_)
    · replace hF := ip c hF
      exact V.sub [3] rfl (v_X11_perform_121 hF)
    · replace hF := iq c hF
      refine V.aload_n 0 dX11_perform_39 rfl rfl ?_
      refine V.getR (v := 26) fl_X11_58 sh_0 rfl fx_0_6 (by decide) dX11_perform_40 ?_
      refine V.aload_n 0 dX11_perform_43 rfl rfl ?_
      refine V.getR (v := 27) fl_X11_65 sh_0 rfl fx_0_7 (by decide) dX11_perform_44 ?_
      refine V.aload_n 0 dX11_perform_47 rfl rfl ?_
      refine V.getR (v := 9) fl_X11_35 sh_0 rfl fx_0_3 (by decide) dX11_perform_48 ?_
      refine V.iload_n 1 dX11_perform_51 rfl rfl ?_
      refine V.iload_n 3 dX11_perform_52 rfl rfl ?_
      obtain ⟨r93, hc94, hF⟩ := bp_s hF
      refine V.callVi mf_X10_stepOf ml_X11_262 sh_9 (s_X10_stepOf hc94) (by decide) rfl rfl (Nat.le_of_ble_eq_true rfl) dX11_perform_53 ?_
      obtain ⟨r95, hc96, hF⟩ := bp_s hF
      refine V.callVi mf_X9_canStep ml_X11_284 sh_26 (s_X9_canStep isb_27 hc96) (by decide) rfl rfl (Nat.le_of_ble_eq_true rfl) dX11_perform_56 ?_
      refine V.ifz_eq (tgt := 121) dX11_perform_59 rfl (fun c => ?_) (fun c => ?_)
      · replace hF := iq c hF
        exact V.sub [3] rfl (v_X11_perform_121 hF)
      · replace hF := ip c hF
        refine V.aload_n 0 dX11_perform_62 rfl rfl ?_
        refine V.getR (v := 9) fl_X11_35 sh_0 rfl fx_0_3 (by decide) dX11_perform_63 ?_
        refine V.iload_n 1 dX11_perform_66 rfl rfl ?_
        refine V.iload_n 3 dX11_perform_67 rfl rfl ?_
        obtain ⟨r97, hc98, hF⟩ := bp_s hF
        refine V.callVi mf_X10_stepOf ml_X11_262 sh_9 (s_X10_stepOf hc98) (by decide) rfl rfl (Nat.le_of_ble_eq_true rfl) dX11_perform_68 ?_
        refine V.istore [(4, _), (0, _), (1, _), (2, _), (3, _)] dX11_perform_71 (by decide) rfl ?_
        refine V.aload_n 1 dX11_perform_73 rfl rfl ?_
        refine V.getR (v := 37) fl_X11_75 sh_0 rfl fx_0_9 (by decide) dX11_perform_74 ?_
        refine V.aload_n 1 dX11_perform_77 rfl rfl ?_
        refine V.getR (v := 27) fl_X11_65 sh_0 rfl fx_0_7 (by decide) dX11_perform_78 ?_
        obtain ⟨r99, h101, hc100, hF⟩ := bd_s hF
        refine V.callVv mf_X5_keep ml_X11_199 sh_37 (s_X5_keep isb_27 hc100) (by decide) rfl rfl (Nat.le_of_ble_eq_true rfl) dX11_perform_81 ?_
        refine V.iload 0 dX11_perform_84 rfl ?_
        obtain ⟨r102, hc103, hF⟩ := bp_s hF
        refine V.callSi mf_X10_sortOf ml_X11_266 (s_X10_sortOf hc103) (by decide) rfl rfl (Nat.le_of_ble_eq_true rfl) dX11_perform_86 ?_
        refine V.iconst (v := 3) dX11_perform_89 rfl ?_
        refine V.icmp_ne (tgt := 101) dX11_perform_90 rfl (fun c => ?_) (fun c => ?_)
        · replace hF := iq c hF
          refine V.aload_n 1 dX11_perform_101 rfl rfl ?_
          refine V.getR (v := 26) fl_X11_58 sh_0 rfl fx_0_6 (by decide) dX11_perform_102 ?_
          refine V.aload_n 1 dX11_perform_105 rfl rfl ?_
          refine V.getR (v := 27) fl_X11_65 sh_0 rfl fx_0_7 (by decide) dX11_perform_106 ?_
          refine V.iload 0 dX11_perform_109 rfl ?_
          obtain ⟨r104, h106, hc105, hF⟩ := bd_s hF
          refine V.callVi mf_X9_doStep ml_X11_287 sh_26 (s_X9_doStep isb_27 hc105) (by decide) rfl rfl (Nat.le_of_ble_eq_true rfl) dX11_perform_111 ?_
          refine V.pop dX11_perform_114 rfl ?_
          exact V.sub [1, 2, 3, 4] rfl (v_X11_perform_115 ih hF)
        · replace hF := ip c hF
          refine V.aload_n 1 dX11_perform_93 rfl rfl ?_
          obtain ⟨r107, h109, hc108, hF⟩ := bd_s hF
          refine V.callVi mf_X11_passLoggedNight ml_X11_231 sh_0 (s_X11_passLoggedNight hc108) (by decide) rfl rfl (Nat.le_of_ble_eq_true rfl) dX11_perform_94 ?_
          refine V.pop dX11_perform_97 rfl ?_
          refine V.goto (tgt := 115) dX11_perform_98 rfl ?_
          exact V.sub [1, 2, 3, 4] rfl (v_X11_perform_115 ih hF)
def X11_perform (n : Nat) (x1 : Int32) (h : Mm) : Option (Int32 × Mm) := (bp (X1_stands 13 h) (fun r110 => (if r110 = true then (bp (X10_has x1 h) (fun r112 => (if r112 = true then (bp (X10_sizeOf x1 h) (fun r114 => (X11_perform_34 n n x1 r114 (0 : Int32) h))) else (some ((-1 : Int32), h))))) else (some ((-1 : Int32), h)))))
set_option maxRecDepth 100000 in
set_option maxHeartbeats 4000000 in
theorem s_X11_perform {X : WX} {o : Mm} {n : Nat} {x1 : Int32} {rv : Int32} {hz : Mm} {h : Mm} (hF : X11_perform n x1 h = some (rv, hz)) : Sat X yX11_perform cX11_perform 5 (some .int) 8 [.ref (xa X 0), .int x1] true o h (some (.int rv)) hz := by
  unfold X11_perform at hF
  refine Sat.mk (own := RX11) rfl (by decide +kernel) (Nat.le_of_ble_eq_true rfl) (fun G => ?_)
  refine V.sub (lv2 := [(0, _), (1, _)]) [0, 1] rfl ?_
  refine V.aload_n 0 dX11_perform_0 rfl rfl ?_
  refine V.getR (v := 13) fl_X11_42 sh_0 rfl fx_0_4 (by decide) dX11_perform_1 ?_
  obtain ⟨r110, hc111, hF⟩ := bp_s hF
  refine V.callVi mf_X1_stands ml_X11_124 sh_13 (s_X1_stands (Or.inr rfl) hc111) (by decide) rfl rfl (Nat.le_of_ble_eq_true rfl) dX11_perform_4 ?_
  refine V.ifz_eq (tgt := 21) dX11_perform_7 rfl (fun c => ?_) (fun c => ?_)
  · replace hF := iq c hF
    refine V.iconst (v := -1) dX11_perform_21 rfl ?_
    cases hF
    exact V.iret dX11_perform_22
  · replace hF := ip c hF
    refine V.aload_n 0 dX11_perform_10 rfl rfl ?_
    refine V.getR (v := 9) fl_X11_35 sh_0 rfl fx_0_3 (by decide) dX11_perform_11 ?_
    refine V.iload_n 1 dX11_perform_14 rfl rfl ?_
    obtain ⟨r112, hc113, hF⟩ := bp_s hF
    refine V.callVi mf_X10_has ml_X11_275 sh_9 (s_X10_has hc113) (by decide) rfl rfl (Nat.le_of_ble_eq_true rfl) dX11_perform_15 ?_
    refine V.ifz_ne (tgt := 23) dX11_perform_18 rfl (fun c => ?_) (fun c => ?_)
    · replace hF := ip c hF
      refine V.aload_n 0 dX11_perform_23 rfl rfl ?_
      refine V.getR (v := 9) fl_X11_35 sh_0 rfl fx_0_3 (by decide) dX11_perform_24 ?_
      refine V.iload_n 1 dX11_perform_27 rfl rfl ?_
      obtain ⟨r114, hc115, hF⟩ := bp_s hF
      refine V.callVi mf_X10_sizeOf ml_X11_281 sh_9 (s_X10_sizeOf hc115) (by decide) rfl rfl (Nat.le_of_ble_eq_true rfl) dX11_perform_28 ?_
      refine V.istore_n [(2, _), (0, _), (1, _)] dX11_perform_31 rfl (by decide) rfl ?_
      refine V.iconst (v := 0) dX11_perform_32 rfl ?_
      refine V.istore_n [(3, _), (2, _), (0, _), (1, _)] dX11_perform_33 rfl (by decide) rfl ?_
      exact V.sub [2, 3, 1, 0] rfl (v_X11_perform_34 n _ _ _ _ hF)
    · replace hF := iq c hF
      refine V.iconst (v := -1) dX11_perform_21 rfl ?_
      cases hF
      exact V.iret dX11_perform_22
/-! MonsterCot.calms -/
theorem dX11_calms_0 : decode cX11_calms 0 = .ok (.aload_n 0, 1) := by decide +kernel
theorem dX11_calms_1 : decode cX11_calms 1 = .ok (.getfield 58, 3) := by decide +kernel
theorem dX11_calms_4 : decode cX11_calms 4 = .ok (.iload_n 1, 1) := by decide +kernel
theorem dX11_calms_5 : decode cX11_calms 5 = .ok (.iload_n 2, 1) := by decide +kernel
theorem dX11_calms_6 : decode cX11_calms 6 = .ok (.invokevirtual 291, 3) := by decide +kernel
theorem dX11_calms_9 : decode cX11_calms 9 = .ok (.ifCond .eq 25, 3) := by decide +kernel
theorem dX11_calms_12 : decode cX11_calms 12 = .ok (.iload_n 2, 1) := by decide +kernel
theorem dX11_calms_13 : decode cX11_calms 13 = .ok (.aload_n 0, 1) := by decide +kernel
theorem dX11_calms_14 : decode cX11_calms 14 = .ok (.getfield 58, 3) := by decide +kernel
theorem dX11_calms_17 : decode cX11_calms 17 = .ok (.aload_n 0, 1) := by decide +kernel
theorem dX11_calms_18 : decode cX11_calms 18 = .ok (.getfield 65, 3) := by decide +kernel
theorem dX11_calms_21 : decode cX11_calms 21 = .ok (.aload_n 0, 1) := by decide +kernel
theorem dX11_calms_22 : decode cX11_calms 22 = .ok (.getfield 65, 3) := by decide +kernel
theorem dX11_calms_25 : decode cX11_calms 25 = .ok (.getfield 221, 3) := by decide +kernel
theorem dX11_calms_28 : decode cX11_calms 28 = .ok (.invokevirtual 294, 3) := by decide +kernel
theorem dX11_calms_31 : decode cX11_calms 31 = .ok (.if_icmp .le 5, 3) := by decide +kernel
theorem dX11_calms_34 : decode cX11_calms 34 = .ok (.iconst (-1), 1) := by decide +kernel
theorem dX11_calms_35 : decode cX11_calms 35 = .ok (.ireturn, 1) := by decide +kernel
theorem dX11_calms_36 : decode cX11_calms 36 = .ok (.aload_n 0, 1) := by decide +kernel
theorem dX11_calms_37 : decode cX11_calms 37 = .ok (.getfield 58, 3) := by decide +kernel
theorem dX11_calms_40 : decode cX11_calms 40 = .ok (.aload_n 0, 1) := by decide +kernel
theorem dX11_calms_41 : decode cX11_calms 41 = .ok (.getfield 65, 3) := by decide +kernel
theorem dX11_calms_44 : decode cX11_calms 44 = .ok (.iload_n 1, 1) := by decide +kernel
theorem dX11_calms_45 : decode cX11_calms 45 = .ok (.iload_n 2, 1) := by decide +kernel
theorem dX11_calms_46 : decode cX11_calms 46 = .ok (.invokevirtual 297, 3) := by decide +kernel
theorem dX11_calms_49 : decode cX11_calms 49 = .ok (.ireturn, 1) := by decide +kernel
def X11_calms (n : Nat) (x1 : Int32) (x2 : Int32) (h : Mm) : Option (Int32 × Mm) := (bp (X9_hasPages x1 x2 h) (fun r8 => (if r8 = true then (bp (X9_leftOf 27 (h.1 27 5) h) (fun r10 => (if x2 ≤ r10 then (bd (X9_calmNow n 27 x1 x2 h) (fun r12 h14 => (some (r12, h14)))) else (some ((-1 : Int32), h))))) else (some ((-1 : Int32), h)))))
set_option maxRecDepth 100000 in
set_option maxHeartbeats 4000000 in
theorem s_X11_calms {X : WX} {o : Mm} {n : Nat} {x1 : Int32} {x2 : Int32} {rv : Int32} {hz : Mm} {h : Mm} (hF : X11_calms n x1 x2 h = some (rv, hz)) : Sat X yX11_calms cX11_calms 3 (some .int) 6 [.ref (xa X 0), .int x1, .int x2] true o h (some (.int rv)) hz := by
  unfold X11_calms at hF
  refine Sat.mk (own := RX11) rfl (by decide +kernel) (Nat.le_of_ble_eq_true rfl) (fun G => ?_)
  refine V.sub (lv2 := [(0, _), (1, _), (2, _)]) [0, 1, 2] rfl ?_
  refine V.aload_n 0 dX11_calms_0 rfl rfl ?_
  refine V.getR (v := 26) fl_X11_58 sh_0 rfl fx_0_6 (by decide) dX11_calms_1 ?_
  refine V.iload_n 1 dX11_calms_4 rfl rfl ?_
  refine V.iload_n 2 dX11_calms_5 rfl rfl ?_
  obtain ⟨r8, hc9, hF⟩ := bp_s hF
  refine V.callVi mf_X9_hasPages ml_X11_291 sh_26 (s_X9_hasPages hc9) (by decide) rfl rfl (Nat.le_of_ble_eq_true rfl) dX11_calms_6 ?_
  refine V.ifz_eq (tgt := 34) dX11_calms_9 rfl (fun c => ?_) (fun c => ?_)
  · replace hF := iq c hF
    refine V.iconst (v := -1) dX11_calms_34 rfl ?_
    cases hF
    exact V.iret dX11_calms_35
  · replace hF := ip c hF
    refine V.iload_n 2 dX11_calms_12 rfl rfl ?_
    refine V.aload_n 0 dX11_calms_13 rfl rfl ?_
    refine V.getR (v := 26) fl_X11_58 sh_0 rfl fx_0_6 (by decide) dX11_calms_14 ?_
    refine V.aload_n 0 dX11_calms_17 rfl rfl ?_
    refine V.getR (v := 27) fl_X11_65 sh_0 rfl fx_0_7 (by decide) dX11_calms_18 ?_
    refine V.aload_n 0 dX11_calms_21 rfl rfl ?_
    refine V.getR (v := 27) fl_X11_65 sh_0 rfl fx_0_7 (by decide) dX11_calms_22 ?_
    refine V.getI fl_X11_221 sh_27 rfl km_27 dX11_calms_25 ?_
    obtain ⟨r10, hc11, hF⟩ := bp_s hF
    refine V.callVi mf_X9_leftOf ml_X11_294 sh_26 (s_X9_leftOf isb_27 hc11) (by decide) rfl rfl (Nat.le_of_ble_eq_true rfl) dX11_calms_28 ?_
    refine V.icmp_le (tgt := 36) dX11_calms_31 rfl (fun c => ?_) (fun c => ?_)
    · replace hF := ip c hF
      refine V.aload_n 0 dX11_calms_36 rfl rfl ?_
      refine V.getR (v := 26) fl_X11_58 sh_0 rfl fx_0_6 (by decide) dX11_calms_37 ?_
      refine V.aload_n 0 dX11_calms_40 rfl rfl ?_
      refine V.getR (v := 27) fl_X11_65 sh_0 rfl fx_0_7 (by decide) dX11_calms_41 ?_
      refine V.iload_n 1 dX11_calms_44 rfl rfl ?_
      refine V.iload_n 2 dX11_calms_45 rfl rfl ?_
      obtain ⟨r12, h14, hc13, hF⟩ := bd_s hF
      refine V.callVi mf_X9_calmNow ml_X11_297 sh_26 (s_X9_calmNow isb_27 hc13) (by decide) rfl rfl (Nat.le_of_ble_eq_true rfl) dX11_calms_46 ?_
      cases hF
      exact V.iret dX11_calms_49
    · replace hF := iq c hF
      refine V.iconst (v := -1) dX11_calms_34 rfl ?_
      cases hF
      exact V.iret dX11_calms_35
/-! MonsterCot$Search.growRow -/
theorem dX6_growRow_0 : decode cX6_growRow 0 = .ok (.iconst 0, 1) := by decide +kernel
theorem dX6_growRow_1 : decode cX6_growRow 1 = .ok (.istore 6, 2) := by decide +kernel
theorem dX6_growRow_3 : decode cX6_growRow 3 = .ok (.iload 6, 2) := by decide +kernel
theorem dX6_growRow_5 : decode cX6_growRow 5 = .ok (.aload_n 0, 1) := by decide +kernel
theorem dX6_growRow_6 : decode cX6_growRow 6 = .ok (.getfield 28, 3) := by decide +kernel
theorem dX6_growRow_9 : decode cX6_growRow 9 = .ok (.invokevirtual 59, 3) := by decide +kernel
theorem dX6_growRow_12 : decode cX6_growRow 12 = .ok (.if_icmp .ge 44, 3) := by decide +kernel
theorem dX6_growRow_15 : decode cX6_growRow 15 = .ok (.iload_n 2, 1) := by decide +kernel
theorem dX6_growRow_16 : decode cX6_growRow 16 = .ok (.aload_n 0, 1) := by decide +kernel
theorem dX6_growRow_17 : decode cX6_growRow 17 = .ok (.getfield 34, 3) := by decide +kernel
theorem dX6_growRow_20 : decode cX6_growRow 20 = .ok (.getfield 65, 3) := by decide +kernel
theorem dX6_growRow_23 : decode cX6_growRow 23 = .ok (.ior, 1) := by decide +kernel
theorem dX6_growRow_24 : decode cX6_growRow 24 = .ok (.iload 6, 2) := by decide +kernel
theorem dX6_growRow_26 : decode cX6_growRow 26 = .ok (.ishr, 1) := by decide +kernel
theorem dX6_growRow_27 : decode cX6_growRow 27 = .ok (.iconst 1, 1) := by decide +kernel
theorem dX6_growRow_28 : decode cX6_growRow 28 = .ok (.iand, 1) := by decide +kernel
theorem dX6_growRow_29 : decode cX6_growRow 29 = .ok (.ifCond .ne 21, 3) := by decide +kernel
theorem dX6_growRow_32 : decode cX6_growRow 32 = .ok (.aload_n 0, 1) := by decide +kernel
theorem dX6_growRow_33 : decode cX6_growRow 33 = .ok (.iload 6, 2) := by decide +kernel
theorem dX6_growRow_35 : decode cX6_growRow 35 = .ok (.iload_n 1, 1) := by decide +kernel
theorem dX6_growRow_36 : decode cX6_growRow 36 = .ok (.iload_n 2, 1) := by decide +kernel
theorem dX6_growRow_37 : decode cX6_growRow 37 = .ok (.iconst 1, 1) := by decide +kernel
theorem dX6_growRow_38 : decode cX6_growRow 38 = .ok (.iload 6, 2) := by decide +kernel
theorem dX6_growRow_40 : decode cX6_growRow 40 = .ok (.ishl, 1) := by decide +kernel
theorem dX6_growRow_41 : decode cX6_growRow 41 = .ok (.ior, 1) := by decide +kernel
theorem dX6_growRow_42 : decode cX6_growRow 42 = .ok (.iload_n 3, 1) := by decide +kernel
theorem dX6_growRow_43 : decode cX6_growRow 43 = .ok (.iload 4, 2) := by decide +kernel
theorem dX6_growRow_45 : decode cX6_growRow 45 = .ok (.iload 5, 2) := by decide +kernel
theorem dX6_growRow_47 : decode cX6_growRow 47 = .ok (.invokevirtual 68, 3) := by decide +kernel
theorem dX6_growRow_50 : decode cX6_growRow 50 = .ok (.iinc 6 1, 3) := by decide +kernel
theorem dX6_growRow_53 : decode cX6_growRow 53 = .ok (.goto (-50), 3) := by decide +kernel
theorem dX6_growRow_56 : decode cX6_growRow 56 = .ok (.return_, 1) := by decide +kernel
def X6_growRow_50 (n : Nat) (rf : Int32 → Int32 → Int32 → Int32 → Int32 → Int32 → Mm → Option (Unit × Mm)) (K3 : Int32 → Int32 → Int32 → Int32 → Int32 → Int32 → Mm → Option (Unit × Mm)) (x1 : Int32) (x2 : Int32) (x3 : Int32) (x4 : Int32) (x5 : Int32) (x6 : Int32) (h : Mm) : Option (Unit × Mm) := (K3 x1 x2 x3 x4 x5 (x6 + (1)) h)
set_option maxRecDepth 100000 in
set_option maxHeartbeats 4000000 in
theorem v_X6_growRow_50 {X : WX} {G : GX} {o : Mm} {n : Nat} {rf : Int32 → Int32 → Int32 → Int32 → Int32 → Int32 → Mm → Option (Unit × Mm)} {dr : Nat} (hdr : 6 ≤ dr) (hrf : ∀ (x1 : Int32) (x2 : Int32) (x3 : Int32) (x4 : Int32) (x5 : Int32) (x6 : Int32)  (h : Mm) (r : Unit) (h2 : Mm), rf x1 x2 x3 x4 x5 x6 h = some (r, h2) → Sat X yX6_growRowBy cX6_growRowBy 17 (none) dr [.ref (xa X 246), .int x1, .int x2, .int x3, .int x4, .int x5, .int x6] true o h none h2) {K3 : Int32 → Int32 → Int32 → Int32 → Int32 → Int32 → Mm → Option (Unit × Mm)} {rv : Unit} {hz : Mm} (hK3 : ∀ (x1 : Int32) (x2 : Int32) (x3 : Int32) (x4 : Int32) (x5 : Int32) (x6 : Int32) (h : Mm), K3 x1 x2 x3 x4 x5 x6 h = some (rv, hz) → V X G RX6 cX6_growRow 7 (none) (dr + 1) 0 0 (QR X G true o none hz) true o 3 [(0, .ref (xa X 246)), (1, .int x1), (2, .int x2), (3, .int x3), (4, .int x4), (5, .int x5), (6, .int x6)] [] h) {x1 : Int32} {x2 : Int32} {x3 : Int32} {x4 : Int32} {x5 : Int32} {x6 : Int32} {h : Mm} (hF : X6_growRow_50 n rf K3 x1 x2 x3 x4 x5 x6 h = some (rv, hz)) : V X G RX6 cX6_growRow 7 (none) (dr + 1) 0 0 (QR X G true o none hz) true o 50 [(0, .ref (xa X 246)), (1, .int x1), (2, .int x2), (3, .int x3), (4, .int x4), (5, .int x5), (6, .int x6)] [] h := by
  unfold X6_growRow_50 at hF
  refine V.iinc (v := (x6 + (1))) 6 [(6, _), (0, _), (1, _), (2, _), (3, _), (4, _), (5, _)] dX6_growRow_50 rfl rfl (by decide) rfl ?_
  refine V.goto (tgt := 3) dX6_growRow_53 rfl ?_
  exact V.sub [1, 2, 3, 4, 5, 6, 0] rfl (hK3 _ _ _ _ _ _ _ hF)
def X6_growRow_3 (n : Nat) (rf : Int32 → Int32 → Int32 → Int32 → Int32 → Int32 → Mm → Option (Unit × Mm)) : Nat → Int32 → Int32 → Int32 → Int32 → Int32 → Int32 → Mm → Option (Unit × Mm)
  | 0, _, _, _, _, _, _, _ => none
  | f + 1, x1, x2, x3, x4, x5, x6, h => (bp (X1_books 13 h) (fun r21 => (if r21 ≤ x6 then (some ((), h)) else (if (((x2 ||| (h.1 27 9)) >>> (x6 &&& 31)) &&& (1 : Int32)) = 0 then (bd (rf x6 x1 (x2 ||| ((1 : Int32) <<< (x6 &&& 31))) x3 x4 x5 h) (fun _ h25 => (X6_growRow_50 n rf (X6_growRow_3 n rf f) x1 x2 x3 x4 x5 x6 h25))) else (X6_growRow_50 n rf (X6_growRow_3 n rf f) x1 x2 x3 x4 x5 x6 h)))))
set_option maxRecDepth 100000 in
set_option maxHeartbeats 4000000 in
theorem v_X6_growRow_3 {X : WX} {G : GX} {o : Mm} {n : Nat} {rf : Int32 → Int32 → Int32 → Int32 → Int32 → Int32 → Mm → Option (Unit × Mm)} {dr : Nat} (hdr : 6 ≤ dr) (hrf : ∀ (x1 : Int32) (x2 : Int32) (x3 : Int32) (x4 : Int32) (x5 : Int32) (x6 : Int32)  (h : Mm) (r : Unit) (h2 : Mm), rf x1 x2 x3 x4 x5 x6 h = some (r, h2) → Sat X yX6_growRowBy cX6_growRowBy 17 (none) dr [.ref (xa X 246), .int x1, .int x2, .int x3, .int x4, .int x5, .int x6] true o h none h2) {rv : Unit} {hz : Mm} : ∀ (f : Nat) (x1 : Int32) (x2 : Int32) (x3 : Int32) (x4 : Int32) (x5 : Int32) (x6 : Int32) (h : Mm), X6_growRow_3 n rf f x1 x2 x3 x4 x5 x6 h = some (rv, hz) → V X G RX6 cX6_growRow 7 (none) (dr + 1) 0 0 (QR X G true o none hz) true o 3 [(0, .ref (xa X 246)), (1, .int x1), (2, .int x2), (3, .int x3), (4, .int x4), (5, .int x5), (6, .int x6)] [] h := by
  intro f
  induction f with
  | zero => intro x1 x2 x3 x4 x5 x6 h hF; exact nomatch (show (none : Option (Unit × Mm)) = some (rv, hz) from hF)
  | succ f ih =>
    intro x1 x2 x3 x4 x5 x6 h hF
    unfold X6_growRow_3 at hF
    refine V.iload 6 dX6_growRow_3 rfl ?_
    refine V.aload_n 0 dX6_growRow_5 rfl rfl ?_
    refine V.getR (v := 13) fl_X6_28 sh_246 rfl fx_246_1 (by decide) dX6_growRow_6 ?_
    obtain ⟨r21, hc22, hF⟩ := bp_s hF
    refine V.callVi mf_X1_books ml_X6_59 sh_13 (s_X1_books (Or.inr rfl) hc22) (by omega) rfl rfl (Nat.le_of_ble_eq_true rfl) dX6_growRow_9 ?_
    refine V.icmp_ge (tgt := 56) dX6_growRow_12 rfl (fun c => ?_) (fun c => ?_)
    · replace hF := ip c hF
      cases hF
      exact V.vret dX6_growRow_56
    · replace hF := iq c hF
      refine V.iload_n 2 dX6_growRow_15 rfl rfl ?_
      refine V.aload_n 0 dX6_growRow_16 rfl rfl ?_
      refine V.getR (v := 27) fl_X6_34 sh_246 rfl fx_246_3 (by decide) dX6_growRow_17 ?_
      refine V.getI fl_X6_65 sh_27 rfl km_27 dX6_growRow_20 ?_
      refine V.ior dX6_growRow_23 ?_
      refine V.iload 6 dX6_growRow_24 rfl ?_
      refine V.ishr dX6_growRow_26 ?_
      refine V.iconst (v := 1) dX6_growRow_27 rfl ?_
      refine V.iand dX6_growRow_28 ?_
      refine V.if_ne (tgt := 50) dX6_growRow_29 rfl (fun c => ?_) (fun c => ?_)
      · replace hF := iq c hF
        exact (v_X6_growRow_50 hdr hrf ih hF)
      · replace hF := ip c hF
        refine V.aload_n 0 dX6_growRow_32 rfl rfl ?_
        refine V.iload 6 dX6_growRow_33 rfl ?_
        refine V.iload_n 1 dX6_growRow_35 rfl rfl ?_
        refine V.iload_n 2 dX6_growRow_36 rfl rfl ?_
        refine V.iconst (v := 1) dX6_growRow_37 rfl ?_
        refine V.iload 6 dX6_growRow_38 rfl ?_
        refine V.ishl dX6_growRow_40 ?_
        refine V.ior dX6_growRow_41 ?_
        refine V.iload_n 3 dX6_growRow_42 rfl rfl ?_
        refine V.iload 4 dX6_growRow_43 rfl ?_
        refine V.iload 5 dX6_growRow_45 rfl ?_
        obtain ⟨r23, h25, hc24, hF⟩ := bd_s hF
        refine V.callVv mf_X6_growRowBy ml_X6_68 sh_246 (hrf _ _ _ _ _ _ _ _ _ hc24) (by omega) rfl rfl (Nat.le_of_ble_eq_true rfl) dX6_growRow_47 ?_
        exact (v_X6_growRow_50 hdr hrf ih hF)
def X6_growRow (n : Nat) (rf : Int32 → Int32 → Int32 → Int32 → Int32 → Int32 → Mm → Option (Unit × Mm)) (x1 : Int32) (x2 : Int32) (x3 : Int32) (x4 : Int32) (x5 : Int32) (h : Mm) : Option (Unit × Mm) := (X6_growRow_3 n rf n x1 x2 x3 x4 x5 (0 : Int32) h)
set_option maxRecDepth 100000 in
set_option maxHeartbeats 4000000 in
theorem s_X6_growRow {X : WX} {o : Mm} {n : Nat} {rf : Int32 → Int32 → Int32 → Int32 → Int32 → Int32 → Mm → Option (Unit × Mm)} {dr : Nat} (hdr : 6 ≤ dr) (hrf : ∀ (x1 : Int32) (x2 : Int32) (x3 : Int32) (x4 : Int32) (x5 : Int32) (x6 : Int32)  (h : Mm) (r : Unit) (h2 : Mm), rf x1 x2 x3 x4 x5 x6 h = some (r, h2) → Sat X yX6_growRowBy cX6_growRowBy 17 (none) dr [.ref (xa X 246), .int x1, .int x2, .int x3, .int x4, .int x5, .int x6] true o h none h2) {x1 : Int32} {x2 : Int32} {x3 : Int32} {x4 : Int32} {x5 : Int32} {rv : Unit} {hz : Mm} {h : Mm} (hF : X6_growRow n rf x1 x2 x3 x4 x5 h = some (rv, hz)) : Sat X yX6_growRow cX6_growRow 7 (none) (dr + 1) [.ref (xa X 246), .int x1, .int x2, .int x3, .int x4, .int x5] true o h none hz := by
  unfold X6_growRow at hF
  refine Sat.mk (own := RX6) rfl (by decide +kernel) (Nat.le_of_ble_eq_true rfl) (fun G => ?_)
  refine V.sub (lv2 := [(0, _), (1, _), (2, _), (3, _), (4, _), (5, _)]) [0, 1, 2, 3, 4, 5] rfl ?_
  refine V.iconst (v := 0) dX6_growRow_0 rfl ?_
  refine V.istore [(6, _), (0, _), (1, _), (2, _), (3, _), (4, _), (5, _)] dX6_growRow_1 (by decide) rfl ?_
  exact V.sub [1, 2, 3, 4, 5, 6, 0] rfl (v_X6_growRow_3 hdr hrf n _ _ _ _ _ _ _ hF)
/-! MonsterCot$Search.offerRow -/
theorem dX6_offerRow_0 : decode cX6_offerRow 0 = .ok (.iload_n 2, 1) := by decide +kernel
theorem dX6_offerRow_1 : decode cX6_offerRow 1 = .ok (.aload_n 0, 1) := by decide +kernel
theorem dX6_offerRow_2 : decode cX6_offerRow 2 = .ok (.getfield 42, 3) := by decide +kernel
theorem dX6_offerRow_5 : decode cX6_offerRow 5 = .ok (.if_icmp .lt 19, 3) := by decide +kernel
theorem dX6_offerRow_8 : decode cX6_offerRow 8 = .ok (.iload_n 2, 1) := by decide +kernel
theorem dX6_offerRow_9 : decode cX6_offerRow 9 = .ok (.aload_n 0, 1) := by decide +kernel
theorem dX6_offerRow_10 : decode cX6_offerRow 10 = .ok (.getfield 42, 3) := by decide +kernel
theorem dX6_offerRow_13 : decode cX6_offerRow 13 = .ok (.if_icmp .ne 21, 3) := by decide +kernel
theorem dX6_offerRow_16 : decode cX6_offerRow 16 = .ok (.iload_n 1, 1) := by decide +kernel
theorem dX6_offerRow_17 : decode cX6_offerRow 17 = .ok (.aload_n 0, 1) := by decide +kernel
theorem dX6_offerRow_18 : decode cX6_offerRow 18 = .ok (.getfield 38, 3) := by decide +kernel
theorem dX6_offerRow_21 : decode cX6_offerRow 21 = .ok (.if_icmp .ge 13, 3) := by decide +kernel
theorem dX6_offerRow_24 : decode cX6_offerRow 24 = .ok (.aload_n 0, 1) := by decide +kernel
theorem dX6_offerRow_25 : decode cX6_offerRow 25 = .ok (.iload_n 2, 1) := by decide +kernel
theorem dX6_offerRow_26 : decode cX6_offerRow 26 = .ok (.putfield 42, 3) := by decide +kernel
theorem dX6_offerRow_29 : decode cX6_offerRow 29 = .ok (.aload_n 0, 1) := by decide +kernel
theorem dX6_offerRow_30 : decode cX6_offerRow 30 = .ok (.iload_n 1, 1) := by decide +kernel
theorem dX6_offerRow_31 : decode cX6_offerRow 31 = .ok (.putfield 38, 3) := by decide +kernel
theorem dX6_offerRow_34 : decode cX6_offerRow 34 = .ok (.return_, 1) := by decide +kernel
def X6_offerRow_24 (x1 : Int32) (x2 : Int32) (h : Mm) : Option (Unit × Mm) := (some ((), (wI (wI h 246 7 x2) 246 6 x1)))
set_option maxRecDepth 100000 in
set_option maxHeartbeats 4000000 in
theorem v_X6_offerRow_24 {X : WX} {G : GX} {o : Mm} {rv : Unit} {hz : Mm} {x1 : Int32} {x2 : Int32} {h : Mm} (hF : X6_offerRow_24  x1 x2 h = some (rv, hz)) : V X G RX6 cX6_offerRow 3 (none) 1 0 0 (QR X G true o none hz) true o 24 [(0, .ref (xa X 246)), (1, .int x1), (2, .int x2)] [] h := by
  unfold X6_offerRow_24 at hF
  refine V.aload_n 0 dX6_offerRow_24 rfl rfl ?_
  refine V.iload_n 2 dX6_offerRow_25 rfl rfl ?_
  refine V.putI fl_X6_42 rfl (tyX6_ok 7 (by decide)) rfl rfl sh_246 rfl km_246 dX6_offerRow_26 ?_
  refine V.aload_n 0 dX6_offerRow_29 rfl rfl ?_
  refine V.iload_n 1 dX6_offerRow_30 rfl rfl ?_
  refine V.putI fl_X6_38 rfl (tyX6_ok 6 (by decide)) rfl rfl sh_246 rfl km_246 dX6_offerRow_31 ?_
  cases hF
  exact V.vret dX6_offerRow_34
def X6_offerRow (x1 : Int32) (x2 : Int32) (h : Mm) : Option (Unit × Mm) := (if x2 < (h.1 246 7) then (X6_offerRow_24 x1 x2 h) else (if x2 = (h.1 246 7) then (if (h.1 246 6) ≤ x1 then (some ((), h)) else (X6_offerRow_24 x1 x2 h)) else (some ((), h))))
set_option maxRecDepth 100000 in
set_option maxHeartbeats 4000000 in
theorem s_X6_offerRow {X : WX} {o : Mm} {x1 : Int32} {x2 : Int32} {rv : Unit} {hz : Mm} {h : Mm} (hF : X6_offerRow x1 x2 h = some (rv, hz)) : Sat X yX6_offerRow cX6_offerRow 3 (none) 1 [.ref (xa X 246), .int x1, .int x2] true o h none hz := by
  unfold X6_offerRow at hF
  refine Sat.mk (own := RX6) rfl (by decide +kernel) (Nat.le_of_ble_eq_true rfl) (fun G => ?_)
  refine V.sub (lv2 := [(0, _), (1, _), (2, _)]) [0, 1, 2] rfl ?_
  refine V.iload_n 2 dX6_offerRow_0 rfl rfl ?_
  refine V.aload_n 0 dX6_offerRow_1 rfl rfl ?_
  refine V.getI fl_X6_42 sh_246 rfl km_246 dX6_offerRow_2 ?_
  refine V.icmp_lt (tgt := 24) dX6_offerRow_5 rfl (fun c => ?_) (fun c => ?_)
  · replace hF := ip c hF
    exact (v_X6_offerRow_24 hF)
  · replace hF := iq c hF
    refine V.iload_n 2 dX6_offerRow_8 rfl rfl ?_
    refine V.aload_n 0 dX6_offerRow_9 rfl rfl ?_
    refine V.getI fl_X6_42 sh_246 rfl km_246 dX6_offerRow_10 ?_
    refine V.icmp_ne (tgt := 34) dX6_offerRow_13 rfl (fun c => ?_) (fun c => ?_)
    · replace hF := iq c hF
      cases hF
      exact V.vret dX6_offerRow_34
    · replace hF := ip c hF
      refine V.iload_n 1 dX6_offerRow_16 rfl rfl ?_
      refine V.aload_n 0 dX6_offerRow_17 rfl rfl ?_
      refine V.getI fl_X6_38 sh_246 rfl km_246 dX6_offerRow_18 ?_
      refine V.icmp_ge (tgt := 34) dX6_offerRow_21 rfl (fun c => ?_) (fun c => ?_)
      · replace hF := ip c hF
        cases hF
        exact V.vret dX6_offerRow_34
      · replace hF := iq c hF
        exact (v_X6_offerRow_24 hF)
/-! MonsterCot$Search.growRowBy -/
theorem dX6_growRowBy_0 : decode cX6_growRowBy 0 = .ok (.aload_n 0, 1) := by decide +kernel
theorem dX6_growRowBy_1 : decode cX6_growRowBy 1 = .ok (.getfield 28, 3) := by decide +kernel
theorem dX6_growRowBy_4 : decode cX6_growRowBy 4 = .ok (.iload_n 1, 1) := by decide +kernel
theorem dX6_growRowBy_5 : decode cX6_growRowBy 5 = .ok (.invokevirtual 72, 3) := by decide +kernel
theorem dX6_growRowBy_8 : decode cX6_growRowBy 8 = .ok (.istore 7, 2) := by decide +kernel
theorem dX6_growRowBy_10 : decode cX6_growRowBy 10 = .ok (.aload_n 0, 1) := by decide +kernel
theorem dX6_growRowBy_11 : decode cX6_growRowBy 11 = .ok (.getfield 28, 3) := by decide +kernel
theorem dX6_growRowBy_14 : decode cX6_growRowBy 14 = .ok (.iload_n 1, 1) := by decide +kernel
theorem dX6_growRowBy_15 : decode cX6_growRowBy 15 = .ok (.invokevirtual 76, 3) := by decide +kernel
theorem dX6_growRowBy_18 : decode cX6_growRowBy 18 = .ok (.istore 8, 2) := by decide +kernel
theorem dX6_growRowBy_20 : decode cX6_growRowBy 20 = .ok (.aload_n 0, 1) := by decide +kernel
theorem dX6_growRowBy_21 : decode cX6_growRowBy 21 = .ok (.getfield 9, 3) := by decide +kernel
theorem dX6_growRowBy_24 : decode cX6_growRowBy 24 = .ok (.iload 8, 2) := by decide +kernel
theorem dX6_growRowBy_26 : decode cX6_growRowBy 26 = .ok (.invokestatic 79, 3) := by decide +kernel
theorem dX6_growRowBy_29 : decode cX6_growRowBy 29 = .ok (.istore 9, 2) := by decide +kernel
theorem dX6_growRowBy_31 : decode cX6_growRowBy 31 = .ok (.aload_n 0, 1) := by decide +kernel
theorem dX6_growRowBy_32 : decode cX6_growRowBy 32 = .ok (.getfield 34, 3) := by decide +kernel
theorem dX6_growRowBy_35 : decode cX6_growRowBy 35 = .ok (.getfield 83, 3) := by decide +kernel
theorem dX6_growRowBy_38 : decode cX6_growRowBy 38 = .ok (.aload_n 0, 1) := by decide +kernel
theorem dX6_growRowBy_39 : decode cX6_growRowBy 39 = .ok (.getfield 34, 3) := by decide +kernel
theorem dX6_growRowBy_42 : decode cX6_growRowBy 42 = .ok (.getfield 86, 3) := by decide +kernel
theorem dX6_growRowBy_45 : decode cX6_growRowBy 45 = .ok (.invokestatic 79, 3) := by decide +kernel
theorem dX6_growRowBy_48 : decode cX6_growRowBy 48 = .ok (.istore 10, 2) := by decide +kernel
theorem dX6_growRowBy_50 : decode cX6_growRowBy 50 = .ok (.aload_n 0, 1) := by decide +kernel
theorem dX6_growRowBy_51 : decode cX6_growRowBy 51 = .ok (.getfield 34, 3) := by decide +kernel
theorem dX6_growRowBy_54 : decode cX6_growRowBy 54 = .ok (.getfield 89, 3) := by decide +kernel
theorem dX6_growRowBy_57 : decode cX6_growRowBy 57 = .ok (.aload_n 0, 1) := by decide +kernel
theorem dX6_growRowBy_58 : decode cX6_growRowBy 58 = .ok (.getfield 34, 3) := by decide +kernel
theorem dX6_growRowBy_61 : decode cX6_growRowBy 61 = .ok (.getfield 86, 3) := by decide +kernel
theorem dX6_growRowBy_64 : decode cX6_growRowBy 64 = .ok (.invokestatic 79, 3) := by decide +kernel
theorem dX6_growRowBy_67 : decode cX6_growRowBy 67 = .ok (.iload 5, 2) := by decide +kernel
theorem dX6_growRowBy_69 : decode cX6_growRowBy 69 = .ok (.iadd, 1) := by decide +kernel
theorem dX6_growRowBy_70 : decode cX6_growRowBy 70 = .ok (.istore 11, 2) := by decide +kernel
theorem dX6_growRowBy_72 : decode cX6_growRowBy 72 = .ok (.aload_n 0, 1) := by decide +kernel
theorem dX6_growRowBy_73 : decode cX6_growRowBy 73 = .ok (.getfield 28, 3) := by decide +kernel
theorem dX6_growRowBy_76 : decode cX6_growRowBy 76 = .ok (.aload_n 0, 1) := by decide +kernel
theorem dX6_growRowBy_77 : decode cX6_growRowBy 77 = .ok (.getfield 34, 3) := by decide +kernel
theorem dX6_growRowBy_80 : decode cX6_growRowBy 80 = .ok (.getfield 86, 3) := by decide +kernel
theorem dX6_growRowBy_83 : decode cX6_growRowBy 83 = .ok (.invokevirtual 92, 3) := by decide +kernel
theorem dX6_growRowBy_86 : decode cX6_growRowBy 86 = .ok (.iload 11, 2) := by decide +kernel
theorem dX6_growRowBy_88 : decode cX6_growRowBy 88 = .ok (.isub, 1) := by decide +kernel
theorem dX6_growRowBy_89 : decode cX6_growRowBy 89 = .ok (.aload_n 0, 1) := by decide +kernel
theorem dX6_growRowBy_90 : decode cX6_growRowBy 90 = .ok (.getfield 28, 3) := by decide +kernel
theorem dX6_growRowBy_93 : decode cX6_growRowBy 93 = .ok (.iload_n 1, 1) := by decide +kernel
theorem dX6_growRowBy_94 : decode cX6_growRowBy 94 = .ok (.invokevirtual 95, 3) := by decide +kernel
theorem dX6_growRowBy_97 : decode cX6_growRowBy 97 = .ok (.invokestatic 98, 3) := by decide +kernel
theorem dX6_growRowBy_100 : decode cX6_growRowBy 100 = .ok (.istore 12, 2) := by decide +kernel
theorem dX6_growRowBy_102 : decode cX6_growRowBy 102 = .ok (.aload_n 0, 1) := by decide +kernel
theorem dX6_growRowBy_103 : decode cX6_growRowBy 103 = .ok (.getfield 28, 3) := by decide +kernel
theorem dX6_growRowBy_106 : decode cX6_growRowBy 106 = .ok (.invokevirtual 104, 3) := by decide +kernel
theorem dX6_growRowBy_109 : decode cX6_growRowBy 109 = .ok (.istore 13, 2) := by decide +kernel
theorem dX6_growRowBy_111 : decode cX6_growRowBy 111 = .ok (.iload 6, 2) := by decide +kernel
theorem dX6_growRowBy_113 : decode cX6_growRowBy 113 = .ok (.istore 14, 2) := by decide +kernel
theorem dX6_growRowBy_115 : decode cX6_growRowBy 115 = .ok (.iconst 0, 1) := by decide +kernel
theorem dX6_growRowBy_116 : decode cX6_growRowBy 116 = .ok (.istore 15, 2) := by decide +kernel
theorem dX6_growRowBy_118 : decode cX6_growRowBy 118 = .ok (.iload 15, 2) := by decide +kernel
theorem dX6_growRowBy_120 : decode cX6_growRowBy 120 = .ok (.iload 12, 2) := by decide +kernel
theorem dX6_growRowBy_122 : decode cX6_growRowBy 122 = .ok (.if_icmp .ge 143, 3) := by decide +kernel
theorem dX6_growRowBy_125 : decode cX6_growRowBy 125 = .ok (.iload 5, 2) := by decide +kernel
theorem dX6_growRowBy_127 : decode cX6_growRowBy 127 = .ok (.iload 15, 2) := by decide +kernel
theorem dX6_growRowBy_129 : decode cX6_growRowBy 129 = .ok (.iadd, 1) := by decide +kernel
theorem dX6_growRowBy_130 : decode cX6_growRowBy 130 = .ok (.aload_n 0, 1) := by decide +kernel
theorem dX6_growRowBy_131 : decode cX6_growRowBy 131 = .ok (.getfield 42, 3) := by decide +kernel
theorem dX6_growRowBy_134 : decode cX6_growRowBy 134 = .ok (.if_icmp .ge 131, 3) := by decide +kernel
theorem dX6_growRowBy_137 : decode cX6_growRowBy 137 = .ok (.iload 14, 2) := by decide +kernel
theorem dX6_growRowBy_139 : decode cX6_growRowBy 139 = .ok (.aload_n 0, 1) := by decide +kernel
theorem dX6_growRowBy_140 : decode cX6_growRowBy 140 = .ok (.getfield 33, 3) := by decide +kernel
theorem dX6_growRowBy_143 : decode cX6_growRowBy 143 = .ok (.iload 7, 2) := by decide +kernel
theorem dX6_growRowBy_145 : decode cX6_growRowBy 145 = .ok (.iload 10, 2) := by decide +kernel
theorem dX6_growRowBy_147 : decode cX6_growRowBy 147 = .ok (.iload 9, 2) := by decide +kernel
theorem dX6_growRowBy_149 : decode cX6_growRowBy 149 = .ok (.iload 15, 2) := by decide +kernel
theorem dX6_growRowBy_151 : decode cX6_growRowBy 151 = .ok (.aload_n 0, 1) := by decide +kernel
theorem dX6_growRowBy_152 : decode cX6_growRowBy 152 = .ok (.getfield 34, 3) := by decide +kernel
theorem dX6_growRowBy_155 : decode cX6_growRowBy 155 = .ok (.getfield 107, 3) := by decide +kernel
theorem dX6_growRowBy_158 : decode cX6_growRowBy 158 = .ok (.iload 11, 2) := by decide +kernel
theorem dX6_growRowBy_160 : decode cX6_growRowBy 160 = .ok (.iload 15, 2) := by decide +kernel
theorem dX6_growRowBy_162 : decode cX6_growRowBy 162 = .ok (.iadd, 1) := by decide +kernel
theorem dX6_growRowBy_163 : decode cX6_growRowBy 163 = .ok (.invokevirtual 110, 3) := by decide +kernel
theorem dX6_growRowBy_166 : decode cX6_growRowBy 166 = .ok (.iadd, 1) := by decide +kernel
theorem dX6_growRowBy_167 : decode cX6_growRowBy 167 = .ok (.invokestatic 116, 3) := by decide +kernel
theorem dX6_growRowBy_170 : decode cX6_growRowBy 170 = .ok (.istore 14, 2) := by decide +kernel
theorem dX6_growRowBy_172 : decode cX6_growRowBy 172 = .ok (.iload 4, 2) := by decide +kernel
theorem dX6_growRowBy_174 : decode cX6_growRowBy 174 = .ok (.bipush 100, 2) := by decide +kernel
theorem dX6_growRowBy_176 : decode cX6_growRowBy 176 = .ok (.imul, 1) := by decide +kernel
theorem dX6_growRowBy_177 : decode cX6_growRowBy 177 = .ok (.iload_n 1, 1) := by decide +kernel
theorem dX6_growRowBy_178 : decode cX6_growRowBy 178 = .ok (.bipush 10, 2) := by decide +kernel
theorem dX6_growRowBy_180 : decode cX6_growRowBy 180 = .ok (.imul, 1) := by decide +kernel
theorem dX6_growRowBy_181 : decode cX6_growRowBy 181 = .ok (.iadd, 1) := by decide +kernel
theorem dX6_growRowBy_182 : decode cX6_growRowBy 182 = .ok (.iload 15, 2) := by decide +kernel
theorem dX6_growRowBy_184 : decode cX6_growRowBy 184 = .ok (.iadd, 1) := by decide +kernel
theorem dX6_growRowBy_185 : decode cX6_growRowBy 185 = .ok (.iconst 1, 1) := by decide +kernel
theorem dX6_growRowBy_186 : decode cX6_growRowBy 186 = .ok (.iadd, 1) := by decide +kernel
theorem dX6_growRowBy_187 : decode cX6_growRowBy 187 = .ok (.istore 16, 2) := by decide +kernel
theorem dX6_growRowBy_189 : decode cX6_growRowBy 189 = .ok (.iload 14, 2) := by decide +kernel
theorem dX6_growRowBy_191 : decode cX6_growRowBy 191 = .ok (.iload 13, 2) := by decide +kernel
theorem dX6_growRowBy_193 : decode cX6_growRowBy 193 = .ok (.if_icmp .lt 17, 3) := by decide +kernel
theorem dX6_growRowBy_196 : decode cX6_growRowBy 196 = .ok (.aload_n 0, 1) := by decide +kernel
theorem dX6_growRowBy_197 : decode cX6_growRowBy 197 = .ok (.iload 16, 2) := by decide +kernel
theorem dX6_growRowBy_199 : decode cX6_growRowBy 199 = .ok (.iload 5, 2) := by decide +kernel
theorem dX6_growRowBy_201 : decode cX6_growRowBy 201 = .ok (.iload 15, 2) := by decide +kernel
theorem dX6_growRowBy_203 : decode cX6_growRowBy 203 = .ok (.iadd, 1) := by decide +kernel
theorem dX6_growRowBy_204 : decode cX6_growRowBy 204 = .ok (.iconst 1, 1) := by decide +kernel
theorem dX6_growRowBy_205 : decode cX6_growRowBy 205 = .ok (.iadd, 1) := by decide +kernel
theorem dX6_growRowBy_206 : decode cX6_growRowBy 206 = .ok (.invokevirtual 119, 3) := by decide +kernel
theorem dX6_growRowBy_209 : decode cX6_growRowBy 209 = .ok (.return_, 1) := by decide +kernel
theorem dX6_growRowBy_210 : decode cX6_growRowBy 210 = .ok (.iload_n 2, 1) := by decide +kernel
theorem dX6_growRowBy_211 : decode cX6_growRowBy 211 = .ok (.iconst 3, 1) := by decide +kernel
theorem dX6_growRowBy_212 : decode cX6_growRowBy 212 = .ok (.if_icmp .ge 47, 3) := by decide +kernel
theorem dX6_growRowBy_215 : decode cX6_growRowBy 215 = .ok (.aload_n 0, 1) := by decide +kernel
theorem dX6_growRowBy_216 : decode cX6_growRowBy 216 = .ok (.getfield 9, 3) := by decide +kernel
theorem dX6_growRowBy_219 : decode cX6_growRowBy 219 = .ok (.iload 8, 2) := by decide +kernel
theorem dX6_growRowBy_221 : decode cX6_growRowBy 221 = .ok (.iload 9, 2) := by decide +kernel
theorem dX6_growRowBy_223 : decode cX6_growRowBy 223 = .ok (.invokestatic 123, 3) := by decide +kernel
theorem dX6_growRowBy_226 : decode cX6_growRowBy 226 = .ok (.invokestatic 126, 3) := by decide +kernel
theorem dX6_growRowBy_229 : decode cX6_growRowBy 229 = .ok (.aload_n 0, 1) := by decide +kernel
theorem dX6_growRowBy_230 : decode cX6_growRowBy 230 = .ok (.iload_n 2, 1) := by decide +kernel
theorem dX6_growRowBy_231 : decode cX6_growRowBy 231 = .ok (.iconst 1, 1) := by decide +kernel
theorem dX6_growRowBy_232 : decode cX6_growRowBy 232 = .ok (.iadd, 1) := by decide +kernel
theorem dX6_growRowBy_233 : decode cX6_growRowBy 233 = .ok (.iload_n 3, 1) := by decide +kernel
theorem dX6_growRowBy_234 : decode cX6_growRowBy 234 = .ok (.iload 16, 2) := by decide +kernel
theorem dX6_growRowBy_236 : decode cX6_growRowBy 236 = .ok (.iload 5, 2) := by decide +kernel
theorem dX6_growRowBy_238 : decode cX6_growRowBy 238 = .ok (.iload 15, 2) := by decide +kernel
theorem dX6_growRowBy_240 : decode cX6_growRowBy 240 = .ok (.iadd, 1) := by decide +kernel
theorem dX6_growRowBy_241 : decode cX6_growRowBy 241 = .ok (.iconst 1, 1) := by decide +kernel
theorem dX6_growRowBy_242 : decode cX6_growRowBy 242 = .ok (.iadd, 1) := by decide +kernel
theorem dX6_growRowBy_243 : decode cX6_growRowBy 243 = .ok (.iload 14, 2) := by decide +kernel
theorem dX6_growRowBy_245 : decode cX6_growRowBy 245 = .ok (.invokevirtual 55, 3) := by decide +kernel
theorem dX6_growRowBy_248 : decode cX6_growRowBy 248 = .ok (.aload_n 0, 1) := by decide +kernel
theorem dX6_growRowBy_249 : decode cX6_growRowBy 249 = .ok (.getfield 9, 3) := by decide +kernel
theorem dX6_growRowBy_252 : decode cX6_growRowBy 252 = .ok (.iload 8, 2) := by decide +kernel
theorem dX6_growRowBy_254 : decode cX6_growRowBy 254 = .ok (.iload 9, 2) := by decide +kernel
theorem dX6_growRowBy_256 : decode cX6_growRowBy 256 = .ok (.invokestatic 126, 3) := by decide +kernel
theorem dX6_growRowBy_259 : decode cX6_growRowBy 259 = .ok (.iinc 15 1, 3) := by decide +kernel
theorem dX6_growRowBy_262 : decode cX6_growRowBy 262 = .ok (.goto (-144), 3) := by decide +kernel
theorem dX6_growRowBy_265 : decode cX6_growRowBy 265 = .ok (.return_, 1) := by decide +kernel
def X6_growRowBy_259 (n : Nat) (rf : Int32 → Int32 → Int32 → Int32 → Int32 → Int32 → Mm → Option (Unit × Mm)) (K118 : Int32 → Int32 → Int32 → Int32 → Int32 → Int32 → Int32 → Int32 → Int32 → Int32 → Int32 → Int32 → Int32 → Int32 → Mm → Option (Unit × Mm)) (x1 : Int32) (x2 : Int32) (x3 : Int32) (x4 : Int32) (x5 : Int32) (x7 : Int32) (x8 : Int32) (x9 : Int32) (x10 : Int32) (x11 : Int32) (x12 : Int32) (x13 : Int32) (x14 : Int32) (x15 : Int32) (h : Mm) : Option (Unit × Mm) := (K118 x1 x2 x3 x4 x5 x7 x8 x9 x10 x11 x12 x13 x14 (x15 + (1)) h)
set_option maxRecDepth 100000 in
set_option maxHeartbeats 4000000 in
theorem v_X6_growRowBy_259 {X : WX} {G : GX} {o : Mm} {n : Nat} {rf : Int32 → Int32 → Int32 → Int32 → Int32 → Int32 → Mm → Option (Unit × Mm)} {dr : Nat} (hdr : 6 ≤ dr) (hrf : ∀ (x1 : Int32) (x2 : Int32) (x3 : Int32) (x4 : Int32) (x5 : Int32) (x6 : Int32)  (h : Mm) (r : Unit) (h2 : Mm), rf x1 x2 x3 x4 x5 x6 h = some (r, h2) → Sat X yX6_growRowBy cX6_growRowBy 17 (none) dr [.ref (xa X 246), .int x1, .int x2, .int x3, .int x4, .int x5, .int x6] true o h none h2) {DD : Nat} (hDD : dr + 2 ≤ DD) {K118 : Int32 → Int32 → Int32 → Int32 → Int32 → Int32 → Int32 → Int32 → Int32 → Int32 → Int32 → Int32 → Int32 → Int32 → Mm → Option (Unit × Mm)} {rv : Unit} {hz : Mm} (hK118 : ∀ (x1 : Int32) (x2 : Int32) (x3 : Int32) (x4 : Int32) (x5 : Int32) (x7 : Int32) (x8 : Int32) (x9 : Int32) (x10 : Int32) (x11 : Int32) (x12 : Int32) (x13 : Int32) (x14 : Int32) (x15 : Int32) (h : Mm), K118 x1 x2 x3 x4 x5 x7 x8 x9 x10 x11 x12 x13 x14 x15 h = some (rv, hz) → V X G RX6 cX6_growRowBy 17 (none) DD 0 0 (QR X G true o none hz) true o 118 [(0, .ref (xa X 246)), (1, .int x1), (2, .int x2), (3, .int x3), (4, .int x4), (5, .int x5), (7, .int x7), (8, .int x8), (9, .int x9), (10, .int x10), (11, .int x11), (12, .int x12), (13, .int x13), (14, .int x14), (15, .int x15)] [] h) {x1 : Int32} {x2 : Int32} {x3 : Int32} {x4 : Int32} {x5 : Int32} {x7 : Int32} {x8 : Int32} {x9 : Int32} {x10 : Int32} {x11 : Int32} {x12 : Int32} {x13 : Int32} {x14 : Int32} {x15 : Int32} {h : Mm} (hF : X6_growRowBy_259 n rf K118 x1 x2 x3 x4 x5 x7 x8 x9 x10 x11 x12 x13 x14 x15 h = some (rv, hz)) : V X G RX6 cX6_growRowBy 17 (none) DD 0 0 (QR X G true o none hz) true o 259 [(0, .ref (xa X 246)), (1, .int x1), (2, .int x2), (3, .int x3), (4, .int x4), (5, .int x5), (7, .int x7), (8, .int x8), (9, .int x9), (10, .int x10), (11, .int x11), (12, .int x12), (13, .int x13), (14, .int x14), (15, .int x15)] [] h := by
  unfold X6_growRowBy_259 at hF
  refine V.iinc (v := (x15 + (1))) 14 [(15, _), (0, _), (1, _), (2, _), (3, _), (4, _), (5, _), (7, _), (8, _), (9, _), (10, _), (11, _), (12, _), (13, _), (14, _)] dX6_growRowBy_259 rfl rfl (by decide) rfl ?_
  refine V.goto (tgt := 118) dX6_growRowBy_262 rfl ?_
  exact V.sub [1, 2, 3, 4, 5, 6, 7, 8, 9, 10, 11, 12, 13, 14, 0] rfl (hK118 _ _ _ _ _ _ _ _ _ _ _ _ _ _ _ hF)
def X6_growRowBy_118 (n : Nat) (rf : Int32 → Int32 → Int32 → Int32 → Int32 → Int32 → Mm → Option (Unit × Mm)) : Nat → Int32 → Int32 → Int32 → Int32 → Int32 → Int32 → Int32 → Int32 → Int32 → Int32 → Int32 → Int32 → Int32 → Int32 → Mm → Option (Unit × Mm)
  | 0, _, _, _, _, _, _, _, _, _, _, _, _, _, _, _ => none
  | f + 1, x1, x2, x3, x4, x5, x7, x8, x9, x10, x11, x12, x13, x14, x15, h => (if x12 ≤ x15 then (some ((), h)) else (if (h.1 246 7) ≤ (x5 + x15) then (some ((), h)) else (bd (X4_worthOf n x7 x10 x9 x15 (h.1 27 6) (x11 + x15) h) (fun r149 h151 => (bp (X11_heldCalm (x14 + r149) h151) (fun r152 => (if r152 < x13 then (if (3 : Int32) ≤ x2 then (X6_growRowBy_259 n rf (X6_growRowBy_118 n rf f) x1 x2 x3 x4 x5 x7 x8 x9 x10 x11 x12 x13 r152 x15 h151) else (bp (X9_moreBored x9 h151) (fun r154 => (bd (X11_put 247 x8 r154 h151) (fun _ h158 => (bd (X6_growRow n rf (x2 + (1 : Int32)) x3 ((((x4 * (100 : Int32)) + (x1 * (10 : Int32))) + x15) + (1 : Int32)) ((x5 + x15) + (1 : Int32)) r152 h158) (fun _ h161 => (bd (X11_put 247 x8 x9 h161) (fun _ h164 => (X6_growRowBy_259 n rf (X6_growRowBy_118 n rf f) x1 x2 x3 x4 x5 x7 x8 x9 x10 x11 x12 x13 r152 x15 h164)))))))))) else (bd (X6_offerRow ((((x4 * (100 : Int32)) + (x1 * (10 : Int32))) + x15) + (1 : Int32)) ((x5 + x15) + (1 : Int32)) h151) (fun _ h167 => (some ((), h167)))))))))))
set_option maxRecDepth 100000 in
set_option maxHeartbeats 4000000 in
theorem v_X6_growRowBy_118 {X : WX} {G : GX} {o : Mm} {n : Nat} {rf : Int32 → Int32 → Int32 → Int32 → Int32 → Int32 → Mm → Option (Unit × Mm)} {dr : Nat} (hdr : 6 ≤ dr) (hrf : ∀ (x1 : Int32) (x2 : Int32) (x3 : Int32) (x4 : Int32) (x5 : Int32) (x6 : Int32)  (h : Mm) (r : Unit) (h2 : Mm), rf x1 x2 x3 x4 x5 x6 h = some (r, h2) → Sat X yX6_growRowBy cX6_growRowBy 17 (none) dr [.ref (xa X 246), .int x1, .int x2, .int x3, .int x4, .int x5, .int x6] true o h none h2) {DD : Nat} (hDD : dr + 2 ≤ DD) {rv : Unit} {hz : Mm} : ∀ (f : Nat) (x1 : Int32) (x2 : Int32) (x3 : Int32) (x4 : Int32) (x5 : Int32) (x7 : Int32) (x8 : Int32) (x9 : Int32) (x10 : Int32) (x11 : Int32) (x12 : Int32) (x13 : Int32) (x14 : Int32) (x15 : Int32) (h : Mm), X6_growRowBy_118 n rf f x1 x2 x3 x4 x5 x7 x8 x9 x10 x11 x12 x13 x14 x15 h = some (rv, hz) → V X G RX6 cX6_growRowBy 17 (none) DD 0 0 (QR X G true o none hz) true o 118 [(0, .ref (xa X 246)), (1, .int x1), (2, .int x2), (3, .int x3), (4, .int x4), (5, .int x5), (7, .int x7), (8, .int x8), (9, .int x9), (10, .int x10), (11, .int x11), (12, .int x12), (13, .int x13), (14, .int x14), (15, .int x15)] [] h := by
  intro f
  induction f with
  | zero => intro x1 x2 x3 x4 x5 x7 x8 x9 x10 x11 x12 x13 x14 x15 h hF; exact nomatch (show (none : Option (Unit × Mm)) = some (rv, hz) from hF)
  | succ f ih =>
    intro x1 x2 x3 x4 x5 x7 x8 x9 x10 x11 x12 x13 x14 x15 h hF
    unfold X6_growRowBy_118 at hF
    refine V.iload 14 dX6_growRowBy_118 rfl ?_
    refine V.iload 11 dX6_growRowBy_120 rfl ?_
    refine V.icmp_ge (tgt := 265) dX6_growRowBy_122 rfl (fun c => ?_) (fun c => ?_)
    · replace hF := ip c hF
      cases hF
      exact V.vret dX6_growRowBy_265
    · replace hF := iq c hF
      refine V.iload 5 dX6_growRowBy_125 rfl ?_
      refine V.iload 14 dX6_growRowBy_127 rfl ?_
      refine V.iadd dX6_growRowBy_129 ?_
      refine V.aload_n 0 dX6_growRowBy_130 rfl rfl ?_
      refine V.getI fl_X6_42 sh_246 rfl km_246 dX6_growRowBy_131 ?_
      refine V.icmp_ge (tgt := 265) dX6_growRowBy_134 rfl (fun c => ?_) (fun c => ?_)
      · replace hF := ip c hF
        cases hF
        exact V.vret dX6_growRowBy_265
      · replace hF := iq c hF
        refine V.iload 13 dX6_growRowBy_137 rfl ?_
        refine V.aload_n 0 dX6_growRowBy_139 rfl rfl ?_
        refine V.getR (v := 16) fl_X6_33 sh_246 rfl fx_246_2 (by decide) dX6_growRowBy_140 ?_
        refine V.iload 6 dX6_growRowBy_143 rfl ?_
        refine V.iload 9 dX6_growRowBy_145 rfl ?_
        refine V.iload 8 dX6_growRowBy_147 rfl ?_
        refine V.iload 14 dX6_growRowBy_149 rfl ?_
        refine V.aload_n 0 dX6_growRowBy_151 rfl rfl ?_
        refine V.getR (v := 27) fl_X6_34 sh_246 rfl fx_246_3 (by decide) dX6_growRowBy_152 ?_
        refine V.getI fl_X6_107 sh_27 rfl km_27 dX6_growRowBy_155 ?_
        refine V.iload 10 dX6_growRowBy_158 rfl ?_
        refine V.iload 14 dX6_growRowBy_160 rfl ?_
        refine V.iadd dX6_growRowBy_162 ?_
        obtain ⟨r149, h151, hc150, hF⟩ := bd_s hF
        refine V.callVi mf_X4_worthOf ml_X6_110 sh_16 (s_X4_worthOf hc150) (by omega) rfl rfl (Nat.le_of_ble_eq_true rfl) dX6_growRowBy_163 ?_
        refine V.iadd dX6_growRowBy_166 ?_
        obtain ⟨r152, hc153, hF⟩ := bp_s hF
        refine V.callNi mf_X11_heldCalm ml_X6_116 (s_X11_heldCalm hc153) (by omega) rfl rfl (Nat.le_of_ble_eq_true rfl) dX6_growRowBy_167 ?_
        refine V.istore [(14, _), (0, _), (1, _), (2, _), (3, _), (4, _), (5, _), (7, _), (8, _), (9, _), (10, _), (11, _), (12, _), (13, _), (15, _)] dX6_growRowBy_170 (by decide) rfl ?_
        refine V.iload 5 dX6_growRowBy_172 rfl ?_
        refine V.bipush (v := 100) dX6_growRowBy_174 (by decide) ?_
        refine V.imul dX6_growRowBy_176 ?_
        refine V.iload_n 2 dX6_growRowBy_177 rfl rfl ?_
        refine V.bipush (v := 10) dX6_growRowBy_178 (by decide) ?_
        refine V.imul dX6_growRowBy_180 ?_
        refine V.iadd dX6_growRowBy_181 ?_
        refine V.iload 14 dX6_growRowBy_182 rfl ?_
        refine V.iadd dX6_growRowBy_184 ?_
        refine V.iconst (v := 1) dX6_growRowBy_185 rfl ?_
        refine V.iadd dX6_growRowBy_186 ?_
        refine V.istore [(16, _), (14, _), (0, _), (1, _), (2, _), (3, _), (4, _), (5, _), (7, _), (8, _), (9, _), (10, _), (11, _), (12, _), (13, _), (15, _)] dX6_growRowBy_187 (by decide) rfl ?_
        refine V.iload 1 dX6_growRowBy_189 rfl ?_
        refine V.iload 14 dX6_growRowBy_191 rfl ?_
        refine V.icmp_lt (tgt := 210) dX6_growRowBy_193 rfl (fun c => ?_) (fun c => ?_)
        · replace hF := ip c hF
          refine V.iload_n 4 dX6_growRowBy_210 rfl rfl ?_
          refine V.iconst (v := 3) dX6_growRowBy_211 rfl ?_
          refine V.icmp_ge (tgt := 259) dX6_growRowBy_212 rfl (fun c => ?_) (fun c => ?_)
          · replace hF := ip c hF
            exact V.sub [2, 3, 4, 5, 6, 7, 8, 9, 10, 11, 12, 13, 14, 1, 15] rfl (v_X6_growRowBy_259 hdr hrf hDD ih hF)
          · replace hF := iq c hF
            refine V.aload_n 2 dX6_growRowBy_215 rfl rfl ?_
            refine V.getR (v := 247) fl_X6_9 sh_246 rfl fx_246_4 (by decide) dX6_growRowBy_216 ?_
            refine V.iload 9 dX6_growRowBy_219 rfl ?_
            refine V.iload 10 dX6_growRowBy_221 rfl ?_
            obtain ⟨r154, hc155, hF⟩ := bp_s hF
            refine V.callSi mf_X9_moreBored ml_X6_123 (s_X9_moreBored hc155) (by omega) rfl rfl (Nat.le_of_ble_eq_true rfl) dX6_growRowBy_223 ?_
            obtain ⟨r156, h158, hc157, hF⟩ := bd_s hF
            refine V.callNv mf_X11_put ml_X6_126 (s_X11_put io_247 hc157) (by omega) rfl rfl (Nat.le_of_ble_eq_true rfl) dX6_growRowBy_226 ?_
            refine V.aload_n 2 dX6_growRowBy_229 rfl rfl ?_
            refine V.iload_n 4 dX6_growRowBy_230 rfl rfl ?_
            refine V.iconst (v := 1) dX6_growRowBy_231 rfl ?_
            refine V.iadd dX6_growRowBy_232 ?_
            refine V.iload_n 5 dX6_growRowBy_233 rfl rfl ?_
            refine V.iload 0 dX6_growRowBy_234 rfl ?_
            refine V.iload 7 dX6_growRowBy_236 rfl ?_
            refine V.iload 15 dX6_growRowBy_238 rfl ?_
            refine V.iadd dX6_growRowBy_240 ?_
            refine V.iconst (v := 1) dX6_growRowBy_241 rfl ?_
            refine V.iadd dX6_growRowBy_242 ?_
            refine V.iload 1 dX6_growRowBy_243 rfl ?_
            obtain ⟨r159, h161, hc160, hF⟩ := bd_s hF
            refine V.callVv mf_X6_growRow ml_X6_55 sh_246 (s_X6_growRow hdr hrf hc160) (by omega) rfl rfl (Nat.le_of_ble_eq_true rfl) dX6_growRowBy_245 ?_
            refine V.aload_n 2 dX6_growRowBy_248 rfl rfl ?_
            refine V.getR (v := 247) fl_X6_9 sh_246 rfl fx_246_4 (by decide) dX6_growRowBy_249 ?_
            refine V.iload 9 dX6_growRowBy_252 rfl ?_
            refine V.iload 10 dX6_growRowBy_254 rfl ?_
            obtain ⟨r162, h164, hc163, hF⟩ := bd_s hF
            refine V.callNv mf_X11_put ml_X6_126 (s_X11_put io_247 hc163) (by omega) rfl rfl (Nat.le_of_ble_eq_true rfl) dX6_growRowBy_256 ?_
            exact V.sub [2, 3, 4, 5, 6, 7, 8, 9, 10, 11, 12, 13, 14, 1, 15] rfl (v_X6_growRowBy_259 hdr hrf hDD ih hF)
        · replace hF := iq c hF
          refine V.aload_n 2 dX6_growRowBy_196 rfl rfl ?_
          refine V.iload 0 dX6_growRowBy_197 rfl ?_
          refine V.iload 7 dX6_growRowBy_199 rfl ?_
          refine V.iload 15 dX6_growRowBy_201 rfl ?_
          refine V.iadd dX6_growRowBy_203 ?_
          refine V.iconst (v := 1) dX6_growRowBy_204 rfl ?_
          refine V.iadd dX6_growRowBy_205 ?_
          obtain ⟨r165, h167, hc166, hF⟩ := bd_s hF
          refine V.callVv mf_X6_offerRow ml_X6_119 sh_246 (s_X6_offerRow hc166) (by omega) rfl rfl (Nat.le_of_ble_eq_true rfl) dX6_growRowBy_206 ?_
          cases hF
          exact V.vret dX6_growRowBy_209
def X6_growRowBy_b (n : Nat) (rf : Int32 → Int32 → Int32 → Int32 → Int32 → Int32 → Mm → Option (Unit × Mm)) (x1 : Int32) (x2 : Int32) (x3 : Int32) (x4 : Int32) (x5 : Int32) (x6 : Int32) (h : Mm) : Option (Unit × Mm) := (bp (X1_calmingOf 13 x1 h) (fun r168 => (bp (X1_kindOf 13 x1 h) (fun r170 => (bp (X11_at 247 r170 h) (fun r172 => (bp (X11_at 30 (h.1 27 5) h) (fun r174 => (bp (X11_at 29 (h.1 27 5) h) (fun r176 => (bp (X1_strengthOf 13 (h.1 27 5) h) (fun r178 => (bp (X1_pagesOf 13 x1 h) (fun r180 => (bp (J9_min_7cf53 (r178 - (r176 + x5)) r180 h) (fun r182 => (bp (X1_enough 13 h) (fun r184 => (X6_growRowBy_118 n rf n x1 x2 x3 x4 x5 r168 r170 r172 r174 (r176 + x5) r182 r184 x6 (0 : Int32) h)))))))))))))))))))
set_option maxRecDepth 100000 in
set_option maxHeartbeats 4000000 in
theorem s_X6_growRowBy_b {X : WX} {o : Mm} {n : Nat} {rf : Int32 → Int32 → Int32 → Int32 → Int32 → Int32 → Mm → Option (Unit × Mm)} {dr : Nat} (hdr : 6 ≤ dr) (hrf : ∀ (x1 : Int32) (x2 : Int32) (x3 : Int32) (x4 : Int32) (x5 : Int32) (x6 : Int32)  (h : Mm) (r : Unit) (h2 : Mm), rf x1 x2 x3 x4 x5 x6 h = some (r, h2) → Sat X yX6_growRowBy cX6_growRowBy 17 (none) dr [.ref (xa X 246), .int x1, .int x2, .int x3, .int x4, .int x5, .int x6] true o h none h2) {DD : Nat} (hDD : dr + 2 ≤ DD) {x1 : Int32} {x2 : Int32} {x3 : Int32} {x4 : Int32} {x5 : Int32} {x6 : Int32} {rv : Unit} {hz : Mm} {h : Mm} (hF : X6_growRowBy_b n rf x1 x2 x3 x4 x5 x6 h = some (rv, hz)) : Sat X yX6_growRowBy cX6_growRowBy 17 (none) DD [.ref (xa X 246), .int x1, .int x2, .int x3, .int x4, .int x5, .int x6] true o h none hz := by
  unfold X6_growRowBy_b at hF
  refine Sat.mk (own := RX6) rfl (by decide +kernel) (Nat.le_of_ble_eq_true rfl) (fun G => ?_)
  refine V.sub (lv2 := [(0, _), (1, _), (2, _), (3, _), (4, _), (5, _), (6, _)]) [0, 1, 2, 3, 4, 5, 6] rfl ?_
  refine V.aload_n 0 dX6_growRowBy_0 rfl rfl ?_
  refine V.getR (v := 13) fl_X6_28 sh_246 rfl fx_246_1 (by decide) dX6_growRowBy_1 ?_
  refine V.iload_n 1 dX6_growRowBy_4 rfl rfl ?_
  obtain ⟨r168, hc169, hF⟩ := bp_s hF
  refine V.callVi mf_X1_calmingOf ml_X6_72 sh_13 (s_X1_calmingOf (Or.inr rfl) hc169) (by omega) rfl rfl (Nat.le_of_ble_eq_true rfl) dX6_growRowBy_5 ?_
  refine V.istore [(7, _), (0, _), (1, _), (2, _), (3, _), (4, _), (5, _), (6, _)] dX6_growRowBy_8 (by decide) rfl ?_
  refine V.aload_n 1 dX6_growRowBy_10 rfl rfl ?_
  refine V.getR (v := 13) fl_X6_28 sh_246 rfl fx_246_1 (by decide) dX6_growRowBy_11 ?_
  refine V.iload_n 2 dX6_growRowBy_14 rfl rfl ?_
  obtain ⟨r170, hc171, hF⟩ := bp_s hF
  refine V.callVi mf_X1_kindOf ml_X6_76 sh_13 (s_X1_kindOf (Or.inr rfl) hc171) (by omega) rfl rfl (Nat.le_of_ble_eq_true rfl) dX6_growRowBy_15 ?_
  refine V.istore [(8, _), (7, _), (0, _), (1, _), (2, _), (3, _), (4, _), (5, _), (6, _)] dX6_growRowBy_18 (by decide) rfl ?_
  refine V.aload_n 2 dX6_growRowBy_20 rfl rfl ?_
  refine V.getR (v := 247) fl_X6_9 sh_246 rfl fx_246_4 (by decide) dX6_growRowBy_21 ?_
  refine V.iload 0 dX6_growRowBy_24 rfl ?_
  obtain ⟨r172, hc173, hF⟩ := bp_s hF
  refine V.callNi mf_X11_at ml_X6_79 (s_X11_at (Or.inl io_247) hc173) (by omega) rfl rfl (Nat.le_of_ble_eq_true rfl) dX6_growRowBy_26 ?_
  refine V.istore [(9, _), (8, _), (7, _), (0, _), (1, _), (2, _), (3, _), (4, _), (5, _), (6, _)] dX6_growRowBy_29 (by decide) rfl ?_
  refine V.aload_n 3 dX6_growRowBy_31 rfl rfl ?_
  refine V.getR (v := 27) fl_X6_34 sh_246 rfl fx_246_3 (by decide) dX6_growRowBy_32 ?_
  refine V.getR (v := 30) fl_X6_83 sh_27 rfl fx_27_2 (by decide) dX6_growRowBy_35 ?_
  refine V.aload_n 3 dX6_growRowBy_38 rfl rfl ?_
  refine V.getR (v := 27) fl_X6_34 sh_246 rfl fx_246_3 (by decide) dX6_growRowBy_39 ?_
  refine V.getI fl_X6_86 sh_27 rfl km_27 dX6_growRowBy_42 ?_
  obtain ⟨r174, hc175, hF⟩ := bp_s hF
  refine V.callNi mf_X11_at ml_X6_79 (s_X11_at (Or.inl io_30) hc175) (by omega) rfl rfl (Nat.le_of_ble_eq_true rfl) dX6_growRowBy_45 ?_
  refine V.istore [(10, _), (9, _), (8, _), (7, _), (0, _), (1, _), (2, _), (3, _), (4, _), (5, _), (6, _)] dX6_growRowBy_48 (by decide) rfl ?_
  refine V.aload_n 4 dX6_growRowBy_50 rfl rfl ?_
  refine V.getR (v := 27) fl_X6_34 sh_246 rfl fx_246_3 (by decide) dX6_growRowBy_51 ?_
  refine V.getR (v := 29) fl_X6_89 sh_27 rfl fx_27_1 (by decide) dX6_growRowBy_54 ?_
  refine V.aload_n 4 dX6_growRowBy_57 rfl rfl ?_
  refine V.getR (v := 27) fl_X6_34 sh_246 rfl fx_246_3 (by decide) dX6_growRowBy_58 ?_
  refine V.getI fl_X6_86 sh_27 rfl km_27 dX6_growRowBy_61 ?_
  obtain ⟨r176, hc177, hF⟩ := bp_s hF
  refine V.callNi mf_X11_at ml_X6_79 (s_X11_at (Or.inl io_29) hc177) (by omega) rfl rfl (Nat.le_of_ble_eq_true rfl) dX6_growRowBy_64 ?_
  refine V.iload 9 dX6_growRowBy_67 rfl ?_
  refine V.iadd dX6_growRowBy_69 ?_
  refine V.istore [(11, _), (10, _), (9, _), (8, _), (7, _), (0, _), (1, _), (2, _), (3, _), (4, _), (5, _), (6, _)] dX6_growRowBy_70 (by decide) rfl ?_
  refine V.aload_n 5 dX6_growRowBy_72 rfl rfl ?_
  refine V.getR (v := 13) fl_X6_28 sh_246 rfl fx_246_1 (by decide) dX6_growRowBy_73 ?_
  refine V.aload_n 5 dX6_growRowBy_76 rfl rfl ?_
  refine V.getR (v := 27) fl_X6_34 sh_246 rfl fx_246_3 (by decide) dX6_growRowBy_77 ?_
  refine V.getI fl_X6_86 sh_27 rfl km_27 dX6_growRowBy_80 ?_
  obtain ⟨r178, hc179, hF⟩ := bp_s hF
  refine V.callVi mf_X1_strengthOf ml_X6_92 sh_13 (s_X1_strengthOf (Or.inr rfl) hc179) (by omega) rfl rfl (Nat.le_of_ble_eq_true rfl) dX6_growRowBy_83 ?_
  refine V.iload 0 dX6_growRowBy_86 rfl ?_
  refine V.isub dX6_growRowBy_88 ?_
  refine V.aload_n 5 dX6_growRowBy_89 rfl rfl ?_
  refine V.getR (v := 13) fl_X6_28 sh_246 rfl fx_246_1 (by decide) dX6_growRowBy_90 ?_
  refine V.iload_n 6 dX6_growRowBy_93 rfl rfl ?_
  obtain ⟨r180, hc181, hF⟩ := bp_s hF
  refine V.callVi mf_X1_pagesOf ml_X6_95 sh_13 (s_X1_pagesOf (Or.inr rfl) hc181) (by omega) rfl rfl (Nat.le_of_ble_eq_true rfl) dX6_growRowBy_94 ?_
  obtain ⟨r182, hc183, hF⟩ := bp_s hF
  refine V.callSi mf_J9_min_7cf53 ml_X6_98 (s_J9_min_7cf53 hc183) (by omega) rfl rfl (Nat.le_of_ble_eq_true rfl) dX6_growRowBy_97 ?_
  refine V.istore [(12, _), (11, _), (10, _), (9, _), (8, _), (7, _), (0, _), (1, _), (2, _), (3, _), (4, _), (5, _), (6, _)] dX6_growRowBy_100 (by decide) rfl ?_
  refine V.aload_n 6 dX6_growRowBy_102 rfl rfl ?_
  refine V.getR (v := 13) fl_X6_28 sh_246 rfl fx_246_1 (by decide) dX6_growRowBy_103 ?_
  obtain ⟨r184, hc185, hF⟩ := bp_s hF
  refine V.callVi mf_X1_enough ml_X6_104 sh_13 (s_X1_enough (Or.inr rfl) hc185) (by omega) rfl rfl (Nat.le_of_ble_eq_true rfl) dX6_growRowBy_106 ?_
  refine V.istore [(13, _), (12, _), (11, _), (10, _), (9, _), (8, _), (7, _), (0, _), (1, _), (2, _), (3, _), (4, _), (5, _), (6, _)] dX6_growRowBy_109 (by decide) rfl ?_
  refine V.iload 13 dX6_growRowBy_111 rfl ?_
  refine V.istore [(14, _), (13, _), (12, _), (11, _), (10, _), (9, _), (8, _), (7, _), (0, _), (1, _), (2, _), (3, _), (4, _), (5, _), (6, _)] dX6_growRowBy_113 (by decide) rfl ?_
  refine V.iconst (v := 0) dX6_growRowBy_115 rfl ?_
  refine V.istore [(15, _), (14, _), (13, _), (12, _), (11, _), (10, _), (9, _), (8, _), (7, _), (0, _), (1, _), (2, _), (3, _), (4, _), (5, _), (6, _)] dX6_growRowBy_116 (by decide) rfl ?_
  exact V.sub [9, 10, 11, 12, 13, 14, 8, 7, 6, 5, 4, 3, 2, 1, 0] rfl (v_X6_growRowBy_118 hdr hrf hDD n _ _ _ _ _ _ _ _ _ _ _ _ _ _ _ hF)
def X6_growRowBy (n : Nat) : Nat → Int32 → Int32 → Int32 → Int32 → Int32 → Int32 → Mm → Option (Unit × Mm)
  | 0, _, _, _, _, _, _, _ => none
  | e + 1, x1, x2, x3, x4, x5, x6, h => X6_growRowBy_b n (X6_growRowBy n e) x1 x2 x3 x4 x5 x6 h
set_option maxRecDepth 100000 in
set_option maxHeartbeats 4000000 in
theorem s_X6_growRowBy {X : WX} {o : Mm} {n : Nat} : ∀ (e : Nat) (x1 : Int32) (x2 : Int32) (x3 : Int32) (x4 : Int32) (x5 : Int32) (x6 : Int32) (h : Mm) (rv : Unit) (hz : Mm), X6_growRowBy n e x1 x2 x3 x4 x5 x6 h = some (rv, hz) → Sat X yX6_growRowBy cX6_growRowBy 17 (none) (6 + 3 * e) [.ref (xa X 246), .int x1, .int x2, .int x3, .int x4, .int x5, .int x6] true o h none hz := by
  intro e
  induction e with
  | zero => intro x1 x2 x3 x4 x5 x6 h rv hz hF; exact nomatch (show (none : Option (Unit × Mm)) = some (rv, hz) from hF)
  | succ e ih => intro x1 x2 x3 x4 x5 x6 h rv hz hF; exact s_X6_growRowBy_b (dr := 6 + 3 * e) (by omega) ih (by omega)  hF
