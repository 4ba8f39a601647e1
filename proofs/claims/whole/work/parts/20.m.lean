/-! MonsterCotModel.page -/
theorem dX12_page_0 : decode cX12_page 0 = .ok (.bipush (-9), 2) := by decide +kernel
theorem dX12_page_2 : decode cX12_page 2 = .ok (.bipush 20, 2) := by decide +kernel
theorem dX12_page_4 : decode cX12_page 4 = .ok (.aload_n 0, 1) := by decide +kernel
theorem dX12_page_5 : decode cX12_page 5 = .ok (.iload_n 1, 1) := by decide +kernel
theorem dX12_page_6 : decode cX12_page 6 = .ok (.iload_n 2, 1) := by decide +kernel
theorem dX12_page_7 : decode cX12_page 7 = .ok (.iload_n 3, 1) := by decide +kernel
theorem dX12_page_8 : decode cX12_page 8 = .ok (.iload 4, 2) := by decide +kernel
theorem dX12_page_10 : decode cX12_page 10 = .ok (.iload 5, 2) := by decide +kernel
theorem dX12_page_12 : decode cX12_page 12 = .ok (.iload 6, 2) := by decide +kernel
theorem dX12_page_14 : decode cX12_page 14 = .ok (.invokevirtual 311, 3) := by decide +kernel
theorem dX12_page_17 : decode cX12_page 17 = .ok (.invokestatic 315, 3) := by decide +kernel
theorem dX12_page_20 : decode cX12_page 20 = .ok (.invokestatic 317, 3) := by decide +kernel
theorem dX12_page_23 : decode cX12_page 23 = .ok (.ireturn, 1) := by decide +kernel
def X12_page (n : Nat) (x1 : Int32) (x2 : Int32) (x3 : Int32) (x4 : Int32) (x5 : Int32) (x6 : Int32) (h : Mm) : Option (Int32 × Mm) := (bd (X12_pageWorth n x1 x2 x3 x4 x5 x6 h) (fun r8 h10 => (bp (J9_min_7cf53 (20 : Int32) r8 h10) (fun r11 => (bp (J9_max_7cf53 (-9 : Int32) r11 h10) (fun r13 => (some (r13, h10))))))))
set_option maxRecDepth 100000 in
set_option maxHeartbeats 4000000 in
theorem s_X12_page {X : WX} {o : Mm} {n : Nat} {x1 : Int32} {x2 : Int32} {x3 : Int32} {x4 : Int32} {x5 : Int32} {x6 : Int32} {rv : Int32} {hz : Mm} {h : Mm} (hF : X12_page n x1 x2 x3 x4 x5 x6 h = some (rv, hz)) : Sat X yX12_page cX12_page 7 (some .int) 90 [.ref (xa X 251), .int x1, .int x2, .int x3, .int x4, .int x5, .int x6] false o h (some (.int rv)) hz := by
  unfold X12_page at hF
  refine Sat.mk (own := RX12) rfl (by decide +kernel) (Nat.le_of_ble_eq_true rfl) (fun G => ?_)
  refine V.sub (lv2 := [(0, _), (1, _), (2, _), (3, _), (4, _), (5, _), (6, _)]) [0, 1, 2, 3, 4, 5, 6] rfl ?_
  refine V.bipush (v := -9) dX12_page_0 (by decide) ?_
  refine V.bipush (v := 20) dX12_page_2 (by decide) ?_
  refine V.aload_n 0 dX12_page_4 rfl rfl ?_
  refine V.iload_n 1 dX12_page_5 rfl rfl ?_
  refine V.iload_n 2 dX12_page_6 rfl rfl ?_
  refine V.iload_n 3 dX12_page_7 rfl rfl ?_
  refine V.iload 4 dX12_page_8 rfl ?_
  refine V.iload 5 dX12_page_10 rfl ?_
  refine V.iload 6 dX12_page_12 rfl ?_
  obtain ⟨r8, h10, hc9, hF⟩ := bd_s hF
  refine V.callVi mf_X12_pageWorth ml_X12_311 sh_251 (s_X12_pageWorth hc9) (by decide) rfl rfl (Nat.le_of_ble_eq_true rfl) dX12_page_14 ?_
  obtain ⟨r11, hc12, hF⟩ := bp_s hF
  refine V.callSi mf_J9_min_7cf53 ml_X12_315 (s_J9_min_7cf53 hc12) (by decide) rfl rfl (Nat.le_of_ble_eq_true rfl) dX12_page_17 ?_
  obtain ⟨r13, hc14, hF⟩ := bp_s hF
  refine V.callSi mf_J9_max_7cf53 ml_X12_317 (s_J9_max_7cf53 hc14) (by decide) rfl rfl (Nat.le_of_ble_eq_true rfl) dX12_page_20 ?_
  cases hF
  exact V.iret dX12_page_23
/-! MonsterCotModel.held -/
theorem dX12_held_0 : decode cX12_held 0 = .ok (.iconst 0, 1) := by decide +kernel
theorem dX12_held_1 : decode cX12_held 1 = .ok (.bipush 99, 2) := by decide +kernel
theorem dX12_held_3 : decode cX12_held 3 = .ok (.iload_n 0, 1) := by decide +kernel
theorem dX12_held_4 : decode cX12_held 4 = .ok (.invokestatic 315, 3) := by decide +kernel
theorem dX12_held_7 : decode cX12_held 7 = .ok (.invokestatic 317, 3) := by decide +kernel
theorem dX12_held_10 : decode cX12_held 10 = .ok (.ireturn, 1) := by decide +kernel
def X12_held (x0 : Int32) (h : Mm) : Option Int32 := (bp (J9_min_7cf53 (99 : Int32) x0 h) (fun r5 => (bp (J9_max_7cf53 (0 : Int32) r5 h) (fun r7 => (some r7)))))
set_option maxRecDepth 100000 in
set_option maxHeartbeats 4000000 in
theorem s_X12_held {X : WX} {o : Mm} {x0 : Int32} {rv : Int32} {h : Mm} (hF : X12_held x0 h = some rv) : Sat X yX12_held cX12_held 1 (some .int) 2 [.int x0] false o h (some (.int rv)) h := by
  unfold X12_held at hF
  refine Sat.mk (own := RX12) rfl (by decide +kernel) (Nat.le_of_ble_eq_true rfl) (fun G => ?_)
  refine V.sub (lv2 := [(0, _)]) [0] rfl ?_
  refine V.iconst (v := 0) dX12_held_0 rfl ?_
  refine V.bipush (v := 99) dX12_held_1 (by decide) ?_
  refine V.iload_n 0 dX12_held_3 rfl rfl ?_
  obtain ⟨r5, hc6, hF⟩ := bp_s hF
  refine V.callSi mf_J9_min_7cf53 ml_X12_315 (s_J9_min_7cf53 hc6) (by decide) rfl rfl (Nat.le_of_ble_eq_true rfl) dX12_held_4 ?_
  obtain ⟨r7, hc8, hF⟩ := bp_s hF
  refine V.callSi mf_J9_max_7cf53 ml_X12_317 (s_J9_max_7cf53 hc8) (by decide) rfl rfl (Nat.le_of_ble_eq_true rfl) dX12_held_7 ?_
  cases hF
  exact V.iret dX12_held_10
/-! MonsterCotModel.isEnough -/
theorem dX12_isEnough_0 : decode cX12_isEnough 0 = .ok (.iload_n 1, 1) := by decide +kernel
theorem dX12_isEnough_1 : decode cX12_isEnough 1 = .ok (.aload_n 0, 1) := by decide +kernel
theorem dX12_isEnough_2 : decode cX12_isEnough 2 = .ok (.getfield 37, 3) := by decide +kernel
theorem dX12_isEnough_5 : decode cX12_isEnough 5 = .ok (.iconst 1, 1) := by decide +kernel
theorem dX12_isEnough_6 : decode cX12_isEnough 6 = .ok (.iaload, 1) := by decide +kernel
theorem dX12_isEnough_7 : decode cX12_isEnough 7 = .ok (.if_icmp .lt 7, 3) := by decide +kernel
theorem dX12_isEnough_10 : decode cX12_isEnough 10 = .ok (.iconst 1, 1) := by decide +kernel
theorem dX12_isEnough_11 : decode cX12_isEnough 11 = .ok (.goto 4, 3) := by decide +kernel
theorem dX12_isEnough_14 : decode cX12_isEnough 14 = .ok (.iconst 0, 1) := by decide +kernel
theorem dX12_isEnough_15 : decode cX12_isEnough 15 = .ok (.ireturn, 1) := by decide +kernel
def X12_isEnough (x1 : Int32) (h : Mm) : Option Bool := (if inB (1 : Int32) (aln 256) then (if x1 < (h.1 256 (1 : Int32).toNatClampNeg) then (some false) else (some true)) else none)
set_option maxRecDepth 100000 in
set_option maxHeartbeats 4000000 in
theorem s_X12_isEnough {X : WX} {o : Mm} {x1 : Int32} {rv : Bool} {h : Mm} (hF : X12_isEnough x1 h = some rv) : Sat X yX12_isEnough cX12_isEnough 2 (some .boolean) 1 [.ref (xa X 251), .int x1] false o h (some (.int (b2i rv))) h := by
  unfold X12_isEnough at hF
  refine Sat.mk (own := RX12) rfl (by decide +kernel) (Nat.le_of_ble_eq_true rfl) (fun G => ?_)
  refine V.sub (lv2 := [(0, _), (1, _)]) [0, 1] rfl ?_
  refine V.iload_n 1 dX12_isEnough_0 rfl rfl ?_
  refine V.aload_n 0 dX12_isEnough_1 rfl rfl ?_
  refine V.getR (v := 256) fl_X12_37 sh_251 rfl fx_251_18 (by decide) dX12_isEnough_2 ?_
  refine V.iconst (v := 1) dX12_isEnough_5 rfl ?_
  obtain ⟨hk, hF⟩ := ck hF
  refine V.iald io_256 hk dX12_isEnough_6 ?_
  refine V.icmp_lt (tgt := 14) dX12_isEnough_7 rfl (fun c => ?_) (fun c => ?_)
  · replace hF := ip c hF
    refine V.iconst (v := 0) dX12_isEnough_14 rfl ?_
    cases hF
    exact V.bret dX12_isEnough_15
  · replace hF := iq c hF
    refine V.iconst (v := 1) dX12_isEnough_10 rfl ?_
    refine V.goto (tgt := 15) dX12_isEnough_11 rfl ?_
    cases hF
    exact V.bret dX12_isEnough_15
/-! MonsterCotModel.canRead -/
theorem dX12_canRead_0 : decode cX12_canRead 0 = .ok (.aload_n 0, 1) := by decide +kernel
theorem dX12_canRead_1 : decode cX12_canRead 1 = .ok (.iload_n 2, 1) := by decide +kernel
theorem dX12_canRead_2 : decode cX12_canRead 2 = .ok (.invokevirtual 319, 3) := by decide +kernel
theorem dX12_canRead_5 : decode cX12_canRead 5 = .ok (.ifCond .eq 67, 3) := by decide +kernel
theorem dX12_canRead_8 : decode cX12_canRead 8 = .ok (.iload_n 3, 1) := by decide +kernel
theorem dX12_canRead_9 : decode cX12_canRead 9 = .ok (.i2l, 1) := by decide +kernel
theorem dX12_canRead_10 : decode cX12_canRead 10 = .ok (.iload 4, 2) := by decide +kernel
theorem dX12_canRead_12 : decode cX12_canRead 12 = .ok (.ifCond .eq 9, 3) := by decide +kernel
theorem dX12_canRead_15 : decode cX12_canRead 15 = .ok (.ldc2_w 269, 3) := by decide +kernel
theorem dX12_canRead_18 : decode cX12_canRead 18 = .ok (.goto 4, 3) := by decide +kernel
theorem dX12_canRead_21 : decode cX12_canRead 21 = .ok (.lconst 1, 1) := by decide +kernel
theorem dX12_canRead_22 : decode cX12_canRead 22 = .ok (.aload_n 0, 1) := by decide +kernel
theorem dX12_canRead_23 : decode cX12_canRead 23 = .ok (.iload_n 2, 1) := by decide +kernel
theorem dX12_canRead_24 : decode cX12_canRead 24 = .ok (.invokevirtual 322, 3) := by decide +kernel
theorem dX12_canRead_27 : decode cX12_canRead 27 = .ok (.i2l, 1) := by decide +kernel
theorem dX12_canRead_28 : decode cX12_canRead 28 = .ok (.invokestatic 214, 3) := by decide +kernel
theorem dX12_canRead_31 : decode cX12_canRead 31 = .ok (.ifCond .eq 41, 3) := by decide +kernel
theorem dX12_canRead_34 : decode cX12_canRead 34 = .ok (.aload_n 1, 1) := by decide +kernel
theorem dX12_canRead_35 : decode cX12_canRead 35 = .ok (.iconst 3, 1) := by decide +kernel
theorem dX12_canRead_36 : decode cX12_canRead 36 = .ok (.aload_n 1, 1) := by decide +kernel
theorem dX12_canRead_37 : decode cX12_canRead 37 = .ok (.bipush 23, 2) := by decide +kernel
theorem dX12_canRead_39 : decode cX12_canRead 39 = .ok (.iaload, 1) := by decide +kernel
theorem dX12_canRead_40 : decode cX12_canRead 40 = .ok (.imul, 1) := by decide +kernel
theorem dX12_canRead_41 : decode cX12_canRead 41 = .ok (.iconst 0, 1) := by decide +kernel
theorem dX12_canRead_42 : decode cX12_canRead 42 = .ok (.iadd, 1) := by decide +kernel
theorem dX12_canRead_43 : decode cX12_canRead 43 = .ok (.iaload, 1) := by decide +kernel
theorem dX12_canRead_44 : decode cX12_canRead 44 = .ok (.iload 4, 2) := by decide +kernel
theorem dX12_canRead_46 : decode cX12_canRead 46 = .ok (.ifCond .eq 9, 3) := by decide +kernel
theorem dX12_canRead_49 : decode cX12_canRead 49 = .ok (.iload_n 3, 1) := by decide +kernel
theorem dX12_canRead_50 : decode cX12_canRead 50 = .ok (.iconst 1, 1) := by decide +kernel
theorem dX12_canRead_51 : decode cX12_canRead 51 = .ok (.isub, 1) := by decide +kernel
theorem dX12_canRead_52 : decode cX12_canRead 52 = .ok (.goto 4, 3) := by decide +kernel
theorem dX12_canRead_55 : decode cX12_canRead 55 = .ok (.iload_n 3, 1) := by decide +kernel
theorem dX12_canRead_56 : decode cX12_canRead 56 = .ok (.iadd, 1) := by decide +kernel
theorem dX12_canRead_57 : decode cX12_canRead 57 = .ok (.aload_n 0, 1) := by decide +kernel
theorem dX12_canRead_58 : decode cX12_canRead 58 = .ok (.aload_n 1, 1) := by decide +kernel
theorem dX12_canRead_59 : decode cX12_canRead 59 = .ok (.bipush 23, 2) := by decide +kernel
theorem dX12_canRead_61 : decode cX12_canRead 61 = .ok (.iaload, 1) := by decide +kernel
theorem dX12_canRead_62 : decode cX12_canRead 62 = .ok (.invokevirtual 325, 3) := by decide +kernel
theorem dX12_canRead_65 : decode cX12_canRead 65 = .ok (.if_icmp .gt 7, 3) := by decide +kernel
theorem dX12_canRead_68 : decode cX12_canRead 68 = .ok (.iconst 1, 1) := by decide +kernel
theorem dX12_canRead_69 : decode cX12_canRead 69 = .ok (.goto 4, 3) := by decide +kernel
theorem dX12_canRead_72 : decode cX12_canRead 72 = .ok (.iconst 0, 1) := by decide +kernel
theorem dX12_canRead_73 : decode cX12_canRead 73 = .ok (.ireturn, 1) := by decide +kernel
def X12_canRead_56 (a1 : Nat) (s0 : Int32) (s1 : Int32) (h : Mm) : Option Bool := (if inB (23 : Int32) (aln a1) then (bp (X12_strength (h.1 a1 (23 : Int32).toNatClampNeg) h) (fun r15 => (if r15 < (s0 + s1) then (some false) else (some true)))) else none)
set_option maxRecDepth 100000 in
set_option maxHeartbeats 4000000 in
theorem v_X12_canRead_56 {X : WX} {G : GX} {o : Mm} {a1 : Nat} {rv : Bool} {h : Mm} (ha1 : isO false 0 a1) {s0 : Int32} {s1 : Int32} (hF : X12_canRead_56 a1 s0 s1 h = some rv) : V X G RX12 cX12_canRead 5 (some .boolean) 2 0 0 (QR X G false o (some (.int (b2i rv))) h) false o 56 [(0, .ref (xa X 251)), (1, .ref (xa X a1))] [.int s1, .int s0] h := by
  unfold X12_canRead_56 at hF
  refine V.iadd dX12_canRead_56 ?_
  refine V.aload_n 0 dX12_canRead_57 rfl rfl ?_
  refine V.aload_n 1 dX12_canRead_58 rfl rfl ?_
  refine V.bipush (v := 23) dX12_canRead_59 (by decide) ?_
  obtain ⟨hk, hF⟩ := ck hF
  refine V.iald ha1 hk dX12_canRead_61 ?_
  obtain ⟨r15, hc16, hF⟩ := bp_s hF
  refine V.callVi mf_X12_strength ml_X12_325 sh_251 (s_X12_strength hc16) (by decide) rfl rfl (Nat.le_of_ble_eq_true rfl) dX12_canRead_62 ?_
  refine V.icmp_gt (tgt := 72) dX12_canRead_65 rfl (fun c => ?_) (fun c => ?_)
  · replace hF := ip c hF
    refine V.iconst (v := 0) dX12_canRead_72 rfl ?_
    cases hF
    exact V.bret dX12_canRead_73
  · replace hF := iq c hF
    refine V.iconst (v := 1) dX12_canRead_68 rfl ?_
    refine V.goto (tgt := 73) dX12_canRead_69 rfl ?_
    cases hF
    exact V.bret dX12_canRead_73
def X12_canRead_22 (a1 : Nat) (x2 : Int32) (x3 : Int32) (x4 : Bool) (s0 : Int64) (s1 : Int64) (h : Mm) : Option Bool := (bp (X12_pagesOf x2 h) (fun r17 => (bp (X12_isIn s0 s1 r17.toInt64 h) (fun r19 => (if r19 = true then (if inB (23 : Int32) (aln a1) then (if inB (((3 : Int32) * (h.1 a1 (23 : Int32).toNatClampNeg)) + (0 : Int32)) (aln a1) then (if x4 = true then (X12_canRead_56 a1 (h.1 a1 (((3 : Int32) * (h.1 a1 (23 : Int32).toNatClampNeg)) + (0 : Int32)).toNatClampNeg) (x3 - (1 : Int32)) h) else (X12_canRead_56 a1 (h.1 a1 (((3 : Int32) * (h.1 a1 (23 : Int32).toNatClampNeg)) + (0 : Int32)).toNatClampNeg) x3 h)) else none) else none) else (some false))))))
set_option maxRecDepth 100000 in
set_option maxHeartbeats 4000000 in
theorem v_X12_canRead_22 {X : WX} {G : GX} {o : Mm} {a1 : Nat} {rv : Bool} {h : Mm} (ha1 : isO false 0 a1) {x2 : Int32} {x3 : Int32} {x4 : Bool} {s0 : Int64} {s1 : Int64} (hF : X12_canRead_22 a1 x2 x3 x4 s0 s1 h = some rv) : V X G RX12 cX12_canRead 5 (some .boolean) 2 0 0 (QR X G false o (some (.int (b2i rv))) h) false o 22 [(0, .ref (xa X 251)), (1, .ref (xa X a1)), (2, .int x2), (3, .int x3), (4, .int (b2i x4))] [.long s1, .long s0] h := by
  unfold X12_canRead_22 at hF
  refine V.aload_n 0 dX12_canRead_22 rfl rfl ?_
  refine V.iload_n 2 dX12_canRead_23 rfl rfl ?_
  obtain ⟨r17, hc18, hF⟩ := bp_s hF
  refine V.callVi mf_X12_pagesOf ml_X12_322 sh_251 (s_X12_pagesOf hc18) (by decide) rfl rfl (Nat.le_of_ble_eq_true rfl) dX12_canRead_24 ?_
  refine V.i2l dX12_canRead_27 ?_
  obtain ⟨r19, hc20, hF⟩ := bp_s hF
  refine V.callSi mf_X12_isIn ml_X12_214 (s_X12_isIn hc20) (by decide) rfl rfl (Nat.le_of_ble_eq_true rfl) dX12_canRead_28 ?_
  refine V.ifz_eq (tgt := 72) dX12_canRead_31 rfl (fun c => ?_) (fun c => ?_)
  · replace hF := iq c hF
    refine V.iconst (v := 0) dX12_canRead_72 rfl ?_
    cases hF
    exact V.bret dX12_canRead_73
  · replace hF := ip c hF
    refine V.aload_n 1 dX12_canRead_34 rfl rfl ?_
    refine V.iconst (v := 3) dX12_canRead_35 rfl ?_
    refine V.aload_n 1 dX12_canRead_36 rfl rfl ?_
    refine V.bipush (v := 23) dX12_canRead_37 (by decide) ?_
    obtain ⟨hk, hF⟩ := ck hF
    refine V.iald ha1 hk dX12_canRead_39 ?_
    refine V.imul dX12_canRead_40 ?_
    refine V.iconst (v := 0) dX12_canRead_41 rfl ?_
    refine V.iadd dX12_canRead_42 ?_
    obtain ⟨hk, hF⟩ := ck hF
    refine V.iald ha1 hk dX12_canRead_43 ?_
    refine V.iload 4 dX12_canRead_44 rfl ?_
    refine V.ifz_eq (tgt := 55) dX12_canRead_46 rfl (fun c => ?_) (fun c => ?_)
    · replace hF := iq c hF
      refine V.iload_n 3 dX12_canRead_55 rfl rfl ?_
      exact V.sub [0, 1] rfl (v_X12_canRead_56 ha1 hF)
    · replace hF := ip c hF
      refine V.iload_n 3 dX12_canRead_49 rfl rfl ?_
      refine V.iconst (v := 1) dX12_canRead_50 rfl ?_
      refine V.isub dX12_canRead_51 ?_
      refine V.goto (tgt := 56) dX12_canRead_52 rfl ?_
      exact V.sub [0, 1] rfl (v_X12_canRead_56 ha1 hF)
def X12_canRead (a1 : Nat) (x2 : Int32) (x3 : Int32) (x4 : Bool) (h : Mm) : Option Bool := (bp (X12_isBook x2 h) (fun r21 => (if r21 = true then (if x4 = true then (X12_canRead_22 a1 x2 x3 x4 x3.toInt64 (2 : Int64) h) else (X12_canRead_22 a1 x2 x3 x4 x3.toInt64 (1 : Int64) h)) else (some false))))
set_option maxRecDepth 100000 in
set_option maxHeartbeats 4000000 in
theorem s_X12_canRead {X : WX} {o : Mm} {a1 : Nat} {x2 : Int32} {x3 : Int32} {x4 : Bool} {rv : Bool} {h : Mm} (ha1 : isO false 0 a1) (hF : X12_canRead a1 x2 x3 x4 h = some rv) : Sat X yX12_canRead cX12_canRead 5 (some .boolean) 2 [.ref (xa X 251), .ref (xa X a1), .int x2, .int x3, .int (b2i x4)] false o h (some (.int (b2i rv))) h := by
  unfold X12_canRead at hF
  refine Sat.mk (own := RX12) rfl (by decide +kernel) (Nat.le_of_ble_eq_true rfl) (fun G => ?_)
  refine V.sub (lv2 := [(0, _), (1, _), (2, _), (3, _), (4, _)]) [0, 1, 2, 3, 4] rfl ?_
  refine V.aload_n 0 dX12_canRead_0 rfl rfl ?_
  refine V.iload_n 2 dX12_canRead_1 rfl rfl ?_
  obtain ⟨r21, hc22, hF⟩ := bp_s hF
  refine V.callVi mf_X12_isBook ml_X12_319 sh_251 (s_X12_isBook hc22) (by decide) rfl rfl (Nat.le_of_ble_eq_true rfl) dX12_canRead_2 ?_
  refine V.ifz_eq (tgt := 72) dX12_canRead_5 rfl (fun c => ?_) (fun c => ?_)
  · replace hF := iq c hF
    refine V.iconst (v := 0) dX12_canRead_72 rfl ?_
    cases hF
    exact V.bret dX12_canRead_73
  · replace hF := ip c hF
    refine V.iload_n 3 dX12_canRead_8 rfl rfl ?_
    refine V.i2l dX12_canRead_9 ?_
    refine V.iload 4 dX12_canRead_10 rfl ?_
    refine V.ifz_eq (tgt := 21) dX12_canRead_12 rfl (fun c => ?_) (fun c => ?_)
    · replace hF := iq c hF
      refine V.lconst (v := 1) dX12_canRead_21 rfl ?_
      exact (v_X12_canRead_22 ha1 hF)
    · replace hF := ip c hF
      refine V.ldc2 (v := 2) dX12_canRead_15 kc_X12_269 ?_
      refine V.goto (tgt := 22) dX12_canRead_18 rfl ?_
      exact (v_X12_canRead_22 ha1 hF)
/-! MonsterCotModel.reads -/
theorem dX12_reads_0 : decode cX12_reads 0 = .ok (.iconst 3, 1) := by decide +kernel
theorem dX12_reads_1 : decode cX12_reads 1 = .ok (.aload_n 1, 1) := by decide +kernel
theorem dX12_reads_2 : decode cX12_reads 2 = .ok (.bipush 23, 2) := by decide +kernel
theorem dX12_reads_4 : decode cX12_reads 4 = .ok (.iaload, 1) := by decide +kernel
theorem dX12_reads_5 : decode cX12_reads 5 = .ok (.imul, 1) := by decide +kernel
theorem dX12_reads_6 : decode cX12_reads 6 = .ok (.istore 5, 2) := by decide +kernel
theorem dX12_reads_8 : decode cX12_reads 8 = .ok (.bipush 18, 2) := by decide +kernel
theorem dX12_reads_10 : decode cX12_reads 10 = .ok (.aload_n 0, 1) := by decide +kernel
theorem dX12_reads_11 : decode cX12_reads 11 = .ok (.iload_n 2, 1) := by decide +kernel
theorem dX12_reads_12 : decode cX12_reads 12 = .ok (.invokevirtual 328, 3) := by decide +kernel
theorem dX12_reads_15 : decode cX12_reads 15 = .ok (.iadd, 1) := by decide +kernel
theorem dX12_reads_16 : decode cX12_reads 16 = .ok (.istore 6, 2) := by decide +kernel
theorem dX12_reads_18 : decode cX12_reads 18 = .ok (.iconst 0, 1) := by decide +kernel
theorem dX12_reads_19 : decode cX12_reads 19 = .ok (.istore 7, 2) := by decide +kernel
theorem dX12_reads_21 : decode cX12_reads 21 = .ok (.iload 7, 2) := by decide +kernel
theorem dX12_reads_23 : decode cX12_reads 23 = .ok (.iload 4, 2) := by decide +kernel
theorem dX12_reads_25 : decode cX12_reads 25 = .ok (.ifCond .eq 9, 3) := by decide +kernel
theorem dX12_reads_28 : decode cX12_reads 28 = .ok (.iload_n 3, 1) := by decide +kernel
theorem dX12_reads_29 : decode cX12_reads 29 = .ok (.iconst 1, 1) := by decide +kernel
theorem dX12_reads_30 : decode cX12_reads 30 = .ok (.isub, 1) := by decide +kernel
theorem dX12_reads_31 : decode cX12_reads 31 = .ok (.goto 4, 3) := by decide +kernel
theorem dX12_reads_34 : decode cX12_reads 34 = .ok (.iload_n 3, 1) := by decide +kernel
theorem dX12_reads_35 : decode cX12_reads 35 = .ok (.if_icmp .ge 58, 3) := by decide +kernel
theorem dX12_reads_38 : decode cX12_reads 38 = .ok (.aload_n 1, 1) := by decide +kernel
theorem dX12_reads_39 : decode cX12_reads 39 = .ok (.bipush 22, 2) := by decide +kernel
theorem dX12_reads_41 : decode cX12_reads 41 = .ok (.aload_n 1, 1) := by decide +kernel
theorem dX12_reads_42 : decode cX12_reads 42 = .ok (.bipush 22, 2) := by decide +kernel
theorem dX12_reads_44 : decode cX12_reads 44 = .ok (.iaload, 1) := by decide +kernel
theorem dX12_reads_45 : decode cX12_reads 45 = .ok (.aload_n 0, 1) := by decide +kernel
theorem dX12_reads_46 : decode cX12_reads 46 = .ok (.iload_n 2, 1) := by decide +kernel
theorem dX12_reads_47 : decode cX12_reads 47 = .ok (.aload_n 1, 1) := by decide +kernel
theorem dX12_reads_48 : decode cX12_reads 48 = .ok (.iload 5, 2) := by decide +kernel
theorem dX12_reads_50 : decode cX12_reads 50 = .ok (.iconst 1, 1) := by decide +kernel
theorem dX12_reads_51 : decode cX12_reads 51 = .ok (.iadd, 1) := by decide +kernel
theorem dX12_reads_52 : decode cX12_reads 52 = .ok (.iaload, 1) := by decide +kernel
theorem dX12_reads_53 : decode cX12_reads 53 = .ok (.aload_n 1, 1) := by decide +kernel
theorem dX12_reads_54 : decode cX12_reads 54 = .ok (.iload 6, 2) := by decide +kernel
theorem dX12_reads_56 : decode cX12_reads 56 = .ok (.iaload, 1) := by decide +kernel
theorem dX12_reads_57 : decode cX12_reads 57 = .ok (.iload 7, 2) := by decide +kernel
theorem dX12_reads_59 : decode cX12_reads 59 = .ok (.aload_n 1, 1) := by decide +kernel
theorem dX12_reads_60 : decode cX12_reads 60 = .ok (.bipush 29, 2) := by decide +kernel
theorem dX12_reads_62 : decode cX12_reads 62 = .ok (.iaload, 1) := by decide +kernel
theorem dX12_reads_63 : decode cX12_reads 63 = .ok (.aload_n 1, 1) := by decide +kernel
theorem dX12_reads_64 : decode cX12_reads 64 = .ok (.iload 5, 2) := by decide +kernel
theorem dX12_reads_66 : decode cX12_reads 66 = .ok (.iconst 0, 1) := by decide +kernel
theorem dX12_reads_67 : decode cX12_reads 67 = .ok (.iadd, 1) := by decide +kernel
theorem dX12_reads_68 : decode cX12_reads 68 = .ok (.iaload, 1) := by decide +kernel
theorem dX12_reads_69 : decode cX12_reads 69 = .ok (.invokevirtual 331, 3) := by decide +kernel
theorem dX12_reads_72 : decode cX12_reads 72 = .ok (.iadd, 1) := by decide +kernel
theorem dX12_reads_73 : decode cX12_reads 73 = .ok (.invokestatic 334, 3) := by decide +kernel
theorem dX12_reads_76 : decode cX12_reads 76 = .ok (.iastore, 1) := by decide +kernel
theorem dX12_reads_77 : decode cX12_reads 77 = .ok (.aload_n 1, 1) := by decide +kernel
theorem dX12_reads_78 : decode cX12_reads 78 = .ok (.iload 5, 2) := by decide +kernel
theorem dX12_reads_80 : decode cX12_reads 80 = .ok (.iconst 0, 1) := by decide +kernel
theorem dX12_reads_81 : decode cX12_reads 81 = .ok (.iadd, 1) := by decide +kernel
theorem dX12_reads_82 : decode cX12_reads 82 = .ok (.dup2, 1) := by decide +kernel
theorem dX12_reads_83 : decode cX12_reads 83 = .ok (.iaload, 1) := by decide +kernel
theorem dX12_reads_84 : decode cX12_reads 84 = .ok (.iconst 1, 1) := by decide +kernel
theorem dX12_reads_85 : decode cX12_reads 85 = .ok (.iadd, 1) := by decide +kernel
theorem dX12_reads_86 : decode cX12_reads 86 = .ok (.iastore, 1) := by decide +kernel
theorem dX12_reads_87 : decode cX12_reads 87 = .ok (.iinc 7 1, 3) := by decide +kernel
theorem dX12_reads_90 : decode cX12_reads 90 = .ok (.goto (-69), 3) := by decide +kernel
theorem dX12_reads_93 : decode cX12_reads 93 = .ok (.iload 4, 2) := by decide +kernel
theorem dX12_reads_95 : decode cX12_reads 95 = .ok (.ifCond .eq 16, 3) := by decide +kernel
theorem dX12_reads_98 : decode cX12_reads 98 = .ok (.aload_n 1, 1) := by decide +kernel
theorem dX12_reads_99 : decode cX12_reads 99 = .ok (.bipush 22, 2) := by decide +kernel
theorem dX12_reads_101 : decode cX12_reads 101 = .ok (.aload_n 1, 1) := by decide +kernel
theorem dX12_reads_102 : decode cX12_reads 102 = .ok (.bipush 22, 2) := by decide +kernel
theorem dX12_reads_104 : decode cX12_reads 104 = .ok (.iaload, 1) := by decide +kernel
theorem dX12_reads_105 : decode cX12_reads 105 = .ok (.iconst 5, 1) := by decide +kernel
theorem dX12_reads_106 : decode cX12_reads 106 = .ok (.isub, 1) := by decide +kernel
theorem dX12_reads_107 : decode cX12_reads 107 = .ok (.invokestatic 334, 3) := by decide +kernel
theorem dX12_reads_110 : decode cX12_reads 110 = .ok (.iastore, 1) := by decide +kernel
theorem dX12_reads_111 : decode cX12_reads 111 = .ok (.aload_n 1, 1) := by decide +kernel
theorem dX12_reads_112 : decode cX12_reads 112 = .ok (.iload 6, 2) := by decide +kernel
theorem dX12_reads_114 : decode cX12_reads 114 = .ok (.bipush 9, 2) := by decide +kernel
theorem dX12_reads_116 : decode cX12_reads 116 = .ok (.aload_n 1, 1) := by decide +kernel
theorem dX12_reads_117 : decode cX12_reads 117 = .ok (.iload 6, 2) := by decide +kernel
theorem dX12_reads_119 : decode cX12_reads 119 = .ok (.iaload, 1) := by decide +kernel
theorem dX12_reads_120 : decode cX12_reads 120 = .ok (.iconst 1, 1) := by decide +kernel
theorem dX12_reads_121 : decode cX12_reads 121 = .ok (.iadd, 1) := by decide +kernel
theorem dX12_reads_122 : decode cX12_reads 122 = .ok (.invokestatic 315, 3) := by decide +kernel
theorem dX12_reads_125 : decode cX12_reads 125 = .ok (.iastore, 1) := by decide +kernel
theorem dX12_reads_126 : decode cX12_reads 126 = .ok (.aload_n 1, 1) := by decide +kernel
theorem dX12_reads_127 : decode cX12_reads 127 = .ok (.bipush 24, 2) := by decide +kernel
theorem dX12_reads_129 : decode cX12_reads 129 = .ok (.dup2, 1) := by decide +kernel
theorem dX12_reads_130 : decode cX12_reads 130 = .ok (.iaload, 1) := by decide +kernel
theorem dX12_reads_131 : decode cX12_reads 131 = .ok (.iconst 1, 1) := by decide +kernel
theorem dX12_reads_132 : decode cX12_reads 132 = .ok (.iload_n 2, 1) := by decide +kernel
theorem dX12_reads_133 : decode cX12_reads 133 = .ok (.ishl, 1) := by decide +kernel
theorem dX12_reads_134 : decode cX12_reads 134 = .ok (.ior, 1) := by decide +kernel
theorem dX12_reads_135 : decode cX12_reads 135 = .ok (.iastore, 1) := by decide +kernel
theorem dX12_reads_136 : decode cX12_reads 136 = .ok (.return_, 1) := by decide +kernel
def X12_reads_111 (n : Nat) (a1 : Nat) (x2 : Int32) (x6 : Int32) (h : Mm) : Option (Unit × Mm) := (if inB x6 (aln a1) then (bp (J9_min_7cf53 (9 : Int32) ((h.1 a1 x6.toNatClampNeg) + (1 : Int32)) h) (fun r34 => (if inB x6 (aln a1) then (if inB (24 : Int32) (aln a1) then (if inB (24 : Int32) (aln a1) then (some ((), (wI (wI h a1 x6.toNatClampNeg r34) a1 (24 : Int32).toNatClampNeg (((wI h a1 x6.toNatClampNeg r34).1 a1 (24 : Int32).toNatClampNeg) ||| ((1 : Int32) <<< (x2 &&& 31)))))) else none) else none) else none))) else none)
set_option maxRecDepth 100000 in
set_option maxHeartbeats 4000000 in
theorem v_X12_reads_111 {X : WX} {G : GX} {o : Mm} {n : Nat} {a1 : Nat} {rv : Unit} {hz : Mm} (ha1 : isO false 0 a1) {x2 : Int32} {x6 : Int32} {h : Mm} (hF : X12_reads_111 n a1 x2 x6 h = some (rv, hz)) : V X G RX12 cX12_reads 8 (none) 91 0 0 (QR X G false o none hz) false o 111 [(1, .ref (xa X a1)), (2, .int x2), (6, .int x6)] [] h := by
  unfold X12_reads_111 at hF
  refine V.aload_n 0 dX12_reads_111 rfl rfl ?_
  refine V.iload 2 dX12_reads_112 rfl ?_
  refine V.bipush (v := 9) dX12_reads_114 (by decide) ?_
  refine V.aload_n 0 dX12_reads_116 rfl rfl ?_
  refine V.iload 2 dX12_reads_117 rfl ?_
  obtain ⟨hk, hF⟩ := ck hF
  refine V.iald ha1 hk dX12_reads_119 ?_
  refine V.iconst (v := 1) dX12_reads_120 rfl ?_
  refine V.iadd dX12_reads_121 ?_
  obtain ⟨r34, hc35, hF⟩ := bp_s hF
  refine V.callSi mf_J9_min_7cf53 ml_X12_315 (s_J9_min_7cf53 hc35) (by decide) rfl rfl (Nat.le_of_ble_eq_true rfl) dX12_reads_122 ?_
  obtain ⟨hk, hF⟩ := ck hF
  refine V.iast ha1 hk dX12_reads_125 ?_
  refine V.aload_n 0 dX12_reads_126 rfl rfl ?_
  refine V.bipush (v := 24) dX12_reads_127 (by decide) ?_
  refine V.dup2 dX12_reads_129 rfl rfl ?_
  obtain ⟨hk, hF⟩ := ck hF
  refine V.iald ha1 hk dX12_reads_130 ?_
  refine V.iconst (v := 1) dX12_reads_131 rfl ?_
  refine V.iload_n 1 dX12_reads_132 rfl rfl ?_
  refine V.ishl dX12_reads_133 ?_
  refine V.ior dX12_reads_134 ?_
  obtain ⟨hk, hF⟩ := ck hF
  refine V.iast ha1 hk dX12_reads_135 ?_
  cases hF
  exact V.vret dX12_reads_136
def X12_reads_35 (n : Nat) (K21 : Int32 → Int32 → Bool → Int32 → Int32 → Int32 → Mm → Option (Unit × Mm)) (a1 : Nat) (x2 : Int32) (x3 : Int32) (x4 : Bool) (x5 : Int32) (x6 : Int32) (x7 : Int32) (s0 : Int32) (s1 : Int32) (h : Mm) : Option (Unit × Mm) := (if s1 ≤ s0 then (if x4 = true then (if inB (22 : Int32) (aln a1) then (bp (X12_held ((h.1 a1 (22 : Int32).toNatClampNeg) - (5 : Int32)) h) (fun r36 => (if inB (22 : Int32) (aln a1) then (X12_reads_111 n a1 x2 x6 (wI h a1 (22 : Int32).toNatClampNeg r36)) else none))) else none) else (X12_reads_111 n a1 x2 x6 h)) else (if inB (22 : Int32) (aln a1) then (if inB (x5 + (1 : Int32)) (aln a1) then (if inB x6 (aln a1) then (if inB (29 : Int32) (aln a1) then (if inB (x5 + (0 : Int32)) (aln a1) then (bd (X12_page n x2 (h.1 a1 (x5 + (1 : Int32)).toNatClampNeg) (h.1 a1 x6.toNatClampNeg) x7 (h.1 a1 (29 : Int32).toNatClampNeg) (h.1 a1 (x5 + (0 : Int32)).toNatClampNeg) h) (fun r38 h40 => (bp (X12_held ((h.1 a1 (22 : Int32).toNatClampNeg) + r38) h40) (fun r41 => (if inB (22 : Int32) (aln a1) then (if inB (x5 + (0 : Int32)) (aln a1) then (if inB (x5 + (0 : Int32)) (aln a1) then (K21 x2 x3 x4 x5 x6 (x7 + (1)) (wI (wI h40 a1 (22 : Int32).toNatClampNeg r41) a1 (x5 + (0 : Int32)).toNatClampNeg (((wI h40 a1 (22 : Int32).toNatClampNeg r41).1 a1 (x5 + (0 : Int32)).toNatClampNeg) + (1 : Int32)))) else none) else none) else none))))) else none) else none) else none) else none) else none))
set_option maxRecDepth 100000 in
set_option maxHeartbeats 4000000 in
theorem v_X12_reads_35 {X : WX} {G : GX} {o : Mm} {n : Nat} {K21 : Int32 → Int32 → Bool → Int32 → Int32 → Int32 → Mm → Option (Unit × Mm)} {a1 : Nat} {rv : Unit} {hz : Mm} (hK21 : ∀ (x2 : Int32) (x3 : Int32) (x4 : Bool) (x5 : Int32) (x6 : Int32) (x7 : Int32) (h : Mm), K21 x2 x3 x4 x5 x6 x7 h = some (rv, hz) → V X G RX12 cX12_reads 8 (none) 91 0 0 (QR X G false o none hz) false o 21 [(0, .ref (xa X 251)), (1, .ref (xa X a1)), (2, .int x2), (3, .int x3), (4, .int (b2i x4)), (5, .int x5), (6, .int x6), (7, .int x7)] [] h) (ha1 : isO false 0 a1) {x2 : Int32} {x3 : Int32} {x4 : Bool} {x5 : Int32} {x6 : Int32} {x7 : Int32} {s0 : Int32} {s1 : Int32} {h : Mm} (hF : X12_reads_35 n K21 a1 x2 x3 x4 x5 x6 x7 s0 s1 h = some (rv, hz)) : V X G RX12 cX12_reads 8 (none) 91 0 0 (QR X G false o none hz) false o 35 [(0, .ref (xa X 251)), (1, .ref (xa X a1)), (2, .int x2), (3, .int x3), (4, .int (b2i x4)), (5, .int x5), (6, .int x6), (7, .int x7)] [.int s1, .int s0] h := by
  unfold X12_reads_35 at hF
  refine V.icmp_ge (tgt := 93) dX12_reads_35 rfl (fun c => ?_) (fun c => ?_)
  · replace hF := ip c hF
    refine V.iload 4 dX12_reads_93 rfl ?_
    refine V.ifz_eq (tgt := 111) dX12_reads_95 rfl (fun c => ?_) (fun c => ?_)
    · replace hF := iq c hF
      exact V.sub [1, 2, 6] rfl (v_X12_reads_111 ha1 hF)
    · replace hF := ip c hF
      refine V.aload_n 1 dX12_reads_98 rfl rfl ?_
      refine V.bipush (v := 22) dX12_reads_99 (by decide) ?_
      refine V.aload_n 1 dX12_reads_101 rfl rfl ?_
      refine V.bipush (v := 22) dX12_reads_102 (by decide) ?_
      obtain ⟨hk, hF⟩ := ck hF
      refine V.iald ha1 hk dX12_reads_104 ?_
      refine V.iconst (v := 5) dX12_reads_105 rfl ?_
      refine V.isub dX12_reads_106 ?_
      obtain ⟨r36, hc37, hF⟩ := bp_s hF
      refine V.callSi mf_X12_held ml_X12_334 (s_X12_held hc37) (by decide) rfl rfl (Nat.le_of_ble_eq_true rfl) dX12_reads_107 ?_
      obtain ⟨hk, hF⟩ := ck hF
      refine V.iast ha1 hk dX12_reads_110 ?_
      exact V.sub [1, 2, 6] rfl (v_X12_reads_111 ha1 hF)
  · replace hF := iq c hF
    refine V.aload_n 1 dX12_reads_38 rfl rfl ?_
    refine V.bipush (v := 22) dX12_reads_39 (by decide) ?_
    refine V.aload_n 1 dX12_reads_41 rfl rfl ?_
    refine V.bipush (v := 22) dX12_reads_42 (by decide) ?_
    obtain ⟨hk, hF⟩ := ck hF
    refine V.iald ha1 hk dX12_reads_44 ?_
    refine V.aload_n 0 dX12_reads_45 rfl rfl ?_
    refine V.iload_n 2 dX12_reads_46 rfl rfl ?_
    refine V.aload_n 1 dX12_reads_47 rfl rfl ?_
    refine V.iload 5 dX12_reads_48 rfl ?_
    refine V.iconst (v := 1) dX12_reads_50 rfl ?_
    refine V.iadd dX12_reads_51 ?_
    obtain ⟨hk, hF⟩ := ck hF
    refine V.iald ha1 hk dX12_reads_52 ?_
    refine V.aload_n 1 dX12_reads_53 rfl rfl ?_
    refine V.iload 6 dX12_reads_54 rfl ?_
    obtain ⟨hk, hF⟩ := ck hF
    refine V.iald ha1 hk dX12_reads_56 ?_
    refine V.iload 7 dX12_reads_57 rfl ?_
    refine V.aload_n 1 dX12_reads_59 rfl rfl ?_
    refine V.bipush (v := 29) dX12_reads_60 (by decide) ?_
    obtain ⟨hk, hF⟩ := ck hF
    refine V.iald ha1 hk dX12_reads_62 ?_
    refine V.aload_n 1 dX12_reads_63 rfl rfl ?_
    refine V.iload 5 dX12_reads_64 rfl ?_
    refine V.iconst (v := 0) dX12_reads_66 rfl ?_
    refine V.iadd dX12_reads_67 ?_
    obtain ⟨hk, hF⟩ := ck hF
    refine V.iald ha1 hk dX12_reads_68 ?_
    obtain ⟨r38, h40, hc39, hF⟩ := bd_s hF
    refine V.callVi mf_X12_page ml_X12_331 sh_251 (s_X12_page hc39) (by decide) rfl rfl (Nat.le_of_ble_eq_true rfl) dX12_reads_69 ?_
    refine V.iadd dX12_reads_72 ?_
    obtain ⟨r41, hc42, hF⟩ := bp_s hF
    refine V.callSi mf_X12_held ml_X12_334 (s_X12_held hc42) (by decide) rfl rfl (Nat.le_of_ble_eq_true rfl) dX12_reads_73 ?_
    obtain ⟨hk, hF⟩ := ck hF
    refine V.iast ha1 hk dX12_reads_76 ?_
    refine V.aload_n 1 dX12_reads_77 rfl rfl ?_
    refine V.iload 5 dX12_reads_78 rfl ?_
    refine V.iconst (v := 0) dX12_reads_80 rfl ?_
    refine V.iadd dX12_reads_81 ?_
    refine V.dup2 dX12_reads_82 rfl rfl ?_
    obtain ⟨hk, hF⟩ := ck hF
    refine V.iald ha1 hk dX12_reads_83 ?_
    refine V.iconst (v := 1) dX12_reads_84 rfl ?_
    refine V.iadd dX12_reads_85 ?_
    obtain ⟨hk, hF⟩ := ck hF
    refine V.iast ha1 hk dX12_reads_86 ?_
    refine V.iinc (v := (x7 + (1))) 7 [(7, _), (0, _), (1, _), (2, _), (3, _), (4, _), (5, _), (6, _)] dX12_reads_87 rfl rfl (by decide) rfl ?_
    refine V.goto (tgt := 21) dX12_reads_90 rfl ?_
    exact V.sub [1, 2, 3, 4, 5, 6, 7, 0] rfl (hK21 _ _ _ _ _ _ _ hF)
def X12_reads_21 (n : Nat) (a1 : Nat) : Nat → Int32 → Int32 → Bool → Int32 → Int32 → Int32 → Mm → Option (Unit × Mm)
  | 0, _, _, _, _, _, _, _ => none
  | f + 1, x2, x3, x4, x5, x6, x7, h => (if x4 = true then (X12_reads_35 n (X12_reads_21 n a1 f) a1 x2 x3 x4 x5 x6 x7 x7 (x3 - (1 : Int32)) h) else (X12_reads_35 n (X12_reads_21 n a1 f) a1 x2 x3 x4 x5 x6 x7 x7 x3 h))
set_option maxRecDepth 100000 in
set_option maxHeartbeats 4000000 in
theorem v_X12_reads_21 {X : WX} {G : GX} {o : Mm} {n : Nat} {a1 : Nat} {rv : Unit} {hz : Mm} (ha1 : isO false 0 a1) : ∀ (f : Nat) (x2 : Int32) (x3 : Int32) (x4 : Bool) (x5 : Int32) (x6 : Int32) (x7 : Int32) (h : Mm), X12_reads_21 n a1 f x2 x3 x4 x5 x6 x7 h = some (rv, hz) → V X G RX12 cX12_reads 8 (none) 91 0 0 (QR X G false o none hz) false o 21 [(0, .ref (xa X 251)), (1, .ref (xa X a1)), (2, .int x2), (3, .int x3), (4, .int (b2i x4)), (5, .int x5), (6, .int x6), (7, .int x7)] [] h := by
  intro f
  induction f with
  | zero => intro x2 x3 x4 x5 x6 x7 h hF; exact nomatch (show (none : Option (Unit × Mm)) = some (rv, hz) from hF)
  | succ f ih =>
    intro x2 x3 x4 x5 x6 x7 h hF
    unfold X12_reads_21 at hF
    refine V.iload 7 dX12_reads_21 rfl ?_
    refine V.iload 4 dX12_reads_23 rfl ?_
    refine V.ifz_eq (tgt := 34) dX12_reads_25 rfl (fun c => ?_) (fun c => ?_)
    · replace hF := iq c hF
      refine V.iload_n 3 dX12_reads_34 rfl rfl ?_
      exact (v_X12_reads_35 ih ha1 hF)
    · replace hF := ip c hF
      refine V.iload_n 3 dX12_reads_28 rfl rfl ?_
      refine V.iconst (v := 1) dX12_reads_29 rfl ?_
      refine V.isub dX12_reads_30 ?_
      refine V.goto (tgt := 35) dX12_reads_31 rfl ?_
      exact (v_X12_reads_35 ih ha1 hF)
def X12_reads (n : Nat) (a1 : Nat) (x2 : Int32) (x3 : Int32) (x4 : Bool) (h : Mm) : Option (Unit × Mm) := (if inB (23 : Int32) (aln a1) then (bp (X12_kindOf x2 h) (fun r43 => (X12_reads_21 n a1 n x2 x3 x4 ((3 : Int32) * (h.1 a1 (23 : Int32).toNatClampNeg)) ((18 : Int32) + r43) (0 : Int32) h))) else none)
set_option maxRecDepth 100000 in
set_option maxHeartbeats 4000000 in
theorem s_X12_reads {X : WX} {o : Mm} {n : Nat} {a1 : Nat} {x2 : Int32} {x3 : Int32} {x4 : Bool} {rv : Unit} {hz : Mm} {h : Mm} (ha1 : isO false 0 a1) (hF : X12_reads n a1 x2 x3 x4 h = some (rv, hz)) : Sat X yX12_reads cX12_reads 8 (none) 91 [.ref (xa X 251), .ref (xa X a1), .int x2, .int x3, .int (b2i x4)] false o h none hz := by
  unfold X12_reads at hF
  refine Sat.mk (own := RX12) rfl (by decide +kernel) (Nat.le_of_ble_eq_true rfl) (fun G => ?_)
  refine V.sub (lv2 := [(0, _), (1, _), (2, _), (3, _), (4, _)]) [0, 1, 2, 3, 4] rfl ?_
  refine V.iconst (v := 3) dX12_reads_0 rfl ?_
  refine V.aload_n 1 dX12_reads_1 rfl rfl ?_
  refine V.bipush (v := 23) dX12_reads_2 (by decide) ?_
  obtain ⟨hk, hF⟩ := ck hF
  refine V.iald ha1 hk dX12_reads_4 ?_
  refine V.imul dX12_reads_5 ?_
  refine V.istore [(5, _), (0, _), (1, _), (2, _), (3, _), (4, _)] dX12_reads_6 (by decide) rfl ?_
  refine V.bipush (v := 18) dX12_reads_8 (by decide) ?_
  refine V.aload_n 1 dX12_reads_10 rfl rfl ?_
  refine V.iload_n 3 dX12_reads_11 rfl rfl ?_
  obtain ⟨r43, hc44, hF⟩ := bp_s hF
  refine V.callVi mf_X12_kindOf ml_X12_328 sh_251 (s_X12_kindOf hc44) (by decide) rfl rfl (Nat.le_of_ble_eq_true rfl) dX12_reads_12 ?_
  refine V.iadd dX12_reads_15 ?_
  refine V.istore [(6, _), (5, _), (0, _), (1, _), (2, _), (3, _), (4, _)] dX12_reads_16 (by decide) rfl ?_
  refine V.iconst (v := 0) dX12_reads_18 rfl ?_
  refine V.istore [(7, _), (6, _), (5, _), (0, _), (1, _), (2, _), (3, _), (4, _)] dX12_reads_19 (by decide) rfl ?_
  exact V.sub [3, 4, 5, 6, 7, 2, 1, 0] rfl (v_X12_reads_21 ha1 n _ _ _ _ _ _ _ hF)
/-! MonsterCotModel.drinks -/
theorem dX12_drinks_0 : decode cX12_drinks 0 = .ok (.aload_n 0, 1) := by decide +kernel
theorem dX12_drinks_1 : decode cX12_drinks 1 = .ok (.bipush 22, 2) := by decide +kernel
theorem dX12_drinks_3 : decode cX12_drinks 3 = .ok (.aload_n 0, 1) := by decide +kernel
theorem dX12_drinks_4 : decode cX12_drinks 4 = .ok (.bipush 22, 2) := by decide +kernel
theorem dX12_drinks_6 : decode cX12_drinks 6 = .ok (.iaload, 1) := by decide +kernel
theorem dX12_drinks_7 : decode cX12_drinks 7 = .ok (.iconst 3, 1) := by decide +kernel
theorem dX12_drinks_8 : decode cX12_drinks 8 = .ok (.iadd, 1) := by decide +kernel
theorem dX12_drinks_9 : decode cX12_drinks 9 = .ok (.invokestatic 334, 3) := by decide +kernel
theorem dX12_drinks_12 : decode cX12_drinks 12 = .ok (.iastore, 1) := by decide +kernel
theorem dX12_drinks_13 : decode cX12_drinks 13 = .ok (.aload_n 0, 1) := by decide +kernel
theorem dX12_drinks_14 : decode cX12_drinks 14 = .ok (.bipush 25, 2) := by decide +kernel
theorem dX12_drinks_16 : decode cX12_drinks 16 = .ok (.iconst 1, 1) := by decide +kernel
theorem dX12_drinks_17 : decode cX12_drinks 17 = .ok (.iastore, 1) := by decide +kernel
theorem dX12_drinks_18 : decode cX12_drinks 18 = .ok (.return_, 1) := by decide +kernel
def X12_drinks (a0 : Nat) (h : Mm) : Option (Unit × Mm) := (if inB (22 : Int32) (aln a0) then (bp (X12_held ((h.1 a0 (22 : Int32).toNatClampNeg) + (3 : Int32)) h) (fun r3 => (if inB (22 : Int32) (aln a0) then (if inB (25 : Int32) (aln a0) then (some ((), (wI (wI h a0 (22 : Int32).toNatClampNeg r3) a0 (25 : Int32).toNatClampNeg (1 : Int32)))) else none) else none))) else none)
set_option maxRecDepth 100000 in
set_option maxHeartbeats 4000000 in
theorem s_X12_drinks {X : WX} {o : Mm} {a0 : Nat} {rv : Unit} {hz : Mm} {h : Mm} (ha0 : isO false 0 a0) (hF : X12_drinks a0 h = some (rv, hz)) : Sat X yX12_drinks cX12_drinks 1 (none) 3 [.ref (xa X a0)] false o h none hz := by
  unfold X12_drinks at hF
  refine Sat.mk (own := RX12) rfl (by decide +kernel) (Nat.le_of_ble_eq_true rfl) (fun G => ?_)
  refine V.sub (lv2 := [(0, _)]) [0] rfl ?_
  refine V.aload_n 0 dX12_drinks_0 rfl rfl ?_
  refine V.bipush (v := 22) dX12_drinks_1 (by decide) ?_
  refine V.aload_n 0 dX12_drinks_3 rfl rfl ?_
  refine V.bipush (v := 22) dX12_drinks_4 (by decide) ?_
  obtain ⟨hk, hF⟩ := ck hF
  refine V.iald ha0 hk dX12_drinks_6 ?_
  refine V.iconst (v := 3) dX12_drinks_7 rfl ?_
  refine V.iadd dX12_drinks_8 ?_
  obtain ⟨r3, hc4, hF⟩ := bp_s hF
  refine V.callSi mf_X12_held ml_X12_334 (s_X12_held hc4) (by decide) rfl rfl (Nat.le_of_ble_eq_true rfl) dX12_drinks_9 ?_
  obtain ⟨hk, hF⟩ := ck hF
  refine V.iast ha0 hk dX12_drinks_12 ?_
  refine V.aload_n 0 dX12_drinks_13 rfl rfl ?_
  refine V.bipush (v := 25) dX12_drinks_14 (by decide) ?_
  refine V.iconst (v := 1) dX12_drinks_16 rfl ?_
  obtain ⟨hk, hF⟩ := ck hF
  refine V.iast ha0 hk dX12_drinks_17 ?_
  cases hF
  exact V.vret dX12_drinks_18
/-! MonsterCotModel.canGo -/
theorem dX12_canGo_0 : decode cX12_canGo 0 = .ok (.aload_n 0, 1) := by decide +kernel
theorem dX12_canGo_1 : decode cX12_canGo 1 = .ok (.iload_n 2, 1) := by decide +kernel
theorem dX12_canGo_2 : decode cX12_canGo 2 = .ok (.invokevirtual 337, 3) := by decide +kernel
theorem dX12_canGo_5 : decode cX12_canGo 5 = .ok (.ifCond .eq 22, 3) := by decide +kernel
theorem dX12_canGo_8 : decode cX12_canGo 8 = .ok (.aload_n 1, 1) := by decide +kernel
theorem dX12_canGo_9 : decode cX12_canGo 9 = .ok (.bipush 23, 2) := by decide +kernel
theorem dX12_canGo_11 : decode cX12_canGo 11 = .ok (.iaload, 1) := by decide +kernel
theorem dX12_canGo_12 : decode cX12_canGo 12 = .ok (.iload_n 2, 1) := by decide +kernel
theorem dX12_canGo_13 : decode cX12_canGo 13 = .ok (.if_icmp .eq 14, 3) := by decide +kernel
theorem dX12_canGo_16 : decode cX12_canGo 16 = .ok (.aload_n 1, 1) := by decide +kernel
theorem dX12_canGo_17 : decode cX12_canGo 17 = .ok (.bipush 26, 2) := by decide +kernel
theorem dX12_canGo_19 : decode cX12_canGo 19 = .ok (.iaload, 1) := by decide +kernel
theorem dX12_canGo_20 : decode cX12_canGo 20 = .ok (.ifCond .ne 7, 3) := by decide +kernel
theorem dX12_canGo_23 : decode cX12_canGo 23 = .ok (.iconst 1, 1) := by decide +kernel
theorem dX12_canGo_24 : decode cX12_canGo 24 = .ok (.goto 4, 3) := by decide +kernel
theorem dX12_canGo_27 : decode cX12_canGo 27 = .ok (.iconst 0, 1) := by decide +kernel
theorem dX12_canGo_28 : decode cX12_canGo 28 = .ok (.ireturn, 1) := by decide +kernel
def X12_canGo (a1 : Nat) (x2 : Int32) (h : Mm) : Option Bool := (bp (X12_isHouse x2 h) (fun r3 => (if r3 = true then (if inB (23 : Int32) (aln a1) then (if (h.1 a1 (23 : Int32).toNatClampNeg) = x2 then (some false) else (if inB (26 : Int32) (aln a1) then (if (h.1 a1 (26 : Int32).toNatClampNeg) = 0 then (some true) else (some false)) else none)) else none) else (some false))))
set_option maxRecDepth 100000 in
set_option maxHeartbeats 4000000 in
theorem s_X12_canGo {X : WX} {o : Mm} {a1 : Nat} {x2 : Int32} {rv : Bool} {h : Mm} (ha1 : isO false 0 a1) (hF : X12_canGo a1 x2 h = some rv) : Sat X yX12_canGo cX12_canGo 3 (some .boolean) 2 [.ref (xa X 251), .ref (xa X a1), .int x2] false o h (some (.int (b2i rv))) h := by
  unfold X12_canGo at hF
  refine Sat.mk (own := RX12) rfl (by decide +kernel) (Nat.le_of_ble_eq_true rfl) (fun G => ?_)
  refine V.sub (lv2 := [(0, _), (1, _), (2, _)]) [0, 1, 2] rfl ?_
  refine V.aload_n 0 dX12_canGo_0 rfl rfl ?_
  refine V.iload_n 2 dX12_canGo_1 rfl rfl ?_
  obtain ⟨r3, hc4, hF⟩ := bp_s hF
  refine V.callVi mf_X12_isHouse ml_X12_337 sh_251 (s_X12_isHouse hc4) (by decide) rfl rfl (Nat.le_of_ble_eq_true rfl) dX12_canGo_2 ?_
  refine V.ifz_eq (tgt := 27) dX12_canGo_5 rfl (fun c => ?_) (fun c => ?_)
  · replace hF := iq c hF
    refine V.iconst (v := 0) dX12_canGo_27 rfl ?_
    cases hF
    exact V.bret dX12_canGo_28
  · replace hF := ip c hF
    refine V.aload_n 1 dX12_canGo_8 rfl rfl ?_
    refine V.bipush (v := 23) dX12_canGo_9 (by decide) ?_
    obtain ⟨hk, hF⟩ := ck hF
    refine V.iald ha1 hk dX12_canGo_11 ?_
    refine V.iload_n 2 dX12_canGo_12 rfl rfl ?_
    refine V.icmp_eq (tgt := 27) dX12_canGo_13 rfl (fun c => ?_) (fun c => ?_)
    · replace hF := ip c hF
      refine V.iconst (v := 0) dX12_canGo_27 rfl ?_
      cases hF
      exact V.bret dX12_canGo_28
    · replace hF := iq c hF
      refine V.aload_n 1 dX12_canGo_16 rfl rfl ?_
      refine V.bipush (v := 26) dX12_canGo_17 (by decide) ?_
      obtain ⟨hk, hF⟩ := ck hF
      refine V.iald ha1 hk dX12_canGo_19 ?_
      refine V.if_ne (tgt := 27) dX12_canGo_20 rfl (fun c => ?_) (fun c => ?_)
      · replace hF := iq c hF
        refine V.iconst (v := 0) dX12_canGo_27 rfl ?_
        cases hF
        exact V.bret dX12_canGo_28
      · replace hF := ip c hF
        refine V.iconst (v := 1) dX12_canGo_23 rfl ?_
        refine V.goto (tgt := 28) dX12_canGo_24 rfl ?_
        cases hF
        exact V.bret dX12_canGo_28
/-! MonsterCotModel.behind -/
theorem dX12_behind_0 : decode cX12_behind 0 = .ok (.iconst 0, 1) := by decide +kernel
theorem dX12_behind_1 : decode cX12_behind 1 = .ok (.iload_n 1, 1) := by decide +kernel
theorem dX12_behind_2 : decode cX12_behind 2 = .ok (.aload_n 0, 1) := by decide +kernel
theorem dX12_behind_3 : decode cX12_behind 3 = .ok (.getfield 37, 3) := by decide +kernel
theorem dX12_behind_6 : decode cX12_behind 6 = .ok (.iconst 2, 1) := by decide +kernel
theorem dX12_behind_7 : decode cX12_behind 7 = .ok (.iaload, 1) := by decide +kernel
theorem dX12_behind_8 : decode cX12_behind 8 = .ok (.isub, 1) := by decide +kernel
theorem dX12_behind_9 : decode cX12_behind 9 = .ok (.aload_n 0, 1) := by decide +kernel
theorem dX12_behind_10 : decode cX12_behind 10 = .ok (.iload_n 1, 1) := by decide +kernel
theorem dX12_behind_11 : decode cX12_behind 11 = .ok (.invokevirtual 340, 3) := by decide +kernel
theorem dX12_behind_14 : decode cX12_behind 14 = .ok (.ifCond .eq 7, 3) := by decide +kernel
theorem dX12_behind_17 : decode cX12_behind 17 = .ok (.iconst 0, 1) := by decide +kernel
theorem dX12_behind_18 : decode cX12_behind 18 = .ok (.goto 4, 3) := by decide +kernel
theorem dX12_behind_21 : decode cX12_behind 21 = .ok (.iconst 2, 1) := by decide +kernel
theorem dX12_behind_22 : decode cX12_behind 22 = .ok (.isub, 1) := by decide +kernel
theorem dX12_behind_23 : decode cX12_behind 23 = .ok (.invokestatic 317, 3) := by decide +kernel
theorem dX12_behind_26 : decode cX12_behind 26 = .ok (.ireturn, 1) := by decide +kernel
def X12_behind_22 (s0 : Bool) (s1 : Int32) (s2 : Int32) (h : Mm) : Option Int32 := (bp (J9_max_7cf53 (b2i s0) (s1 - s2) h) (fun r9 => (some r9)))
set_option maxRecDepth 100000 in
set_option maxHeartbeats 4000000 in
theorem v_X12_behind_22 {X : WX} {G : GX} {o : Mm} {rv : Int32} {h : Mm} {s0 : Bool} {s1 : Int32} {s2 : Int32} (hF : X12_behind_22  s0 s1 s2 h = some rv) : V X G RX12 cX12_behind 2 (some .int) 2 0 0 (QR X G false o (some (.int rv)) h) false o 22 [] [.int s2, .int s1, .int (b2i s0)] h := by
  unfold X12_behind_22 at hF
  refine V.isub dX12_behind_22 ?_
  obtain ⟨r9, hc10, hF⟩ := bp_s hF
  refine V.callSi mf_J9_max_7cf53 ml_X12_317 (s_J9_max_7cf53 hc10) (by decide) rfl rfl (Nat.le_of_ble_eq_true rfl) dX12_behind_23 ?_
  cases hF
  exact V.iret dX12_behind_26
def X12_behind (x1 : Int32) (h : Mm) : Option Int32 := (if inB (2 : Int32) (aln 256) then (bp (X12_isEnough x1 h) (fun r11 => (if r11 = true then (X12_behind_22 false (x1 - (h.1 256 (2 : Int32).toNatClampNeg)) (0 : Int32) h) else (X12_behind_22 false (x1 - (h.1 256 (2 : Int32).toNatClampNeg)) (2 : Int32) h)))) else none)
set_option maxRecDepth 100000 in
set_option maxHeartbeats 4000000 in
theorem s_X12_behind {X : WX} {o : Mm} {x1 : Int32} {rv : Int32} {h : Mm} (hF : X12_behind x1 h = some rv) : Sat X yX12_behind cX12_behind 2 (some .int) 2 [.ref (xa X 251), .int x1] false o h (some (.int rv)) h := by
  unfold X12_behind at hF
  refine Sat.mk (own := RX12) rfl (by decide +kernel) (Nat.le_of_ble_eq_true rfl) (fun G => ?_)
  refine V.sub (lv2 := [(0, _), (1, _)]) [0, 1] rfl ?_
  refine V.iconst (v := 0) dX12_behind_0 rfl ?_
  refine V.iload_n 1 dX12_behind_1 rfl rfl ?_
  refine V.aload_n 0 dX12_behind_2 rfl rfl ?_
  refine V.getR (v := 256) fl_X12_37 sh_251 rfl fx_251_18 (by decide) dX12_behind_3 ?_
  refine V.iconst (v := 2) dX12_behind_6 rfl ?_
  obtain ⟨hk, hF⟩ := ck hF
  refine V.iald io_256 hk dX12_behind_7 ?_
  refine V.isub dX12_behind_8 ?_
  refine V.aload_n 0 dX12_behind_9 rfl rfl ?_
  refine V.iload_n 1 dX12_behind_10 rfl rfl ?_
  obtain ⟨r11, hc12, hF⟩ := bp_s hF
  refine V.callVi mf_X12_isEnough ml_X12_340 sh_251 (s_X12_isEnough hc12) (by decide) rfl rfl (Nat.le_of_ble_eq_true rfl) dX12_behind_11 ?_
  refine V.ifz_eq (tgt := 21) dX12_behind_14 rfl (fun c => ?_) (fun c => ?_)
  · replace hF := iq c hF
    refine V.iconst (v := 2) dX12_behind_21 rfl ?_
    exact V.sub [] rfl (v_X12_behind_22 hF)
  · replace hF := ip c hF
    refine V.iconst (v := 0) dX12_behind_17 rfl ?_
    refine V.goto (tgt := 22) dX12_behind_18 rfl ?_
    exact V.sub [] rfl (v_X12_behind_22 hF)
/-! MonsterCotModel.goNight -/
theorem dX12_goNight_0 : decode cX12_goNight 0 = .ok (.aload_n 1, 1) := by decide +kernel
theorem dX12_goNight_1 : decode cX12_goNight 1 = .ok (.bipush 23, 2) := by decide +kernel
theorem dX12_goNight_3 : decode cX12_goNight 3 = .ok (.iaload, 1) := by decide +kernel
theorem dX12_goNight_4 : decode cX12_goNight 4 = .ok (.istore_n 2, 1) := by decide +kernel
theorem dX12_goNight_5 : decode cX12_goNight 5 = .ok (.aload_n 0, 1) := by decide +kernel
theorem dX12_goNight_6 : decode cX12_goNight 6 = .ok (.aload_n 1, 1) := by decide +kernel
theorem dX12_goNight_7 : decode cX12_goNight 7 = .ok (.bipush 22, 2) := by decide +kernel
theorem dX12_goNight_9 : decode cX12_goNight 9 = .ok (.iaload, 1) := by decide +kernel
theorem dX12_goNight_10 : decode cX12_goNight 10 = .ok (.invokevirtual 340, 3) := by decide +kernel
theorem dX12_goNight_13 : decode cX12_goNight 13 = .ok (.ifCond .eq 14, 3) := by decide +kernel
theorem dX12_goNight_16 : decode cX12_goNight 16 = .ok (.aload_n 0, 1) := by decide +kernel
theorem dX12_goNight_17 : decode cX12_goNight 17 = .ok (.getfield 49, 3) := by decide +kernel
theorem dX12_goNight_20 : decode cX12_goNight 20 = .ok (.iconst 3, 1) := by decide +kernel
theorem dX12_goNight_21 : decode cX12_goNight 21 = .ok (.iload_n 2, 1) := by decide +kernel
theorem dX12_goNight_22 : decode cX12_goNight 22 = .ok (.imul, 1) := by decide +kernel
theorem dX12_goNight_23 : decode cX12_goNight 23 = .ok (.iaload, 1) := by decide +kernel
theorem dX12_goNight_24 : decode cX12_goNight 24 = .ok (.goto 4, 3) := by decide +kernel
theorem dX12_goNight_27 : decode cX12_goNight 27 = .ok (.iconst 0, 1) := by decide +kernel
theorem dX12_goNight_28 : decode cX12_goNight 28 = .ok (.istore_n 3, 1) := by decide +kernel
theorem dX12_goNight_29 : decode cX12_goNight 29 = .ok (.aload_n 1, 1) := by decide +kernel
theorem dX12_goNight_30 : decode cX12_goNight 30 = .ok (.bipush 30, 2) := by decide +kernel
theorem dX12_goNight_32 : decode cX12_goNight 32 = .ok (.iaload, 1) := by decide +kernel
theorem dX12_goNight_33 : decode cX12_goNight 33 = .ok (.bipush 60, 2) := by decide +kernel
theorem dX12_goNight_35 : decode cX12_goNight 35 = .ok (.if_icmp .ne 44, 3) := by decide +kernel
theorem dX12_goNight_38 : decode cX12_goNight 38 = .ok (.iconst 1, 1) := by decide +kernel
theorem dX12_goNight_39 : decode cX12_goNight 39 = .ok (.istore 4, 2) := by decide +kernel
theorem dX12_goNight_41 : decode cX12_goNight 41 = .ok (.iload 4, 2) := by decide +kernel
theorem dX12_goNight_43 : decode cX12_goNight 43 = .ok (.sipush 177, 3) := by decide +kernel
theorem dX12_goNight_46 : decode cX12_goNight 46 = .ok (.if_icmp .gt 25, 3) := by decide +kernel
theorem dX12_goNight_49 : decode cX12_goNight 49 = .ok (.aload_n 1, 1) := by decide +kernel
theorem dX12_goNight_50 : decode cX12_goNight 50 = .ok (.bipush 30, 2) := by decide +kernel
theorem dX12_goNight_52 : decode cX12_goNight 52 = .ok (.iload 4, 2) := by decide +kernel
theorem dX12_goNight_54 : decode cX12_goNight 54 = .ok (.iadd, 1) := by decide +kernel
theorem dX12_goNight_55 : decode cX12_goNight 55 = .ok (.aload_n 1, 1) := by decide +kernel
theorem dX12_goNight_56 : decode cX12_goNight 56 = .ok (.bipush 30, 2) := by decide +kernel
theorem dX12_goNight_58 : decode cX12_goNight 58 = .ok (.iload 4, 2) := by decide +kernel
theorem dX12_goNight_60 : decode cX12_goNight 60 = .ok (.iadd, 1) := by decide +kernel
theorem dX12_goNight_61 : decode cX12_goNight 61 = .ok (.iconst 3, 1) := by decide +kernel
theorem dX12_goNight_62 : decode cX12_goNight 62 = .ok (.iadd, 1) := by decide +kernel
theorem dX12_goNight_63 : decode cX12_goNight 63 = .ok (.iaload, 1) := by decide +kernel
theorem dX12_goNight_64 : decode cX12_goNight 64 = .ok (.iastore, 1) := by decide +kernel
theorem dX12_goNight_65 : decode cX12_goNight 65 = .ok (.iinc 4 1, 3) := by decide +kernel
theorem dX12_goNight_68 : decode cX12_goNight 68 = .ok (.goto (-27), 3) := by decide +kernel
theorem dX12_goNight_71 : decode cX12_goNight 71 = .ok (.aload_n 1, 1) := by decide +kernel
theorem dX12_goNight_72 : decode cX12_goNight 72 = .ok (.bipush 30, 2) := by decide +kernel
theorem dX12_goNight_74 : decode cX12_goNight 74 = .ok (.dup2, 1) := by decide +kernel
theorem dX12_goNight_75 : decode cX12_goNight 75 = .ok (.iaload, 1) := by decide +kernel
theorem dX12_goNight_76 : decode cX12_goNight 76 = .ok (.iconst 1, 1) := by decide +kernel
theorem dX12_goNight_77 : decode cX12_goNight 77 = .ok (.isub, 1) := by decide +kernel
theorem dX12_goNight_78 : decode cX12_goNight 78 = .ok (.iastore, 1) := by decide +kernel
theorem dX12_goNight_79 : decode cX12_goNight 79 = .ok (.bipush 31, 2) := by decide +kernel
theorem dX12_goNight_81 : decode cX12_goNight 81 = .ok (.iconst 3, 1) := by decide +kernel
theorem dX12_goNight_82 : decode cX12_goNight 82 = .ok (.aload_n 1, 1) := by decide +kernel
theorem dX12_goNight_83 : decode cX12_goNight 83 = .ok (.bipush 30, 2) := by decide +kernel
theorem dX12_goNight_85 : decode cX12_goNight 85 = .ok (.iaload, 1) := by decide +kernel
theorem dX12_goNight_86 : decode cX12_goNight 86 = .ok (.imul, 1) := by decide +kernel
theorem dX12_goNight_87 : decode cX12_goNight 87 = .ok (.iadd, 1) := by decide +kernel
theorem dX12_goNight_88 : decode cX12_goNight 88 = .ok (.istore 4, 2) := by decide +kernel
theorem dX12_goNight_90 : decode cX12_goNight 90 = .ok (.aload_n 1, 1) := by decide +kernel
theorem dX12_goNight_91 : decode cX12_goNight 91 = .ok (.iload 4, 2) := by decide +kernel
theorem dX12_goNight_93 : decode cX12_goNight 93 = .ok (.iload_n 2, 1) := by decide +kernel
theorem dX12_goNight_94 : decode cX12_goNight 94 = .ok (.iastore, 1) := by decide +kernel
theorem dX12_goNight_95 : decode cX12_goNight 95 = .ok (.aload_n 1, 1) := by decide +kernel
theorem dX12_goNight_96 : decode cX12_goNight 96 = .ok (.iload 4, 2) := by decide +kernel
theorem dX12_goNight_98 : decode cX12_goNight 98 = .ok (.iconst 1, 1) := by decide +kernel
theorem dX12_goNight_99 : decode cX12_goNight 99 = .ok (.iadd, 1) := by decide +kernel
theorem dX12_goNight_100 : decode cX12_goNight 100 = .ok (.aload_n 1, 1) := by decide +kernel
theorem dX12_goNight_101 : decode cX12_goNight 101 = .ok (.bipush 22, 2) := by decide +kernel
theorem dX12_goNight_103 : decode cX12_goNight 103 = .ok (.iaload, 1) := by decide +kernel
theorem dX12_goNight_104 : decode cX12_goNight 104 = .ok (.iastore, 1) := by decide +kernel
theorem dX12_goNight_105 : decode cX12_goNight 105 = .ok (.aload_n 1, 1) := by decide +kernel
theorem dX12_goNight_106 : decode cX12_goNight 106 = .ok (.iload 4, 2) := by decide +kernel
theorem dX12_goNight_108 : decode cX12_goNight 108 = .ok (.iconst 2, 1) := by decide +kernel
theorem dX12_goNight_109 : decode cX12_goNight 109 = .ok (.iadd, 1) := by decide +kernel
theorem dX12_goNight_110 : decode cX12_goNight 110 = .ok (.iload_n 3, 1) := by decide +kernel
theorem dX12_goNight_111 : decode cX12_goNight 111 = .ok (.iastore, 1) := by decide +kernel
theorem dX12_goNight_112 : decode cX12_goNight 112 = .ok (.aload_n 1, 1) := by decide +kernel
theorem dX12_goNight_113 : decode cX12_goNight 113 = .ok (.bipush 30, 2) := by decide +kernel
theorem dX12_goNight_115 : decode cX12_goNight 115 = .ok (.dup2, 1) := by decide +kernel
theorem dX12_goNight_116 : decode cX12_goNight 116 = .ok (.iaload, 1) := by decide +kernel
theorem dX12_goNight_117 : decode cX12_goNight 117 = .ok (.iconst 1, 1) := by decide +kernel
theorem dX12_goNight_118 : decode cX12_goNight 118 = .ok (.iadd, 1) := by decide +kernel
theorem dX12_goNight_119 : decode cX12_goNight 119 = .ok (.iastore, 1) := by decide +kernel
theorem dX12_goNight_120 : decode cX12_goNight 120 = .ok (.aload_n 1, 1) := by decide +kernel
theorem dX12_goNight_121 : decode cX12_goNight 121 = .ok (.bipush 27, 2) := by decide +kernel
theorem dX12_goNight_123 : decode cX12_goNight 123 = .ok (.dup2, 1) := by decide +kernel
theorem dX12_goNight_124 : decode cX12_goNight 124 = .ok (.iaload, 1) := by decide +kernel
theorem dX12_goNight_125 : decode cX12_goNight 125 = .ok (.iload_n 3, 1) := by decide +kernel
theorem dX12_goNight_126 : decode cX12_goNight 126 = .ok (.iadd, 1) := by decide +kernel
theorem dX12_goNight_127 : decode cX12_goNight 127 = .ok (.iastore, 1) := by decide +kernel
theorem dX12_goNight_128 : decode cX12_goNight 128 = .ok (.aload_n 1, 1) := by decide +kernel
theorem dX12_goNight_129 : decode cX12_goNight 129 = .ok (.bipush 28, 2) := by decide +kernel
theorem dX12_goNight_131 : decode cX12_goNight 131 = .ok (.dup2, 1) := by decide +kernel
theorem dX12_goNight_132 : decode cX12_goNight 132 = .ok (.iaload, 1) := by decide +kernel
theorem dX12_goNight_133 : decode cX12_goNight 133 = .ok (.aload_n 0, 1) := by decide +kernel
theorem dX12_goNight_134 : decode cX12_goNight 134 = .ok (.getfield 49, 3) := by decide +kernel
theorem dX12_goNight_137 : decode cX12_goNight 137 = .ok (.iconst 3, 1) := by decide +kernel
theorem dX12_goNight_138 : decode cX12_goNight 138 = .ok (.iload_n 2, 1) := by decide +kernel
theorem dX12_goNight_139 : decode cX12_goNight 139 = .ok (.imul, 1) := by decide +kernel
theorem dX12_goNight_140 : decode cX12_goNight 140 = .ok (.iaload, 1) := by decide +kernel
theorem dX12_goNight_141 : decode cX12_goNight 141 = .ok (.iload_n 3, 1) := by decide +kernel
theorem dX12_goNight_142 : decode cX12_goNight 142 = .ok (.isub, 1) := by decide +kernel
theorem dX12_goNight_143 : decode cX12_goNight 143 = .ok (.iadd, 1) := by decide +kernel
theorem dX12_goNight_144 : decode cX12_goNight 144 = .ok (.iastore, 1) := by decide +kernel
theorem dX12_goNight_145 : decode cX12_goNight 145 = .ok (.aload_n 1, 1) := by decide +kernel
theorem dX12_goNight_146 : decode cX12_goNight 146 = .ok (.bipush 22, 2) := by decide +kernel
theorem dX12_goNight_148 : decode cX12_goNight 148 = .ok (.aload_n 0, 1) := by decide +kernel
theorem dX12_goNight_149 : decode cX12_goNight 149 = .ok (.aload_n 1, 1) := by decide +kernel
theorem dX12_goNight_150 : decode cX12_goNight 150 = .ok (.bipush 22, 2) := by decide +kernel
theorem dX12_goNight_152 : decode cX12_goNight 152 = .ok (.iaload, 1) := by decide +kernel
theorem dX12_goNight_153 : decode cX12_goNight 153 = .ok (.invokevirtual 343, 3) := by decide +kernel
theorem dX12_goNight_156 : decode cX12_goNight 156 = .ok (.iastore, 1) := by decide +kernel
theorem dX12_goNight_157 : decode cX12_goNight 157 = .ok (.iconst 0, 1) := by decide +kernel
theorem dX12_goNight_158 : decode cX12_goNight 158 = .ok (.istore 5, 2) := by decide +kernel
theorem dX12_goNight_160 : decode cX12_goNight 160 = .ok (.iload 5, 2) := by decide +kernel
theorem dX12_goNight_162 : decode cX12_goNight 162 = .ok (.aload_n 0, 1) := by decide +kernel
theorem dX12_goNight_163 : decode cX12_goNight 163 = .ok (.getfield 291, 3) := by decide +kernel
theorem dX12_goNight_166 : decode cX12_goNight 166 = .ok (.if_icmp .ge 32, 3) := by decide +kernel
theorem dX12_goNight_169 : decode cX12_goNight 169 = .ok (.aload_n 1, 1) := by decide +kernel
theorem dX12_goNight_170 : decode cX12_goNight 170 = .ok (.iconst 3, 1) := by decide +kernel
theorem dX12_goNight_171 : decode cX12_goNight 171 = .ok (.iload 5, 2) := by decide +kernel
theorem dX12_goNight_173 : decode cX12_goNight 173 = .ok (.imul, 1) := by decide +kernel
theorem dX12_goNight_174 : decode cX12_goNight 174 = .ok (.iconst 0, 1) := by decide +kernel
theorem dX12_goNight_175 : decode cX12_goNight 175 = .ok (.iadd, 1) := by decide +kernel
theorem dX12_goNight_176 : decode cX12_goNight 176 = .ok (.iconst 0, 1) := by decide +kernel
theorem dX12_goNight_177 : decode cX12_goNight 177 = .ok (.aload_n 1, 1) := by decide +kernel
theorem dX12_goNight_178 : decode cX12_goNight 178 = .ok (.iconst 3, 1) := by decide +kernel
theorem dX12_goNight_179 : decode cX12_goNight 179 = .ok (.iload 5, 2) := by decide +kernel
theorem dX12_goNight_181 : decode cX12_goNight 181 = .ok (.imul, 1) := by decide +kernel
theorem dX12_goNight_182 : decode cX12_goNight 182 = .ok (.iconst 0, 1) := by decide +kernel
theorem dX12_goNight_183 : decode cX12_goNight 183 = .ok (.iadd, 1) := by decide +kernel
theorem dX12_goNight_184 : decode cX12_goNight 184 = .ok (.iaload, 1) := by decide +kernel
theorem dX12_goNight_185 : decode cX12_goNight 185 = .ok (.bipush 6, 2) := by decide +kernel
theorem dX12_goNight_187 : decode cX12_goNight 187 = .ok (.isub, 1) := by decide +kernel
theorem dX12_goNight_188 : decode cX12_goNight 188 = .ok (.invokestatic 317, 3) := by decide +kernel
theorem dX12_goNight_191 : decode cX12_goNight 191 = .ok (.iastore, 1) := by decide +kernel
theorem dX12_goNight_192 : decode cX12_goNight 192 = .ok (.iinc 5 1, 3) := by decide +kernel
theorem dX12_goNight_195 : decode cX12_goNight 195 = .ok (.goto (-35), 3) := by decide +kernel
theorem dX12_goNight_198 : decode cX12_goNight 198 = .ok (.iconst 0, 1) := by decide +kernel
theorem dX12_goNight_199 : decode cX12_goNight 199 = .ok (.istore 5, 2) := by decide +kernel
theorem dX12_goNight_201 : decode cX12_goNight 201 = .ok (.iload 5, 2) := by decide +kernel
theorem dX12_goNight_203 : decode cX12_goNight 203 = .ok (.iconst 4, 1) := by decide +kernel
theorem dX12_goNight_204 : decode cX12_goNight 204 = .ok (.if_icmp .ge 29, 3) := by decide +kernel
theorem dX12_goNight_207 : decode cX12_goNight 207 = .ok (.aload_n 1, 1) := by decide +kernel
theorem dX12_goNight_208 : decode cX12_goNight 208 = .ok (.bipush 18, 2) := by decide +kernel
theorem dX12_goNight_210 : decode cX12_goNight 210 = .ok (.iload 5, 2) := by decide +kernel
theorem dX12_goNight_212 : decode cX12_goNight 212 = .ok (.iadd, 1) := by decide +kernel
theorem dX12_goNight_213 : decode cX12_goNight 213 = .ok (.iconst 0, 1) := by decide +kernel
theorem dX12_goNight_214 : decode cX12_goNight 214 = .ok (.aload_n 1, 1) := by decide +kernel
theorem dX12_goNight_215 : decode cX12_goNight 215 = .ok (.bipush 18, 2) := by decide +kernel
theorem dX12_goNight_217 : decode cX12_goNight 217 = .ok (.iload 5, 2) := by decide +kernel
theorem dX12_goNight_219 : decode cX12_goNight 219 = .ok (.iadd, 1) := by decide +kernel
theorem dX12_goNight_220 : decode cX12_goNight 220 = .ok (.iaload, 1) := by decide +kernel
theorem dX12_goNight_221 : decode cX12_goNight 221 = .ok (.iconst 1, 1) := by decide +kernel
theorem dX12_goNight_222 : decode cX12_goNight 222 = .ok (.isub, 1) := by decide +kernel
theorem dX12_goNight_223 : decode cX12_goNight 223 = .ok (.invokestatic 317, 3) := by decide +kernel
theorem dX12_goNight_226 : decode cX12_goNight 226 = .ok (.iastore, 1) := by decide +kernel
theorem dX12_goNight_227 : decode cX12_goNight 227 = .ok (.iinc 5 1, 3) := by decide +kernel
theorem dX12_goNight_230 : decode cX12_goNight 230 = .ok (.goto (-29), 3) := by decide +kernel
theorem dX12_goNight_233 : decode cX12_goNight 233 = .ok (.aload_n 1, 1) := by decide +kernel
theorem dX12_goNight_234 : decode cX12_goNight 234 = .ok (.bipush 24, 2) := by decide +kernel
theorem dX12_goNight_236 : decode cX12_goNight 236 = .ok (.iconst 0, 1) := by decide +kernel
theorem dX12_goNight_237 : decode cX12_goNight 237 = .ok (.iastore, 1) := by decide +kernel
theorem dX12_goNight_238 : decode cX12_goNight 238 = .ok (.aload_n 1, 1) := by decide +kernel
theorem dX12_goNight_239 : decode cX12_goNight 239 = .ok (.bipush 25, 2) := by decide +kernel
theorem dX12_goNight_241 : decode cX12_goNight 241 = .ok (.iconst 0, 1) := by decide +kernel
theorem dX12_goNight_242 : decode cX12_goNight 242 = .ok (.iastore, 1) := by decide +kernel
theorem dX12_goNight_243 : decode cX12_goNight 243 = .ok (.aload_n 1, 1) := by decide +kernel
theorem dX12_goNight_244 : decode cX12_goNight 244 = .ok (.bipush 26, 2) := by decide +kernel
theorem dX12_goNight_246 : decode cX12_goNight 246 = .ok (.iconst 0, 1) := by decide +kernel
theorem dX12_goNight_247 : decode cX12_goNight 247 = .ok (.iastore, 1) := by decide +kernel
theorem dX12_goNight_248 : decode cX12_goNight 248 = .ok (.aload_n 1, 1) := by decide +kernel
theorem dX12_goNight_249 : decode cX12_goNight 249 = .ok (.iconst 3, 1) := by decide +kernel
theorem dX12_goNight_250 : decode cX12_goNight 250 = .ok (.iload_n 2, 1) := by decide +kernel
theorem dX12_goNight_251 : decode cX12_goNight 251 = .ok (.imul, 1) := by decide +kernel
theorem dX12_goNight_252 : decode cX12_goNight 252 = .ok (.iconst 2, 1) := by decide +kernel
theorem dX12_goNight_253 : decode cX12_goNight 253 = .ok (.iadd, 1) := by decide +kernel
theorem dX12_goNight_254 : decode cX12_goNight 254 = .ok (.dup2, 1) := by decide +kernel
theorem dX12_goNight_255 : decode cX12_goNight 255 = .ok (.iaload, 1) := by decide +kernel
theorem dX12_goNight_256 : decode cX12_goNight 256 = .ok (.iconst 1, 1) := by decide +kernel
theorem dX12_goNight_257 : decode cX12_goNight 257 = .ok (.iadd, 1) := by decide +kernel
theorem dX12_goNight_258 : decode cX12_goNight 258 = .ok (.iastore, 1) := by decide +kernel
theorem dX12_goNight_259 : decode cX12_goNight 259 = .ok (.aload_n 1, 1) := by decide +kernel
theorem dX12_goNight_260 : decode cX12_goNight 260 = .ok (.bipush 23, 2) := by decide +kernel
theorem dX12_goNight_262 : decode cX12_goNight 262 = .ok (.iload_n 2, 1) := by decide +kernel
theorem dX12_goNight_263 : decode cX12_goNight 263 = .ok (.iconst 1, 1) := by decide +kernel
theorem dX12_goNight_264 : decode cX12_goNight 264 = .ok (.iadd, 1) := by decide +kernel
theorem dX12_goNight_265 : decode cX12_goNight 265 = .ok (.aload_n 0, 1) := by decide +kernel
theorem dX12_goNight_266 : decode cX12_goNight 266 = .ok (.getfield 291, 3) := by decide +kernel
theorem dX12_goNight_269 : decode cX12_goNight 269 = .ok (.irem, 1) := by decide +kernel
theorem dX12_goNight_270 : decode cX12_goNight 270 = .ok (.iastore, 1) := by decide +kernel
theorem dX12_goNight_271 : decode cX12_goNight 271 = .ok (.aload_n 1, 1) := by decide +kernel
theorem dX12_goNight_272 : decode cX12_goNight 272 = .ok (.bipush 29, 2) := by decide +kernel
theorem dX12_goNight_274 : decode cX12_goNight 274 = .ok (.dup2, 1) := by decide +kernel
theorem dX12_goNight_275 : decode cX12_goNight 275 = .ok (.iaload, 1) := by decide +kernel
theorem dX12_goNight_276 : decode cX12_goNight 276 = .ok (.iconst 1, 1) := by decide +kernel
theorem dX12_goNight_277 : decode cX12_goNight 277 = .ok (.iadd, 1) := by decide +kernel
theorem dX12_goNight_278 : decode cX12_goNight 278 = .ok (.iastore, 1) := by decide +kernel
theorem dX12_goNight_279 : decode cX12_goNight 279 = .ok (.iload_n 3, 1) := by decide +kernel
theorem dX12_goNight_280 : decode cX12_goNight 280 = .ok (.ireturn, 1) := by decide +kernel
def X12_goNight_201 (n : Nat) (a1 : Nat) : Nat → Int32 → Int32 → Int32 → Mm → Option (Int32 × Mm)
  | 0, _, _, _, _ => none
  | f + 1, x2, x3, x5, h => (if (4 : Int32) ≤ x5 then (if inB (24 : Int32) (aln a1) then (if inB (25 : Int32) (aln a1) then (if inB (26 : Int32) (aln a1) then (if inB (((3 : Int32) * x2) + (2 : Int32)) (aln a1) then (if inB (((3 : Int32) * x2) + (2 : Int32)) (aln a1) then (if ¬ ((wI (wI (wI (wI h a1 (24 : Int32).toNatClampNeg (0 : Int32)) a1 (25 : Int32).toNatClampNeg (0 : Int32)) a1 (26 : Int32).toNatClampNeg (0 : Int32)) a1 (((3 : Int32) * x2) + (2 : Int32)).toNatClampNeg (((wI (wI (wI h a1 (24 : Int32).toNatClampNeg (0 : Int32)) a1 (25 : Int32).toNatClampNeg (0 : Int32)) a1 (26 : Int32).toNatClampNeg (0 : Int32)).1 a1 (((3 : Int32) * x2) + (2 : Int32)).toNatClampNeg) + (1 : Int32))).1 251 27) = 0 then (if inB (23 : Int32) (aln a1) then (if inB (29 : Int32) (aln a1) then (if inB (29 : Int32) (aln a1) then (some (x3, (wI (wI (wI (wI (wI (wI h a1 (24 : Int32).toNatClampNeg (0 : Int32)) a1 (25 : Int32).toNatClampNeg (0 : Int32)) a1 (26 : Int32).toNatClampNeg (0 : Int32)) a1 (((3 : Int32) * x2) + (2 : Int32)).toNatClampNeg (((wI (wI (wI h a1 (24 : Int32).toNatClampNeg (0 : Int32)) a1 (25 : Int32).toNatClampNeg (0 : Int32)) a1 (26 : Int32).toNatClampNeg (0 : Int32)).1 a1 (((3 : Int32) * x2) + (2 : Int32)).toNatClampNeg) + (1 : Int32))) a1 (23 : Int32).toNatClampNeg ((x2 + (1 : Int32)) - (x2 + (1 : Int32)) / ((wI (wI (wI (wI h a1 (24 : Int32).toNatClampNeg (0 : Int32)) a1 (25 : Int32).toNatClampNeg (0 : Int32)) a1 (26 : Int32).toNatClampNeg (0 : Int32)) a1 (((3 : Int32) * x2) + (2 : Int32)).toNatClampNeg (((wI (wI (wI h a1 (24 : Int32).toNatClampNeg (0 : Int32)) a1 (25 : Int32).toNatClampNeg (0 : Int32)) a1 (26 : Int32).toNatClampNeg (0 : Int32)).1 a1 (((3 : Int32) * x2) + (2 : Int32)).toNatClampNeg) + (1 : Int32))).1 251 27) * ((wI (wI (wI (wI h a1 (24 : Int32).toNatClampNeg (0 : Int32)) a1 (25 : Int32).toNatClampNeg (0 : Int32)) a1 (26 : Int32).toNatClampNeg (0 : Int32)) a1 (((3 : Int32) * x2) + (2 : Int32)).toNatClampNeg (((wI (wI (wI h a1 (24 : Int32).toNatClampNeg (0 : Int32)) a1 (25 : Int32).toNatClampNeg (0 : Int32)) a1 (26 : Int32).toNatClampNeg (0 : Int32)).1 a1 (((3 : Int32) * x2) + (2 : Int32)).toNatClampNeg) + (1 : Int32))).1 251 27))) a1 (29 : Int32).toNatClampNeg (((wI (wI (wI (wI (wI h a1 (24 : Int32).toNatClampNeg (0 : Int32)) a1 (25 : Int32).toNatClampNeg (0 : Int32)) a1 (26 : Int32).toNatClampNeg (0 : Int32)) a1 (((3 : Int32) * x2) + (2 : Int32)).toNatClampNeg (((wI (wI (wI h a1 (24 : Int32).toNatClampNeg (0 : Int32)) a1 (25 : Int32).toNatClampNeg (0 : Int32)) a1 (26 : Int32).toNatClampNeg (0 : Int32)).1 a1 (((3 : Int32) * x2) + (2 : Int32)).toNatClampNeg) + (1 : Int32))) a1 (23 : Int32).toNatClampNeg ((x2 + (1 : Int32)) - (x2 + (1 : Int32)) / ((wI (wI (wI (wI h a1 (24 : Int32).toNatClampNeg (0 : Int32)) a1 (25 : Int32).toNatClampNeg (0 : Int32)) a1 (26 : Int32).toNatClampNeg (0 : Int32)) a1 (((3 : Int32) * x2) + (2 : Int32)).toNatClampNeg (((wI (wI (wI h a1 (24 : Int32).toNatClampNeg (0 : Int32)) a1 (25 : Int32).toNatClampNeg (0 : Int32)) a1 (26 : Int32).toNatClampNeg (0 : Int32)).1 a1 (((3 : Int32) * x2) + (2 : Int32)).toNatClampNeg) + (1 : Int32))).1 251 27) * ((wI (wI (wI (wI h a1 (24 : Int32).toNatClampNeg (0 : Int32)) a1 (25 : Int32).toNatClampNeg (0 : Int32)) a1 (26 : Int32).toNatClampNeg (0 : Int32)) a1 (((3 : Int32) * x2) + (2 : Int32)).toNatClampNeg (((wI (wI (wI h a1 (24 : Int32).toNatClampNeg (0 : Int32)) a1 (25 : Int32).toNatClampNeg (0 : Int32)) a1 (26 : Int32).toNatClampNeg (0 : Int32)).1 a1 (((3 : Int32) * x2) + (2 : Int32)).toNatClampNeg) + (1 : Int32))).1 251 27))).1 a1 (29 : Int32).toNatClampNeg) + (1 : Int32))))) else none) else none) else none) else none) else none) else none) else none) else none) else none) else (if inB ((18 : Int32) + x5) (aln a1) then (bp (J9_max_7cf53 (0 : Int32) ((h.1 a1 ((18 : Int32) + x5).toNatClampNeg) - (1 : Int32)) h) (fun r29 => (if inB ((18 : Int32) + x5) (aln a1) then ((X12_goNight_201 n a1 f) x2 x3 (x5 + (1)) (wI h a1 ((18 : Int32) + x5).toNatClampNeg r29)) else none))) else none))
set_option maxRecDepth 100000 in
set_option maxHeartbeats 4000000 in
theorem v_X12_goNight_201 {X : WX} {G : GX} {o : Mm} {n : Nat} {a1 : Nat} {rv : Int32} {hz : Mm} (ha1 : isO false 0 a1) : ∀ (f : Nat) (x2 : Int32) (x3 : Int32) (x5 : Int32) (h : Mm), X12_goNight_201 n a1 f x2 x3 x5 h = some (rv, hz) → V X G RX12 cX12_goNight 6 (some .int) 3 0 0 (QR X G false o (some (.int rv)) hz) false o 201 [(0, .ref (xa X 251)), (1, .ref (xa X a1)), (2, .int x2), (3, .int x3), (5, .int x5)] [] h := by
  intro f
  induction f with
  | zero => intro x2 x3 x5 h hF; exact nomatch (show (none : Option (Int32 × Mm)) = some (rv, hz) from hF)
  | succ f ih =>
    intro x2 x3 x5 h hF
    unfold X12_goNight_201 at hF
    refine V.iload 4 dX12_goNight_201 rfl ?_
    refine V.iconst (v := 4) dX12_goNight_203 rfl ?_
    refine V.icmp_ge (tgt := 233) dX12_goNight_204 rfl (fun c => ?_) (fun c => ?_)
    · replace hF := ip c hF
      refine V.aload_n 1 dX12_goNight_233 rfl rfl ?_
      refine V.bipush (v := 24) dX12_goNight_234 (by decide) ?_
      refine V.iconst (v := 0) dX12_goNight_236 rfl ?_
      obtain ⟨hk, hF⟩ := ck hF
      refine V.iast ha1 hk dX12_goNight_237 ?_
      refine V.aload_n 1 dX12_goNight_238 rfl rfl ?_
      refine V.bipush (v := 25) dX12_goNight_239 (by decide) ?_
      refine V.iconst (v := 0) dX12_goNight_241 rfl ?_
      obtain ⟨hk, hF⟩ := ck hF
      refine V.iast ha1 hk dX12_goNight_242 ?_
      refine V.aload_n 1 dX12_goNight_243 rfl rfl ?_
      refine V.bipush (v := 26) dX12_goNight_244 (by decide) ?_
      refine V.iconst (v := 0) dX12_goNight_246 rfl ?_
      obtain ⟨hk, hF⟩ := ck hF
      refine V.iast ha1 hk dX12_goNight_247 ?_
      refine V.aload_n 1 dX12_goNight_248 rfl rfl ?_
      refine V.iconst (v := 3) dX12_goNight_249 rfl ?_
      refine V.iload_n 2 dX12_goNight_250 rfl rfl ?_
      refine V.imul dX12_goNight_251 ?_
      refine V.iconst (v := 2) dX12_goNight_252 rfl ?_
      refine V.iadd dX12_goNight_253 ?_
      refine V.dup2 dX12_goNight_254 rfl rfl ?_
      obtain ⟨hk, hF⟩ := ck hF
      refine V.iald ha1 hk dX12_goNight_255 ?_
      refine V.iconst (v := 1) dX12_goNight_256 rfl ?_
      refine V.iadd dX12_goNight_257 ?_
      obtain ⟨hk, hF⟩ := ck hF
      refine V.iast ha1 hk dX12_goNight_258 ?_
      refine V.aload_n 1 dX12_goNight_259 rfl rfl ?_
      refine V.bipush (v := 23) dX12_goNight_260 (by decide) ?_
      refine V.iload_n 2 dX12_goNight_262 rfl rfl ?_
      refine V.iconst (v := 1) dX12_goNight_263 rfl ?_
      refine V.iadd dX12_goNight_264 ?_
      refine V.aload_n 0 dX12_goNight_265 rfl rfl ?_
      refine V.getI fl_X12_291 sh_251 rfl km_251 dX12_goNight_266 ?_
      obtain ⟨hk, hF⟩ := ck hF
      refine V.irem dX12_goNight_269 hk ?_
      obtain ⟨hk, hF⟩ := ck hF
      refine V.iast ha1 hk dX12_goNight_270 ?_
      refine V.aload_n 1 dX12_goNight_271 rfl rfl ?_
      refine V.bipush (v := 29) dX12_goNight_272 (by decide) ?_
      refine V.dup2 dX12_goNight_274 rfl rfl ?_
      obtain ⟨hk, hF⟩ := ck hF
      refine V.iald ha1 hk dX12_goNight_275 ?_
      refine V.iconst (v := 1) dX12_goNight_276 rfl ?_
      refine V.iadd dX12_goNight_277 ?_
      obtain ⟨hk, hF⟩ := ck hF
      refine V.iast ha1 hk dX12_goNight_278 ?_
      refine V.iload_n 3 dX12_goNight_279 rfl rfl ?_
      cases hF
      exact V.iret dX12_goNight_280
    · replace hF := iq c hF
      refine V.aload_n 1 dX12_goNight_207 rfl rfl ?_
      refine V.bipush (v := 18) dX12_goNight_208 (by decide) ?_
      refine V.iload 4 dX12_goNight_210 rfl ?_
      refine V.iadd dX12_goNight_212 ?_
      refine V.iconst (v := 0) dX12_goNight_213 rfl ?_
      refine V.aload_n 1 dX12_goNight_214 rfl rfl ?_
      refine V.bipush (v := 18) dX12_goNight_215 (by decide) ?_
      refine V.iload 4 dX12_goNight_217 rfl ?_
      refine V.iadd dX12_goNight_219 ?_
      obtain ⟨hk, hF⟩ := ck hF
      refine V.iald ha1 hk dX12_goNight_220 ?_
      refine V.iconst (v := 1) dX12_goNight_221 rfl ?_
      refine V.isub dX12_goNight_222 ?_
      obtain ⟨r29, hc30, hF⟩ := bp_s hF
      refine V.callSi mf_J9_max_7cf53 ml_X12_317 (s_J9_max_7cf53 hc30) (by decide) rfl rfl (Nat.le_of_ble_eq_true rfl) dX12_goNight_223 ?_
      obtain ⟨hk, hF⟩ := ck hF
      refine V.iast ha1 hk dX12_goNight_226 ?_
      refine V.iinc (v := (x5 + (1))) 4 [(5, _), (0, _), (1, _), (2, _), (3, _)] dX12_goNight_227 rfl rfl (by decide) rfl ?_
      refine V.goto (tgt := 201) dX12_goNight_230 rfl ?_
      exact V.sub [1, 2, 3, 4, 0] rfl (ih _ _ _ _ hF)
def X12_goNight_160 (n : Nat) (a1 : Nat) : Nat → Int32 → Int32 → Int32 → Mm → Option (Int32 × Mm)
  | 0, _, _, _, _ => none
  | f + 1, x2, x3, x5, h => (if (h.1 251 27) ≤ x5 then (X12_goNight_201 n a1 n x2 x3 (0 : Int32) h) else (if inB (((3 : Int32) * x5) + (0 : Int32)) (aln a1) then (bp (J9_max_7cf53 (0 : Int32) ((h.1 a1 (((3 : Int32) * x5) + (0 : Int32)).toNatClampNeg) - (6 : Int32)) h) (fun r31 => (if inB (((3 : Int32) * x5) + (0 : Int32)) (aln a1) then ((X12_goNight_160 n a1 f) x2 x3 (x5 + (1)) (wI h a1 (((3 : Int32) * x5) + (0 : Int32)).toNatClampNeg r31)) else none))) else none))
set_option maxRecDepth 100000 in
set_option maxHeartbeats 4000000 in
theorem v_X12_goNight_160 {X : WX} {G : GX} {o : Mm} {n : Nat} {a1 : Nat} {rv : Int32} {hz : Mm} (ha1 : isO false 0 a1) : ∀ (f : Nat) (x2 : Int32) (x3 : Int32) (x5 : Int32) (h : Mm), X12_goNight_160 n a1 f x2 x3 x5 h = some (rv, hz) → V X G RX12 cX12_goNight 6 (some .int) 3 0 0 (QR X G false o (some (.int rv)) hz) false o 160 [(0, .ref (xa X 251)), (1, .ref (xa X a1)), (2, .int x2), (3, .int x3), (5, .int x5)] [] h := by
  intro f
  induction f with
  | zero => intro x2 x3 x5 h hF; exact nomatch (show (none : Option (Int32 × Mm)) = some (rv, hz) from hF)
  | succ f ih =>
    intro x2 x3 x5 h hF
    unfold X12_goNight_160 at hF
    refine V.iload 4 dX12_goNight_160 rfl ?_
    refine V.aload_n 0 dX12_goNight_162 rfl rfl ?_
    refine V.getI fl_X12_291 sh_251 rfl km_251 dX12_goNight_163 ?_
    refine V.icmp_ge (tgt := 198) dX12_goNight_166 rfl (fun c => ?_) (fun c => ?_)
    · replace hF := ip c hF
      refine V.iconst (v := 0) dX12_goNight_198 rfl ?_
      refine V.istore [(5, _), (0, _), (1, _), (2, _), (3, _)] dX12_goNight_199 (by decide) rfl ?_
      exact V.sub [1, 2, 3, 4, 0] rfl (v_X12_goNight_201 ha1 n _ _ _ _ hF)
    · replace hF := iq c hF
      refine V.aload_n 1 dX12_goNight_169 rfl rfl ?_
      refine V.iconst (v := 3) dX12_goNight_170 rfl ?_
      refine V.iload 4 dX12_goNight_171 rfl ?_
      refine V.imul dX12_goNight_173 ?_
      refine V.iconst (v := 0) dX12_goNight_174 rfl ?_
      refine V.iadd dX12_goNight_175 ?_
      refine V.iconst (v := 0) dX12_goNight_176 rfl ?_
      refine V.aload_n 1 dX12_goNight_177 rfl rfl ?_
      refine V.iconst (v := 3) dX12_goNight_178 rfl ?_
      refine V.iload 4 dX12_goNight_179 rfl ?_
      refine V.imul dX12_goNight_181 ?_
      refine V.iconst (v := 0) dX12_goNight_182 rfl ?_
      refine V.iadd dX12_goNight_183 ?_
      obtain ⟨hk, hF⟩ := ck hF
      refine V.iald ha1 hk dX12_goNight_184 ?_
      refine V.bipush (v := 6) dX12_goNight_185 (by decide) ?_
      refine V.isub dX12_goNight_187 ?_
      obtain ⟨r31, hc32, hF⟩ := bp_s hF
      refine V.callSi mf_J9_max_7cf53 ml_X12_317 (s_J9_max_7cf53 hc32) (by decide) rfl rfl (Nat.le_of_ble_eq_true rfl) dX12_goNight_188 ?_
      obtain ⟨hk, hF⟩ := ck hF
      refine V.iast ha1 hk dX12_goNight_191 ?_
      refine V.iinc (v := (x5 + (1))) 4 [(5, _), (0, _), (1, _), (2, _), (3, _)] dX12_goNight_192 rfl rfl (by decide) rfl ?_
      refine V.goto (tgt := 160) dX12_goNight_195 rfl ?_
      exact V.sub [1, 2, 3, 4, 0] rfl (ih _ _ _ _ hF)
def X12_goNight_79 (n : Nat) (a1 : Nat) (x2 : Int32) (x3 : Int32) (h : Mm) : Option (Int32 × Mm) := (if inB (30 : Int32) (aln a1) then (if inB ((31 : Int32) + ((3 : Int32) * (h.1 a1 (30 : Int32).toNatClampNeg))) (aln a1) then (if inB (22 : Int32) (aln a1) then (if inB (((31 : Int32) + ((3 : Int32) * (h.1 a1 (30 : Int32).toNatClampNeg))) + (1 : Int32)) (aln a1) then (if inB (((31 : Int32) + ((3 : Int32) * (h.1 a1 (30 : Int32).toNatClampNeg))) + (2 : Int32)) (aln a1) then (if inB (30 : Int32) (aln a1) then (if inB (30 : Int32) (aln a1) then (if inB (27 : Int32) (aln a1) then (if inB (27 : Int32) (aln a1) then (if inB (28 : Int32) (aln a1) then (if inB ((3 : Int32) * x2) (aln 260) then (if inB (28 : Int32) (aln a1) then (if inB (22 : Int32) (aln a1) then (bp (X12_behind ((wI (wI (wI (wI (wI (wI h a1 ((31 : Int32) + ((3 : Int32) * (h.1 a1 (30 : Int32).toNatClampNeg))).toNatClampNeg x2) a1 (((31 : Int32) + ((3 : Int32) * (h.1 a1 (30 : Int32).toNatClampNeg))) + (1 : Int32)).toNatClampNeg ((wI h a1 ((31 : Int32) + ((3 : Int32) * (h.1 a1 (30 : Int32).toNatClampNeg))).toNatClampNeg x2).1 a1 (22 : Int32).toNatClampNeg)) a1 (((31 : Int32) + ((3 : Int32) * (h.1 a1 (30 : Int32).toNatClampNeg))) + (2 : Int32)).toNatClampNeg x3) a1 (30 : Int32).toNatClampNeg (((wI (wI (wI h a1 ((31 : Int32) + ((3 : Int32) * (h.1 a1 (30 : Int32).toNatClampNeg))).toNatClampNeg x2) a1 (((31 : Int32) + ((3 : Int32) * (h.1 a1 (30 : Int32).toNatClampNeg))) + (1 : Int32)).toNatClampNeg ((wI h a1 ((31 : Int32) + ((3 : Int32) * (h.1 a1 (30 : Int32).toNatClampNeg))).toNatClampNeg x2).1 a1 (22 : Int32).toNatClampNeg)) a1 (((31 : Int32) + ((3 : Int32) * (h.1 a1 (30 : Int32).toNatClampNeg))) + (2 : Int32)).toNatClampNeg x3).1 a1 (30 : Int32).toNatClampNeg) + (1 : Int32))) a1 (27 : Int32).toNatClampNeg (((wI (wI (wI (wI h a1 ((31 : Int32) + ((3 : Int32) * (h.1 a1 (30 : Int32).toNatClampNeg))).toNatClampNeg x2) a1 (((31 : Int32) + ((3 : Int32) * (h.1 a1 (30 : Int32).toNatClampNeg))) + (1 : Int32)).toNatClampNeg ((wI h a1 ((31 : Int32) + ((3 : Int32) * (h.1 a1 (30 : Int32).toNatClampNeg))).toNatClampNeg x2).1 a1 (22 : Int32).toNatClampNeg)) a1 (((31 : Int32) + ((3 : Int32) * (h.1 a1 (30 : Int32).toNatClampNeg))) + (2 : Int32)).toNatClampNeg x3) a1 (30 : Int32).toNatClampNeg (((wI (wI (wI h a1 ((31 : Int32) + ((3 : Int32) * (h.1 a1 (30 : Int32).toNatClampNeg))).toNatClampNeg x2) a1 (((31 : Int32) + ((3 : Int32) * (h.1 a1 (30 : Int32).toNatClampNeg))) + (1 : Int32)).toNatClampNeg ((wI h a1 ((31 : Int32) + ((3 : Int32) * (h.1 a1 (30 : Int32).toNatClampNeg))).toNatClampNeg x2).1 a1 (22 : Int32).toNatClampNeg)) a1 (((31 : Int32) + ((3 : Int32) * (h.1 a1 (30 : Int32).toNatClampNeg))) + (2 : Int32)).toNatClampNeg x3).1 a1 (30 : Int32).toNatClampNeg) + (1 : Int32))).1 a1 (27 : Int32).toNatClampNeg) + x3)) a1 (28 : Int32).toNatClampNeg (((wI (wI (wI (wI (wI h a1 ((31 : Int32) + ((3 : Int32) * (h.1 a1 (30 : Int32).toNatClampNeg))).toNatClampNeg x2) a1 (((31 : Int32) + ((3 : Int32) * (h.1 a1 (30 : Int32).toNatClampNeg))) + (1 : Int32)).toNatClampNeg ((wI h a1 ((31 : Int32) + ((3 : Int32) * (h.1 a1 (30 : Int32).toNatClampNeg))).toNatClampNeg x2).1 a1 (22 : Int32).toNatClampNeg)) a1 (((31 : Int32) + ((3 : Int32) * (h.1 a1 (30 : Int32).toNatClampNeg))) + (2 : Int32)).toNatClampNeg x3) a1 (30 : Int32).toNatClampNeg (((wI (wI (wI h a1 ((31 : Int32) + ((3 : Int32) * (h.1 a1 (30 : Int32).toNatClampNeg))).toNatClampNeg x2) a1 (((31 : Int32) + ((3 : Int32) * (h.1 a1 (30 : Int32).toNatClampNeg))) + (1 : Int32)).toNatClampNeg ((wI h a1 ((31 : Int32) + ((3 : Int32) * (h.1 a1 (30 : Int32).toNatClampNeg))).toNatClampNeg x2).1 a1 (22 : Int32).toNatClampNeg)) a1 (((31 : Int32) + ((3 : Int32) * (h.1 a1 (30 : Int32).toNatClampNeg))) + (2 : Int32)).toNatClampNeg x3).1 a1 (30 : Int32).toNatClampNeg) + (1 : Int32))) a1 (27 : Int32).toNatClampNeg (((wI (wI (wI (wI h a1 ((31 : Int32) + ((3 : Int32) * (h.1 a1 (30 : Int32).toNatClampNeg))).toNatClampNeg x2) a1 (((31 : Int32) + ((3 : Int32) * (h.1 a1 (30 : Int32).toNatClampNeg))) + (1 : Int32)).toNatClampNeg ((wI h a1 ((31 : Int32) + ((3 : Int32) * (h.1 a1 (30 : Int32).toNatClampNeg))).toNatClampNeg x2).1 a1 (22 : Int32).toNatClampNeg)) a1 (((31 : Int32) + ((3 : Int32) * (h.1 a1 (30 : Int32).toNatClampNeg))) + (2 : Int32)).toNatClampNeg x3) a1 (30 : Int32).toNatClampNeg (((wI (wI (wI h a1 ((31 : Int32) + ((3 : Int32) * (h.1 a1 (30 : Int32).toNatClampNeg))).toNatClampNeg x2) a1 (((31 : Int32) + ((3 : Int32) * (h.1 a1 (30 : Int32).toNatClampNeg))) + (1 : Int32)).toNatClampNeg ((wI h a1 ((31 : Int32) + ((3 : Int32) * (h.1 a1 (30 : Int32).toNatClampNeg))).toNatClampNeg x2).1 a1 (22 : Int32).toNatClampNeg)) a1 (((31 : Int32) + ((3 : Int32) * (h.1 a1 (30 : Int32).toNatClampNeg))) + (2 : Int32)).toNatClampNeg x3).1 a1 (30 : Int32).toNatClampNeg) + (1 : Int32))).1 a1 (27 : Int32).toNatClampNeg) + x3)).1 a1 (28 : Int32).toNatClampNeg) + (((wI (wI (wI (wI (wI h a1 ((31 : Int32) + ((3 : Int32) * (h.1 a1 (30 : Int32).toNatClampNeg))).toNatClampNeg x2) a1 (((31 : Int32) + ((3 : Int32) * (h.1 a1 (30 : Int32).toNatClampNeg))) + (1 : Int32)).toNatClampNeg ((wI h a1 ((31 : Int32) + ((3 : Int32) * (h.1 a1 (30 : Int32).toNatClampNeg))).toNatClampNeg x2).1 a1 (22 : Int32).toNatClampNeg)) a1 (((31 : Int32) + ((3 : Int32) * (h.1 a1 (30 : Int32).toNatClampNeg))) + (2 : Int32)).toNatClampNeg x3) a1 (30 : Int32).toNatClampNeg (((wI (wI (wI h a1 ((31 : Int32) + ((3 : Int32) * (h.1 a1 (30 : Int32).toNatClampNeg))).toNatClampNeg x2) a1 (((31 : Int32) + ((3 : Int32) * (h.1 a1 (30 : Int32).toNatClampNeg))) + (1 : Int32)).toNatClampNeg ((wI h a1 ((31 : Int32) + ((3 : Int32) * (h.1 a1 (30 : Int32).toNatClampNeg))).toNatClampNeg x2).1 a1 (22 : Int32).toNatClampNeg)) a1 (((31 : Int32) + ((3 : Int32) * (h.1 a1 (30 : Int32).toNatClampNeg))) + (2 : Int32)).toNatClampNeg x3).1 a1 (30 : Int32).toNatClampNeg) + (1 : Int32))) a1 (27 : Int32).toNatClampNeg (((wI (wI (wI (wI h a1 ((31 : Int32) + ((3 : Int32) * (h.1 a1 (30 : Int32).toNatClampNeg))).toNatClampNeg x2) a1 (((31 : Int32) + ((3 : Int32) * (h.1 a1 (30 : Int32).toNatClampNeg))) + (1 : Int32)).toNatClampNeg ((wI h a1 ((31 : Int32) + ((3 : Int32) * (h.1 a1 (30 : Int32).toNatClampNeg))).toNatClampNeg x2).1 a1 (22 : Int32).toNatClampNeg)) a1 (((31 : Int32) + ((3 : Int32) * (h.1 a1 (30 : Int32).toNatClampNeg))) + (2 : Int32)).toNatClampNeg x3) a1 (30 : Int32).toNatClampNeg (((wI (wI (wI h a1 ((31 : Int32) + ((3 : Int32) * (h.1 a1 (30 : Int32).toNatClampNeg))).toNatClampNeg x2) a1 (((31 : Int32) + ((3 : Int32) * (h.1 a1 (30 : Int32).toNatClampNeg))) + (1 : Int32)).toNatClampNeg ((wI h a1 ((31 : Int32) + ((3 : Int32) * (h.1 a1 (30 : Int32).toNatClampNeg))).toNatClampNeg x2).1 a1 (22 : Int32).toNatClampNeg)) a1 (((31 : Int32) + ((3 : Int32) * (h.1 a1 (30 : Int32).toNatClampNeg))) + (2 : Int32)).toNatClampNeg x3).1 a1 (30 : Int32).toNatClampNeg) + (1 : Int32))).1 a1 (27 : Int32).toNatClampNeg) + x3)).1 260 ((3 : Int32) * x2).toNatClampNeg) - x3))).1 a1 (22 : Int32).toNatClampNeg) (wI (wI (wI (wI (wI (wI h a1 ((31 : Int32) + ((3 : Int32) * (h.1 a1 (30 : Int32).toNatClampNeg))).toNatClampNeg x2) a1 (((31 : Int32) + ((3 : Int32) * (h.1 a1 (30 : Int32).toNatClampNeg))) + (1 : Int32)).toNatClampNeg ((wI h a1 ((31 : Int32) + ((3 : Int32) * (h.1 a1 (30 : Int32).toNatClampNeg))).toNatClampNeg x2).1 a1 (22 : Int32).toNatClampNeg)) a1 (((31 : Int32) + ((3 : Int32) * (h.1 a1 (30 : Int32).toNatClampNeg))) + (2 : Int32)).toNatClampNeg x3) a1 (30 : Int32).toNatClampNeg (((wI (wI (wI h a1 ((31 : Int32) + ((3 : Int32) * (h.1 a1 (30 : Int32).toNatClampNeg))).toNatClampNeg x2) a1 (((31 : Int32) + ((3 : Int32) * (h.1 a1 (30 : Int32).toNatClampNeg))) + (1 : Int32)).toNatClampNeg ((wI h a1 ((31 : Int32) + ((3 : Int32) * (h.1 a1 (30 : Int32).toNatClampNeg))).toNatClampNeg x2).1 a1 (22 : Int32).toNatClampNeg)) a1 (((31 : Int32) + ((3 : Int32) * (h.1 a1 (30 : Int32).toNatClampNeg))) + (2 : Int32)).toNatClampNeg x3).1 a1 (30 : Int32).toNatClampNeg) + (1 : Int32))) a1 (27 : Int32).toNatClampNeg (((wI (wI (wI (wI h a1 ((31 : Int32) + ((3 : Int32) * (h.1 a1 (30 : Int32).toNatClampNeg))).toNatClampNeg x2) a1 (((31 : Int32) + ((3 : Int32) * (h.1 a1 (30 : Int32).toNatClampNeg))) + (1 : Int32)).toNatClampNeg ((wI h a1 ((31 : Int32) + ((3 : Int32) * (h.1 a1 (30 : Int32).toNatClampNeg))).toNatClampNeg x2).1 a1 (22 : Int32).toNatClampNeg)) a1 (((31 : Int32) + ((3 : Int32) * (h.1 a1 (30 : Int32).toNatClampNeg))) + (2 : Int32)).toNatClampNeg x3) a1 (30 : Int32).toNatClampNeg (((wI (wI (wI h a1 ((31 : Int32) + ((3 : Int32) * (h.1 a1 (30 : Int32).toNatClampNeg))).toNatClampNeg x2) a1 (((31 : Int32) + ((3 : Int32) * (h.1 a1 (30 : Int32).toNatClampNeg))) + (1 : Int32)).toNatClampNeg ((wI h a1 ((31 : Int32) + ((3 : Int32) * (h.1 a1 (30 : Int32).toNatClampNeg))).toNatClampNeg x2).1 a1 (22 : Int32).toNatClampNeg)) a1 (((31 : Int32) + ((3 : Int32) * (h.1 a1 (30 : Int32).toNatClampNeg))) + (2 : Int32)).toNatClampNeg x3).1 a1 (30 : Int32).toNatClampNeg) + (1 : Int32))).1 a1 (27 : Int32).toNatClampNeg) + x3)) a1 (28 : Int32).toNatClampNeg (((wI (wI (wI (wI (wI h a1 ((31 : Int32) + ((3 : Int32) * (h.1 a1 (30 : Int32).toNatClampNeg))).toNatClampNeg x2) a1 (((31 : Int32) + ((3 : Int32) * (h.1 a1 (30 : Int32).toNatClampNeg))) + (1 : Int32)).toNatClampNeg ((wI h a1 ((31 : Int32) + ((3 : Int32) * (h.1 a1 (30 : Int32).toNatClampNeg))).toNatClampNeg x2).1 a1 (22 : Int32).toNatClampNeg)) a1 (((31 : Int32) + ((3 : Int32) * (h.1 a1 (30 : Int32).toNatClampNeg))) + (2 : Int32)).toNatClampNeg x3) a1 (30 : Int32).toNatClampNeg (((wI (wI (wI h a1 ((31 : Int32) + ((3 : Int32) * (h.1 a1 (30 : Int32).toNatClampNeg))).toNatClampNeg x2) a1 (((31 : Int32) + ((3 : Int32) * (h.1 a1 (30 : Int32).toNatClampNeg))) + (1 : Int32)).toNatClampNeg ((wI h a1 ((31 : Int32) + ((3 : Int32) * (h.1 a1 (30 : Int32).toNatClampNeg))).toNatClampNeg x2).1 a1 (22 : Int32).toNatClampNeg)) a1 (((31 : Int32) + ((3 : Int32) * (h.1 a1 (30 : Int32).toNatClampNeg))) + (2 : Int32)).toNatClampNeg x3).1 a1 (30 : Int32).toNatClampNeg) + (1 : Int32))) a1 (27 : Int32).toNatClampNeg (((wI (wI (wI (wI h a1 ((31 : Int32) + ((3 : Int32) * (h.1 a1 (30 : Int32).toNatClampNeg))).toNatClampNeg x2) a1 (((31 : Int32) + ((3 : Int32) * (h.1 a1 (30 : Int32).toNatClampNeg))) + (1 : Int32)).toNatClampNeg ((wI h a1 ((31 : Int32) + ((3 : Int32) * (h.1 a1 (30 : Int32).toNatClampNeg))).toNatClampNeg x2).1 a1 (22 : Int32).toNatClampNeg)) a1 (((31 : Int32) + ((3 : Int32) * (h.1 a1 (30 : Int32).toNatClampNeg))) + (2 : Int32)).toNatClampNeg x3) a1 (30 : Int32).toNatClampNeg (((wI (wI (wI h a1 ((31 : Int32) + ((3 : Int32) * (h.1 a1 (30 : Int32).toNatClampNeg))).toNatClampNeg x2) a1 (((31 : Int32) + ((3 : Int32) * (h.1 a1 (30 : Int32).toNatClampNeg))) + (1 : Int32)).toNatClampNeg ((wI h a1 ((31 : Int32) + ((3 : Int32) * (h.1 a1 (30 : Int32).toNatClampNeg))).toNatClampNeg x2).1 a1 (22 : Int32).toNatClampNeg)) a1 (((31 : Int32) + ((3 : Int32) * (h.1 a1 (30 : Int32).toNatClampNeg))) + (2 : Int32)).toNatClampNeg x3).1 a1 (30 : Int32).toNatClampNeg) + (1 : Int32))).1 a1 (27 : Int32).toNatClampNeg) + x3)).1 a1 (28 : Int32).toNatClampNeg) + (((wI (wI (wI (wI (wI h a1 ((31 : Int32) + ((3 : Int32) * (h.1 a1 (30 : Int32).toNatClampNeg))).toNatClampNeg x2) a1 (((31 : Int32) + ((3 : Int32) * (h.1 a1 (30 : Int32).toNatClampNeg))) + (1 : Int32)).toNatClampNeg ((wI h a1 ((31 : Int32) + ((3 : Int32) * (h.1 a1 (30 : Int32).toNatClampNeg))).toNatClampNeg x2).1 a1 (22 : Int32).toNatClampNeg)) a1 (((31 : Int32) + ((3 : Int32) * (h.1 a1 (30 : Int32).toNatClampNeg))) + (2 : Int32)).toNatClampNeg x3) a1 (30 : Int32).toNatClampNeg (((wI (wI (wI h a1 ((31 : Int32) + ((3 : Int32) * (h.1 a1 (30 : Int32).toNatClampNeg))).toNatClampNeg x2) a1 (((31 : Int32) + ((3 : Int32) * (h.1 a1 (30 : Int32).toNatClampNeg))) + (1 : Int32)).toNatClampNeg ((wI h a1 ((31 : Int32) + ((3 : Int32) * (h.1 a1 (30 : Int32).toNatClampNeg))).toNatClampNeg x2).1 a1 (22 : Int32).toNatClampNeg)) a1 (((31 : Int32) + ((3 : Int32) * (h.1 a1 (30 : Int32).toNatClampNeg))) + (2 : Int32)).toNatClampNeg x3).1 a1 (30 : Int32).toNatClampNeg) + (1 : Int32))) a1 (27 : Int32).toNatClampNeg (((wI (wI (wI (wI h a1 ((31 : Int32) + ((3 : Int32) * (h.1 a1 (30 : Int32).toNatClampNeg))).toNatClampNeg x2) a1 (((31 : Int32) + ((3 : Int32) * (h.1 a1 (30 : Int32).toNatClampNeg))) + (1 : Int32)).toNatClampNeg ((wI h a1 ((31 : Int32) + ((3 : Int32) * (h.1 a1 (30 : Int32).toNatClampNeg))).toNatClampNeg x2).1 a1 (22 : Int32).toNatClampNeg)) a1 (((31 : Int32) + ((3 : Int32) * (h.1 a1 (30 : Int32).toNatClampNeg))) + (2 : Int32)).toNatClampNeg x3) a1 (30 : Int32).toNatClampNeg (((wI (wI (wI h a1 ((31 : Int32) + ((3 : Int32) * (h.1 a1 (30 : Int32).toNatClampNeg))).toNatClampNeg x2) a1 (((31 : Int32) + ((3 : Int32) * (h.1 a1 (30 : Int32).toNatClampNeg))) + (1 : Int32)).toNatClampNeg ((wI h a1 ((31 : Int32) + ((3 : Int32) * (h.1 a1 (30 : Int32).toNatClampNeg))).toNatClampNeg x2).1 a1 (22 : Int32).toNatClampNeg)) a1 (((31 : Int32) + ((3 : Int32) * (h.1 a1 (30 : Int32).toNatClampNeg))) + (2 : Int32)).toNatClampNeg x3).1 a1 (30 : Int32).toNatClampNeg) + (1 : Int32))).1 a1 (27 : Int32).toNatClampNeg) + x3)).1 260 ((3 : Int32) * x2).toNatClampNeg) - x3)))) (fun r33 => (if inB (22 : Int32) (aln a1) then (X12_goNight_160 n a1 n x2 x3 (0 : Int32) (wI (wI (wI (wI (wI (wI (wI h a1 ((31 : Int32) + ((3 : Int32) * (h.1 a1 (30 : Int32).toNatClampNeg))).toNatClampNeg x2) a1 (((31 : Int32) + ((3 : Int32) * (h.1 a1 (30 : Int32).toNatClampNeg))) + (1 : Int32)).toNatClampNeg ((wI h a1 ((31 : Int32) + ((3 : Int32) * (h.1 a1 (30 : Int32).toNatClampNeg))).toNatClampNeg x2).1 a1 (22 : Int32).toNatClampNeg)) a1 (((31 : Int32) + ((3 : Int32) * (h.1 a1 (30 : Int32).toNatClampNeg))) + (2 : Int32)).toNatClampNeg x3) a1 (30 : Int32).toNatClampNeg (((wI (wI (wI h a1 ((31 : Int32) + ((3 : Int32) * (h.1 a1 (30 : Int32).toNatClampNeg))).toNatClampNeg x2) a1 (((31 : Int32) + ((3 : Int32) * (h.1 a1 (30 : Int32).toNatClampNeg))) + (1 : Int32)).toNatClampNeg ((wI h a1 ((31 : Int32) + ((3 : Int32) * (h.1 a1 (30 : Int32).toNatClampNeg))).toNatClampNeg x2).1 a1 (22 : Int32).toNatClampNeg)) a1 (((31 : Int32) + ((3 : Int32) * (h.1 a1 (30 : Int32).toNatClampNeg))) + (2 : Int32)).toNatClampNeg x3).1 a1 (30 : Int32).toNatClampNeg) + (1 : Int32))) a1 (27 : Int32).toNatClampNeg (((wI (wI (wI (wI h a1 ((31 : Int32) + ((3 : Int32) * (h.1 a1 (30 : Int32).toNatClampNeg))).toNatClampNeg x2) a1 (((31 : Int32) + ((3 : Int32) * (h.1 a1 (30 : Int32).toNatClampNeg))) + (1 : Int32)).toNatClampNeg ((wI h a1 ((31 : Int32) + ((3 : Int32) * (h.1 a1 (30 : Int32).toNatClampNeg))).toNatClampNeg x2).1 a1 (22 : Int32).toNatClampNeg)) a1 (((31 : Int32) + ((3 : Int32) * (h.1 a1 (30 : Int32).toNatClampNeg))) + (2 : Int32)).toNatClampNeg x3) a1 (30 : Int32).toNatClampNeg (((wI (wI (wI h a1 ((31 : Int32) + ((3 : Int32) * (h.1 a1 (30 : Int32).toNatClampNeg))).toNatClampNeg x2) a1 (((31 : Int32) + ((3 : Int32) * (h.1 a1 (30 : Int32).toNatClampNeg))) + (1 : Int32)).toNatClampNeg ((wI h a1 ((31 : Int32) + ((3 : Int32) * (h.1 a1 (30 : Int32).toNatClampNeg))).toNatClampNeg x2).1 a1 (22 : Int32).toNatClampNeg)) a1 (((31 : Int32) + ((3 : Int32) * (h.1 a1 (30 : Int32).toNatClampNeg))) + (2 : Int32)).toNatClampNeg x3).1 a1 (30 : Int32).toNatClampNeg) + (1 : Int32))).1 a1 (27 : Int32).toNatClampNeg) + x3)) a1 (28 : Int32).toNatClampNeg (((wI (wI (wI (wI (wI h a1 ((31 : Int32) + ((3 : Int32) * (h.1 a1 (30 : Int32).toNatClampNeg))).toNatClampNeg x2) a1 (((31 : Int32) + ((3 : Int32) * (h.1 a1 (30 : Int32).toNatClampNeg))) + (1 : Int32)).toNatClampNeg ((wI h a1 ((31 : Int32) + ((3 : Int32) * (h.1 a1 (30 : Int32).toNatClampNeg))).toNatClampNeg x2).1 a1 (22 : Int32).toNatClampNeg)) a1 (((31 : Int32) + ((3 : Int32) * (h.1 a1 (30 : Int32).toNatClampNeg))) + (2 : Int32)).toNatClampNeg x3) a1 (30 : Int32).toNatClampNeg (((wI (wI (wI h a1 ((31 : Int32) + ((3 : Int32) * (h.1 a1 (30 : Int32).toNatClampNeg))).toNatClampNeg x2) a1 (((31 : Int32) + ((3 : Int32) * (h.1 a1 (30 : Int32).toNatClampNeg))) + (1 : Int32)).toNatClampNeg ((wI h a1 ((31 : Int32) + ((3 : Int32) * (h.1 a1 (30 : Int32).toNatClampNeg))).toNatClampNeg x2).1 a1 (22 : Int32).toNatClampNeg)) a1 (((31 : Int32) + ((3 : Int32) * (h.1 a1 (30 : Int32).toNatClampNeg))) + (2 : Int32)).toNatClampNeg x3).1 a1 (30 : Int32).toNatClampNeg) + (1 : Int32))) a1 (27 : Int32).toNatClampNeg (((wI (wI (wI (wI h a1 ((31 : Int32) + ((3 : Int32) * (h.1 a1 (30 : Int32).toNatClampNeg))).toNatClampNeg x2) a1 (((31 : Int32) + ((3 : Int32) * (h.1 a1 (30 : Int32).toNatClampNeg))) + (1 : Int32)).toNatClampNeg ((wI h a1 ((31 : Int32) + ((3 : Int32) * (h.1 a1 (30 : Int32).toNatClampNeg))).toNatClampNeg x2).1 a1 (22 : Int32).toNatClampNeg)) a1 (((31 : Int32) + ((3 : Int32) * (h.1 a1 (30 : Int32).toNatClampNeg))) + (2 : Int32)).toNatClampNeg x3) a1 (30 : Int32).toNatClampNeg (((wI (wI (wI h a1 ((31 : Int32) + ((3 : Int32) * (h.1 a1 (30 : Int32).toNatClampNeg))).toNatClampNeg x2) a1 (((31 : Int32) + ((3 : Int32) * (h.1 a1 (30 : Int32).toNatClampNeg))) + (1 : Int32)).toNatClampNeg ((wI h a1 ((31 : Int32) + ((3 : Int32) * (h.1 a1 (30 : Int32).toNatClampNeg))).toNatClampNeg x2).1 a1 (22 : Int32).toNatClampNeg)) a1 (((31 : Int32) + ((3 : Int32) * (h.1 a1 (30 : Int32).toNatClampNeg))) + (2 : Int32)).toNatClampNeg x3).1 a1 (30 : Int32).toNatClampNeg) + (1 : Int32))).1 a1 (27 : Int32).toNatClampNeg) + x3)).1 a1 (28 : Int32).toNatClampNeg) + (((wI (wI (wI (wI (wI h a1 ((31 : Int32) + ((3 : Int32) * (h.1 a1 (30 : Int32).toNatClampNeg))).toNatClampNeg x2) a1 (((31 : Int32) + ((3 : Int32) * (h.1 a1 (30 : Int32).toNatClampNeg))) + (1 : Int32)).toNatClampNeg ((wI h a1 ((31 : Int32) + ((3 : Int32) * (h.1 a1 (30 : Int32).toNatClampNeg))).toNatClampNeg x2).1 a1 (22 : Int32).toNatClampNeg)) a1 (((31 : Int32) + ((3 : Int32) * (h.1 a1 (30 : Int32).toNatClampNeg))) + (2 : Int32)).toNatClampNeg x3) a1 (30 : Int32).toNatClampNeg (((wI (wI (wI h a1 ((31 : Int32) + ((3 : Int32) * (h.1 a1 (30 : Int32).toNatClampNeg))).toNatClampNeg x2) a1 (((31 : Int32) + ((3 : Int32) * (h.1 a1 (30 : Int32).toNatClampNeg))) + (1 : Int32)).toNatClampNeg ((wI h a1 ((31 : Int32) + ((3 : Int32) * (h.1 a1 (30 : Int32).toNatClampNeg))).toNatClampNeg x2).1 a1 (22 : Int32).toNatClampNeg)) a1 (((31 : Int32) + ((3 : Int32) * (h.1 a1 (30 : Int32).toNatClampNeg))) + (2 : Int32)).toNatClampNeg x3).1 a1 (30 : Int32).toNatClampNeg) + (1 : Int32))) a1 (27 : Int32).toNatClampNeg (((wI (wI (wI (wI h a1 ((31 : Int32) + ((3 : Int32) * (h.1 a1 (30 : Int32).toNatClampNeg))).toNatClampNeg x2) a1 (((31 : Int32) + ((3 : Int32) * (h.1 a1 (30 : Int32).toNatClampNeg))) + (1 : Int32)).toNatClampNeg ((wI h a1 ((31 : Int32) + ((3 : Int32) * (h.1 a1 (30 : Int32).toNatClampNeg))).toNatClampNeg x2).1 a1 (22 : Int32).toNatClampNeg)) a1 (((31 : Int32) + ((3 : Int32) * (h.1 a1 (30 : Int32).toNatClampNeg))) + (2 : Int32)).toNatClampNeg x3) a1 (30 : Int32).toNatClampNeg (((wI (wI (wI h a1 ((31 : Int32) + ((3 : Int32) * (h.1 a1 (30 : Int32).toNatClampNeg))).toNatClampNeg x2) a1 (((31 : Int32) + ((3 : Int32) * (h.1 a1 (30 : Int32).toNatClampNeg))) + (1 : Int32)).toNatClampNeg ((wI h a1 ((31 : Int32) + ((3 : Int32) * (h.1 a1 (30 : Int32).toNatClampNeg))).toNatClampNeg x2).1 a1 (22 : Int32).toNatClampNeg)) a1 (((31 : Int32) + ((3 : Int32) * (h.1 a1 (30 : Int32).toNatClampNeg))) + (2 : Int32)).toNatClampNeg x3).1 a1 (30 : Int32).toNatClampNeg) + (1 : Int32))).1 a1 (27 : Int32).toNatClampNeg) + x3)).1 260 ((3 : Int32) * x2).toNatClampNeg) - x3))) a1 (22 : Int32).toNatClampNeg r33)) else none))) else none) else none) else none) else none) else none) else none) else none) else none) else none) else none) else none) else none) else none)
set_option maxRecDepth 100000 in
set_option maxHeartbeats 4000000 in
theorem v_X12_goNight_79 {X : WX} {G : GX} {o : Mm} {n : Nat} {a1 : Nat} {rv : Int32} {hz : Mm} (ha1 : isO false 0 a1) {x2 : Int32} {x3 : Int32} {h : Mm} (hF : X12_goNight_79 n a1 x2 x3 h = some (rv, hz)) : V X G RX12 cX12_goNight 6 (some .int) 3 0 0 (QR X G false o (some (.int rv)) hz) false o 79 [(0, .ref (xa X 251)), (1, .ref (xa X a1)), (2, .int x2), (3, .int x3)] [] h := by
  unfold X12_goNight_79 at hF
  refine V.bipush (v := 31) dX12_goNight_79 (by decide) ?_
  refine V.iconst (v := 3) dX12_goNight_81 rfl ?_
  refine V.aload_n 1 dX12_goNight_82 rfl rfl ?_
  refine V.bipush (v := 30) dX12_goNight_83 (by decide) ?_
  obtain ⟨hk, hF⟩ := ck hF
  refine V.iald ha1 hk dX12_goNight_85 ?_
  refine V.imul dX12_goNight_86 ?_
  refine V.iadd dX12_goNight_87 ?_
  refine V.istore [(4, _), (0, _), (1, _), (2, _), (3, _)] dX12_goNight_88 (by decide) rfl ?_
  refine V.aload_n 2 dX12_goNight_90 rfl rfl ?_
  refine V.iload 0 dX12_goNight_91 rfl ?_
  refine V.iload_n 3 dX12_goNight_93 rfl rfl ?_
  obtain ⟨hk, hF⟩ := ck hF
  refine V.iast ha1 hk dX12_goNight_94 ?_
  refine V.aload_n 2 dX12_goNight_95 rfl rfl ?_
  refine V.iload 0 dX12_goNight_96 rfl ?_
  refine V.iconst (v := 1) dX12_goNight_98 rfl ?_
  refine V.iadd dX12_goNight_99 ?_
  refine V.aload_n 2 dX12_goNight_100 rfl rfl ?_
  refine V.bipush (v := 22) dX12_goNight_101 (by decide) ?_
  obtain ⟨hk, hF⟩ := ck hF
  refine V.iald ha1 hk dX12_goNight_103 ?_
  obtain ⟨hk, hF⟩ := ck hF
  refine V.iast ha1 hk dX12_goNight_104 ?_
  refine V.aload_n 2 dX12_goNight_105 rfl rfl ?_
  refine V.iload 0 dX12_goNight_106 rfl ?_
  refine V.iconst (v := 2) dX12_goNight_108 rfl ?_
  refine V.iadd dX12_goNight_109 ?_
  refine V.iload_n 4 dX12_goNight_110 rfl rfl ?_
  obtain ⟨hk, hF⟩ := ck hF
  refine V.iast ha1 hk dX12_goNight_111 ?_
  refine V.aload_n 2 dX12_goNight_112 rfl rfl ?_
  refine V.bipush (v := 30) dX12_goNight_113 (by decide) ?_
  refine V.dup2 dX12_goNight_115 rfl rfl ?_
  obtain ⟨hk, hF⟩ := ck hF
  refine V.iald ha1 hk dX12_goNight_116 ?_
  refine V.iconst (v := 1) dX12_goNight_117 rfl ?_
  refine V.iadd dX12_goNight_118 ?_
  obtain ⟨hk, hF⟩ := ck hF
  refine V.iast ha1 hk dX12_goNight_119 ?_
  refine V.aload_n 2 dX12_goNight_120 rfl rfl ?_
  refine V.bipush (v := 27) dX12_goNight_121 (by decide) ?_
  refine V.dup2 dX12_goNight_123 rfl rfl ?_
  obtain ⟨hk, hF⟩ := ck hF
  refine V.iald ha1 hk dX12_goNight_124 ?_
  refine V.iload_n 4 dX12_goNight_125 rfl rfl ?_
  refine V.iadd dX12_goNight_126 ?_
  obtain ⟨hk, hF⟩ := ck hF
  refine V.iast ha1 hk dX12_goNight_127 ?_
  refine V.aload_n 2 dX12_goNight_128 rfl rfl ?_
  refine V.bipush (v := 28) dX12_goNight_129 (by decide) ?_
  refine V.dup2 dX12_goNight_131 rfl rfl ?_
  obtain ⟨hk, hF⟩ := ck hF
  refine V.iald ha1 hk dX12_goNight_132 ?_
  refine V.aload_n 1 dX12_goNight_133 rfl rfl ?_
  refine V.getR (v := 260) fl_X12_49 sh_251 rfl fx_251_22 (by decide) dX12_goNight_134 ?_
  refine V.iconst (v := 3) dX12_goNight_137 rfl ?_
  refine V.iload_n 3 dX12_goNight_138 rfl rfl ?_
  refine V.imul dX12_goNight_139 ?_
  obtain ⟨hk, hF⟩ := ck hF
  refine V.iald io_260 hk dX12_goNight_140 ?_
  refine V.iload_n 4 dX12_goNight_141 rfl rfl ?_
  refine V.isub dX12_goNight_142 ?_
  refine V.iadd dX12_goNight_143 ?_
  obtain ⟨hk, hF⟩ := ck hF
  refine V.iast ha1 hk dX12_goNight_144 ?_
  refine V.aload_n 2 dX12_goNight_145 rfl rfl ?_
  refine V.bipush (v := 22) dX12_goNight_146 (by decide) ?_
  refine V.aload_n 1 dX12_goNight_148 rfl rfl ?_
  refine V.aload_n 2 dX12_goNight_149 rfl rfl ?_
  refine V.bipush (v := 22) dX12_goNight_150 (by decide) ?_
  obtain ⟨hk, hF⟩ := ck hF
  refine V.iald ha1 hk dX12_goNight_152 ?_
  obtain ⟨r33, hc34, hF⟩ := bp_s hF
  refine V.callVi mf_X12_behind ml_X12_343 sh_251 (s_X12_behind hc34) (by decide) rfl rfl (Nat.le_of_ble_eq_true rfl) dX12_goNight_153 ?_
  obtain ⟨hk, hF⟩ := ck hF
  refine V.iast ha1 hk dX12_goNight_156 ?_
  refine V.iconst (v := 0) dX12_goNight_157 rfl ?_
  refine V.istore [(5, _), (4, _), (0, _), (1, _), (2, _), (3, _)] dX12_goNight_158 (by decide) rfl ?_
  exact V.sub [2, 3, 4, 5, 0] rfl (v_X12_goNight_160 ha1 n _ _ _ _ hF)
def X12_goNight_41 (n : Nat) (a1 : Nat) : Nat → Int32 → Int32 → Int32 → Mm → Option (Int32 × Mm)
  | 0, _, _, _, _ => none
  | f + 1, x2, x3, x4, h => (if (177 : Int32) < x4 then (if inB (30 : Int32) (aln a1) then (if inB (30 : Int32) (aln a1) then (X12_goNight_79 n a1 x2 x3 (wI h a1 (30 : Int32).toNatClampNeg ((h.1 a1 (30 : Int32).toNatClampNeg) - (1 : Int32)))) else none) else none) else (if inB (((30 : Int32) + x4) + (3 : Int32)) (aln a1) then (if inB ((30 : Int32) + x4) (aln a1) then ((X12_goNight_41 n a1 f) x2 x3 (x4 + (1)) (wI h a1 ((30 : Int32) + x4).toNatClampNeg (h.1 a1 (((30 : Int32) + x4) + (3 : Int32)).toNatClampNeg))) else none) else none))
set_option maxRecDepth 100000 in
set_option maxHeartbeats 4000000 in
theorem v_X12_goNight_41 {X : WX} {G : GX} {o : Mm} {n : Nat} {a1 : Nat} {rv : Int32} {hz : Mm} (ha1 : isO false 0 a1) : ∀ (f : Nat) (x2 : Int32) (x3 : Int32) (x4 : Int32) (h : Mm), X12_goNight_41 n a1 f x2 x3 x4 h = some (rv, hz) → V X G RX12 cX12_goNight 6 (some .int) 3 0 0 (QR X G false o (some (.int rv)) hz) false o 41 [(0, .ref (xa X 251)), (1, .ref (xa X a1)), (2, .int x2), (3, .int x3), (4, .int x4)] [] h := by
  intro f
  induction f with
  | zero => intro x2 x3 x4 h hF; exact nomatch (show (none : Option (Int32 × Mm)) = some (rv, hz) from hF)
  | succ f ih =>
    intro x2 x3 x4 h hF
    unfold X12_goNight_41 at hF
    refine V.iload 4 dX12_goNight_41 rfl ?_
    refine V.sipush (v := 177) dX12_goNight_43 (by decide) ?_
    refine V.icmp_gt (tgt := 71) dX12_goNight_46 rfl (fun c => ?_) (fun c => ?_)
    · replace hF := ip c hF
      refine V.aload_n 1 dX12_goNight_71 rfl rfl ?_
      refine V.bipush (v := 30) dX12_goNight_72 (by decide) ?_
      refine V.dup2 dX12_goNight_74 rfl rfl ?_
      obtain ⟨hk, hF⟩ := ck hF
      refine V.iald ha1 hk dX12_goNight_75 ?_
      refine V.iconst (v := 1) dX12_goNight_76 rfl ?_
      refine V.isub dX12_goNight_77 ?_
      obtain ⟨hk, hF⟩ := ck hF
      refine V.iast ha1 hk dX12_goNight_78 ?_
      exact V.sub [0, 1, 2, 3] rfl (v_X12_goNight_79 ha1 hF)
    · replace hF := iq c hF
      refine V.aload_n 1 dX12_goNight_49 rfl rfl ?_
      refine V.bipush (v := 30) dX12_goNight_50 (by decide) ?_
      refine V.iload 4 dX12_goNight_52 rfl ?_
      refine V.iadd dX12_goNight_54 ?_
      refine V.aload_n 1 dX12_goNight_55 rfl rfl ?_
      refine V.bipush (v := 30) dX12_goNight_56 (by decide) ?_
      refine V.iload 4 dX12_goNight_58 rfl ?_
      refine V.iadd dX12_goNight_60 ?_
      refine V.iconst (v := 3) dX12_goNight_61 rfl ?_
      refine V.iadd dX12_goNight_62 ?_
      obtain ⟨hk, hF⟩ := ck hF
      refine V.iald ha1 hk dX12_goNight_63 ?_
      obtain ⟨hk, hF⟩ := ck hF
      refine V.iast ha1 hk dX12_goNight_64 ?_
      refine V.iinc (v := (x4 + (1))) 4 [(4, _), (0, _), (1, _), (2, _), (3, _)] dX12_goNight_65 rfl rfl (by decide) rfl ?_
      refine V.goto (tgt := 41) dX12_goNight_68 rfl ?_
      exact V.sub [1, 2, 3, 4, 0] rfl (ih _ _ _ _ hF)
def X12_goNight_28 (n : Nat) (a1 : Nat) (x2 : Int32) (s0 : Int32) (h : Mm) : Option (Int32 × Mm) := (if inB (30 : Int32) (aln a1) then (if (h.1 a1 (30 : Int32).toNatClampNeg) = (60 : Int32) then (X12_goNight_41 n a1 n x2 s0 (1 : Int32) h) else (X12_goNight_79 n a1 x2 s0 h)) else none)
set_option maxRecDepth 100000 in
set_option maxHeartbeats 4000000 in
theorem v_X12_goNight_28 {X : WX} {G : GX} {o : Mm} {n : Nat} {a1 : Nat} {rv : Int32} {hz : Mm} (ha1 : isO false 0 a1) {x2 : Int32} {s0 : Int32} {h : Mm} (hF : X12_goNight_28 n a1 x2 s0 h = some (rv, hz)) : V X G RX12 cX12_goNight 6 (some .int) 3 0 0 (QR X G false o (some (.int rv)) hz) false o 28 [(0, .ref (xa X 251)), (1, .ref (xa X a1)), (2, .int x2)] [.int s0] h := by
  unfold X12_goNight_28 at hF
  refine V.istore_n [(3, _), (0, _), (1, _), (2, _)] dX12_goNight_28 rfl (by decide) rfl ?_
  refine V.aload_n 2 dX12_goNight_29 rfl rfl ?_
  refine V.bipush (v := 30) dX12_goNight_30 (by decide) ?_
  obtain ⟨hk, hF⟩ := ck hF
  refine V.iald ha1 hk dX12_goNight_32 ?_
  refine V.bipush (v := 60) dX12_goNight_33 (by decide) ?_
  refine V.icmp_ne (tgt := 79) dX12_goNight_35 rfl (fun c => ?_) (fun c => ?_)
  · replace hF := iq c hF
    exact V.sub [1, 2, 3, 0] rfl (v_X12_goNight_79 ha1 hF)
  · replace hF := ip c hF
    refine V.iconst (v := 1) dX12_goNight_38 rfl ?_
    refine V.istore [(4, _), (3, _), (0, _), (1, _), (2, _)] dX12_goNight_39 (by decide) rfl ?_
    exact V.sub [2, 3, 4, 1, 0] rfl (v_X12_goNight_41 ha1 n _ _ _ _ hF)
def X12_goNight (n : Nat) (a1 : Nat) (h : Mm) : Option (Int32 × Mm) := (if inB (23 : Int32) (aln a1) then (if inB (22 : Int32) (aln a1) then (bp (X12_isEnough (h.1 a1 (22 : Int32).toNatClampNeg) h) (fun r35 => (if r35 = true then (if inB ((3 : Int32) * (h.1 a1 (23 : Int32).toNatClampNeg)) (aln 260) then (X12_goNight_28 n a1 (h.1 a1 (23 : Int32).toNatClampNeg) (h.1 260 ((3 : Int32) * (h.1 a1 (23 : Int32).toNatClampNeg)).toNatClampNeg) h) else none) else (X12_goNight_28 n a1 (h.1 a1 (23 : Int32).toNatClampNeg) (0 : Int32) h)))) else none) else none)
set_option maxRecDepth 100000 in
set_option maxHeartbeats 4000000 in
theorem s_X12_goNight {X : WX} {o : Mm} {n : Nat} {a1 : Nat} {rv : Int32} {hz : Mm} {h : Mm} (ha1 : isO false 0 a1) (hF : X12_goNight n a1 h = some (rv, hz)) : Sat X yX12_goNight cX12_goNight 6 (some .int) 3 [.ref (xa X 251), .ref (xa X a1)] false o h (some (.int rv)) hz := by
  unfold X12_goNight at hF
  refine Sat.mk (own := RX12) rfl (by decide +kernel) (Nat.le_of_ble_eq_true rfl) (fun G => ?_)
  refine V.sub (lv2 := [(0, _), (1, _)]) [0, 1] rfl ?_
  refine V.aload_n 1 dX12_goNight_0 rfl rfl ?_
  refine V.bipush (v := 23) dX12_goNight_1 (by decide) ?_
  obtain ⟨hk, hF⟩ := ck hF
  refine V.iald ha1 hk dX12_goNight_3 ?_
  refine V.istore_n [(2, _), (0, _), (1, _)] dX12_goNight_4 rfl (by decide) rfl ?_
  refine V.aload_n 1 dX12_goNight_5 rfl rfl ?_
  refine V.aload_n 2 dX12_goNight_6 rfl rfl ?_
  refine V.bipush (v := 22) dX12_goNight_7 (by decide) ?_
  obtain ⟨hk, hF⟩ := ck hF
  refine V.iald ha1 hk dX12_goNight_9 ?_
  obtain ⟨r35, hc36, hF⟩ := bp_s hF
  refine V.callVi mf_X12_isEnough ml_X12_340 sh_251 (s_X12_isEnough hc36) (by decide) rfl rfl (Nat.le_of_ble_eq_true rfl) dX12_goNight_10 ?_
  refine V.ifz_eq (tgt := 27) dX12_goNight_13 rfl (fun c => ?_) (fun c => ?_)
  · replace hF := iq c hF
    refine V.iconst (v := 0) dX12_goNight_27 rfl ?_
    exact V.sub [1, 2, 0] rfl (v_X12_goNight_28 ha1 hF)
  · replace hF := ip c hF
    refine V.aload_n 1 dX12_goNight_16 rfl rfl ?_
    refine V.getR (v := 260) fl_X12_49 sh_251 rfl fx_251_22 (by decide) dX12_goNight_17 ?_
    refine V.iconst (v := 3) dX12_goNight_20 rfl ?_
    refine V.iload_n 0 dX12_goNight_21 rfl rfl ?_
    refine V.imul dX12_goNight_22 ?_
    obtain ⟨hk, hF⟩ := ck hF
    refine V.iald io_260 hk dX12_goNight_23 ?_
    refine V.goto (tgt := 28) dX12_goNight_24 rfl ?_
    exact V.sub [1, 2, 0] rfl (v_X12_goNight_28 ha1 hF)
/-! MonsterCotModel.rule -/
theorem dX12_rule_0 : decode cX12_rule 0 = .ok (.aload_n 0, 1) := by decide +kernel
theorem dX12_rule_1 : decode cX12_rule 1 = .ok (.iconst 0, 1) := by decide +kernel
theorem dX12_rule_2 : decode cX12_rule 2 = .ok (.putfield 93, 3) := by decide +kernel
theorem dX12_rule_5 : decode cX12_rule 5 = .ok (.aload_n 0, 1) := by decide +kernel
theorem dX12_rule_6 : decode cX12_rule 6 = .ok (.getfield 291, 3) := by decide +kernel
theorem dX12_rule_9 : decode cX12_rule 9 = .ok (.ifCond .eq 15, 3) := by decide +kernel
theorem dX12_rule_12 : decode cX12_rule 12 = .ok (.iload_n 1, 1) := by decide +kernel
theorem dX12_rule_13 : decode cX12_rule 13 = .ok (.i2l, 1) := by decide +kernel
theorem dX12_rule_14 : decode cX12_rule 14 = .ok (.lconst 0, 1) := by decide +kernel
theorem dX12_rule_15 : decode cX12_rule 15 = .ok (.ldc2_w 269, 3) := by decide +kernel
theorem dX12_rule_18 : decode cX12_rule 18 = .ok (.invokestatic 214, 3) := by decide +kernel
theorem dX12_rule_21 : decode cX12_rule 21 = .ok (.ifCond .ne 5, 3) := by decide +kernel
theorem dX12_rule_24 : decode cX12_rule 24 = .ok (.iconst (-1), 1) := by decide +kernel
theorem dX12_rule_25 : decode cX12_rule 25 = .ok (.ireturn, 1) := by decide +kernel
theorem dX12_rule_26 : decode cX12_rule 26 = .ok (.iload_n 1, 1) := by decide +kernel
theorem dX12_rule_27 : decode cX12_rule 27 = .ok (.ifCond .ne 13, 3) := by decide +kernel
theorem dX12_rule_30 : decode cX12_rule 30 = .ok (.aload_n 0, 1) := by decide +kernel
theorem dX12_rule_31 : decode cX12_rule 31 = .ok (.getfield 61, 3) := by decide +kernel
theorem dX12_rule_34 : decode cX12_rule 34 = .ok (.bipush 22, 2) := by decide +kernel
theorem dX12_rule_36 : decode cX12_rule 36 = .ok (.iaload, 1) := by decide +kernel
theorem dX12_rule_37 : decode cX12_rule 37 = .ok (.goto 9, 3) := by decide +kernel
theorem dX12_rule_40 : decode cX12_rule 40 = .ok (.aload_n 0, 1) := by decide +kernel
theorem dX12_rule_41 : decode cX12_rule 41 = .ok (.getfield 37, 3) := by decide +kernel
theorem dX12_rule_44 : decode cX12_rule 44 = .ok (.iload_n 1, 1) := by decide +kernel
theorem dX12_rule_45 : decode cX12_rule 45 = .ok (.iaload, 1) := by decide +kernel
theorem dX12_rule_46 : decode cX12_rule 46 = .ok (.ireturn, 1) := by decide +kernel
def X12_rule (x1 : Int32) (h : Mm) : Option (Int32 × Mm) := (if ((wI h 251 0 (0 : Int32)).1 251 27) = 0 then (some ((-1 : Int32), (wI h 251 0 (0 : Int32)))) else (bp (X12_isIn x1.toInt64 (0 : Int64) (2 : Int64) (wI h 251 0 (0 : Int32))) (fun r3 => (if r3 = true then (if x1 = 0 then (if inB (22 : Int32) (aln 264) then (some (((wI h 251 0 (0 : Int32)).1 264 (22 : Int32).toNatClampNeg), (wI h 251 0 (0 : Int32)))) else none) else (if inB x1 (aln 256) then (some (((wI h 251 0 (0 : Int32)).1 256 x1.toNatClampNeg), (wI h 251 0 (0 : Int32)))) else none)) else (some ((-1 : Int32), (wI h 251 0 (0 : Int32))))))))
set_option maxRecDepth 100000 in
set_option maxHeartbeats 4000000 in
theorem s_X12_rule {X : WX} {o : Mm} {x1 : Int32} {rv : Int32} {hz : Mm} {h : Mm} (hF : X12_rule x1 h = some (rv, hz)) : Sat X yX12_rule cX12_rule 2 (some .int) 2 [.ref (xa X 251), .int x1] false o h (some (.int rv)) hz := by
  unfold X12_rule at hF
  refine Sat.mk (own := RX12) rfl (by decide +kernel) (Nat.le_of_ble_eq_true rfl) (fun G => ?_)
  refine V.sub (lv2 := [(0, _), (1, _)]) [0, 1] rfl ?_
  refine V.aload_n 0 dX12_rule_0 rfl rfl ?_
  refine V.iconst (v := 0) dX12_rule_1 rfl ?_
  refine V.putI fl_X12_93 rfl (tyX12_ok 0 (by decide)) rfl rfl sh_251 rfl km_251 dX12_rule_2 ?_
  refine V.aload_n 0 dX12_rule_5 rfl rfl ?_
  refine V.getI fl_X12_291 sh_251 rfl km_251 dX12_rule_6 ?_
  refine V.if_eq (tgt := 24) dX12_rule_9 rfl (fun c => ?_) (fun c => ?_)
  · replace hF := ip c hF
    refine V.iconst (v := -1) dX12_rule_24 rfl ?_
    cases hF
    exact V.iret dX12_rule_25
  · replace hF := iq c hF
    refine V.iload_n 1 dX12_rule_12 rfl rfl ?_
    refine V.i2l dX12_rule_13 ?_
    refine V.lconst (v := 0) dX12_rule_14 rfl ?_
    refine V.ldc2 (v := 2) dX12_rule_15 kc_X12_269 ?_
    obtain ⟨r3, hc4, hF⟩ := bp_s hF
    refine V.callSi mf_X12_isIn ml_X12_214 (s_X12_isIn hc4) (by decide) rfl rfl (Nat.le_of_ble_eq_true rfl) dX12_rule_18 ?_
    refine V.ifz_ne (tgt := 26) dX12_rule_21 rfl (fun c => ?_) (fun c => ?_)
    · replace hF := ip c hF
      refine V.iload_n 1 dX12_rule_26 rfl rfl ?_
      refine V.if_ne (tgt := 40) dX12_rule_27 rfl (fun c => ?_) (fun c => ?_)
      · replace hF := iq c hF
        refine V.aload_n 0 dX12_rule_40 rfl rfl ?_
        refine V.getR (v := 256) fl_X12_37 sh_251 rfl fx_251_18 (by decide) dX12_rule_41 ?_
        refine V.iload_n 1 dX12_rule_44 rfl rfl ?_
        obtain ⟨hk, hF⟩ := ck hF
        refine V.iald io_256 hk dX12_rule_45 ?_
        cases hF
        exact V.iret dX12_rule_46
      · replace hF := ip c hF
        refine V.aload_n 0 dX12_rule_30 rfl rfl ?_
        refine V.getR (v := 264) fl_X12_61 sh_251 rfl fx_251_32 (by decide) dX12_rule_31 ?_
        refine V.bipush (v := 22) dX12_rule_34 (by decide) ?_
        obtain ⟨hk, hF⟩ := ck hF
        refine V.iald io_264 hk dX12_rule_36 ?_
        refine V.goto (tgt := 46) dX12_rule_37 rfl ?_
        cases hF
        exact V.iret dX12_rule_46
    · replace hF := iq c hF
      refine V.iconst (v := -1) dX12_rule_24 rfl ?_
      cases hF
      exact V.iret dX12_rule_25
/-! MonsterCotModel.tome -/
theorem dX12_tome_0 : decode cX12_tome 0 = .ok (.aload_n 0, 1) := by decide +kernel
theorem dX12_tome_1 : decode cX12_tome 1 = .ok (.iconst 0, 1) := by decide +kernel
theorem dX12_tome_2 : decode cX12_tome 2 = .ok (.putfield 93, 3) := by decide +kernel
theorem dX12_tome_5 : decode cX12_tome 5 = .ok (.aload_n 0, 1) := by decide +kernel
theorem dX12_tome_6 : decode cX12_tome 6 = .ok (.iload_n 1, 1) := by decide +kernel
theorem dX12_tome_7 : decode cX12_tome 7 = .ok (.invokevirtual 319, 3) := by decide +kernel
theorem dX12_tome_10 : decode cX12_tome 10 = .ok (.ifCond .eq 15, 3) := by decide +kernel
theorem dX12_tome_13 : decode cX12_tome 13 = .ok (.iload_n 2, 1) := by decide +kernel
theorem dX12_tome_14 : decode cX12_tome 14 = .ok (.i2l, 1) := by decide +kernel
theorem dX12_tome_15 : decode cX12_tome 15 = .ok (.lconst 0, 1) := by decide +kernel
theorem dX12_tome_16 : decode cX12_tome 16 = .ok (.ldc2_w 346, 3) := by decide +kernel
theorem dX12_tome_19 : decode cX12_tome 19 = .ok (.invokestatic 214, 3) := by decide +kernel
theorem dX12_tome_22 : decode cX12_tome 22 = .ok (.ifCond .ne 5, 3) := by decide +kernel
theorem dX12_tome_25 : decode cX12_tome 25 = .ok (.iconst (-1), 1) := by decide +kernel
theorem dX12_tome_26 : decode cX12_tome 26 = .ok (.ireturn, 1) := by decide +kernel
theorem dX12_tome_27 : decode cX12_tome 27 = .ok (.iload_n 2, 1) := by decide +kernel
theorem dX12_tome_28 : decode cX12_tome 28 = .ok (.iconst 3, 1) := by decide +kernel
theorem dX12_tome_29 : decode cX12_tome 29 = .ok (.if_icmp .ne 17, 3) := by decide +kernel
theorem dX12_tome_32 : decode cX12_tome 32 = .ok (.aload_n 0, 1) := by decide +kernel
theorem dX12_tome_33 : decode cX12_tome 33 = .ok (.getfield 61, 3) := by decide +kernel
theorem dX12_tome_36 : decode cX12_tome 36 = .ok (.bipush 24, 2) := by decide +kernel
theorem dX12_tome_38 : decode cX12_tome 38 = .ok (.iaload, 1) := by decide +kernel
theorem dX12_tome_39 : decode cX12_tome 39 = .ok (.iload_n 1, 1) := by decide +kernel
theorem dX12_tome_40 : decode cX12_tome 40 = .ok (.ishr, 1) := by decide +kernel
theorem dX12_tome_41 : decode cX12_tome 41 = .ok (.iconst 1, 1) := by decide +kernel
theorem dX12_tome_42 : decode cX12_tome 42 = .ok (.iand, 1) := by decide +kernel
theorem dX12_tome_43 : decode cX12_tome 43 = .ok (.goto 13, 3) := by decide +kernel
theorem dX12_tome_46 : decode cX12_tome 46 = .ok (.aload_n 0, 1) := by decide +kernel
theorem dX12_tome_47 : decode cX12_tome 47 = .ok (.getfield 43, 3) := by decide +kernel
theorem dX12_tome_50 : decode cX12_tome 50 = .ok (.iconst 3, 1) := by decide +kernel
theorem dX12_tome_51 : decode cX12_tome 51 = .ok (.iload_n 1, 1) := by decide +kernel
theorem dX12_tome_52 : decode cX12_tome 52 = .ok (.imul, 1) := by decide +kernel
theorem dX12_tome_53 : decode cX12_tome 53 = .ok (.iload_n 2, 1) := by decide +kernel
theorem dX12_tome_54 : decode cX12_tome 54 = .ok (.iadd, 1) := by decide +kernel
theorem dX12_tome_55 : decode cX12_tome 55 = .ok (.iaload, 1) := by decide +kernel
theorem dX12_tome_56 : decode cX12_tome 56 = .ok (.ireturn, 1) := by decide +kernel
def X12_tome (x1 : Int32) (x2 : Int32) (h : Mm) : Option (Int32 × Mm) := (bp (X12_isBook x1 (wI h 251 0 (0 : Int32))) (fun r5 => (if r5 = true then (bp (X12_isIn x2.toInt64 (0 : Int64) (3 : Int64) (wI h 251 0 (0 : Int32))) (fun r7 => (if r7 = true then (if x2 = (3 : Int32) then (if inB (24 : Int32) (aln 264) then (some (((((wI h 251 0 (0 : Int32)).1 264 (24 : Int32).toNatClampNeg) >>> (x1 &&& 31)) &&& (1 : Int32)), (wI h 251 0 (0 : Int32)))) else none) else (if inB (((3 : Int32) * x1) + x2) (aln 258) then (some (((wI h 251 0 (0 : Int32)).1 258 (((3 : Int32) * x1) + x2).toNatClampNeg), (wI h 251 0 (0 : Int32)))) else none)) else (some ((-1 : Int32), (wI h 251 0 (0 : Int32))))))) else (some ((-1 : Int32), (wI h 251 0 (0 : Int32)))))))
set_option maxRecDepth 100000 in
set_option maxHeartbeats 4000000 in
theorem s_X12_tome {X : WX} {o : Mm} {x1 : Int32} {x2 : Int32} {rv : Int32} {hz : Mm} {h : Mm} (hF : X12_tome x1 x2 h = some (rv, hz)) : Sat X yX12_tome cX12_tome 3 (some .int) 2 [.ref (xa X 251), .int x1, .int x2] false o h (some (.int rv)) hz := by
  unfold X12_tome at hF
  refine Sat.mk (own := RX12) rfl (by decide +kernel) (Nat.le_of_ble_eq_true rfl) (fun G => ?_)
  refine V.sub (lv2 := [(0, _), (1, _), (2, _)]) [0, 1, 2] rfl ?_
  refine V.aload_n 0 dX12_tome_0 rfl rfl ?_
  refine V.iconst (v := 0) dX12_tome_1 rfl ?_
  refine V.putI fl_X12_93 rfl (tyX12_ok 0 (by decide)) rfl rfl sh_251 rfl km_251 dX12_tome_2 ?_
  refine V.aload_n 0 dX12_tome_5 rfl rfl ?_
  refine V.iload_n 1 dX12_tome_6 rfl rfl ?_
  obtain ⟨r5, hc6, hF⟩ := bp_s hF
  refine V.callVi mf_X12_isBook ml_X12_319 sh_251 (s_X12_isBook hc6) (by decide) rfl rfl (Nat.le_of_ble_eq_true rfl) dX12_tome_7 ?_
  refine V.ifz_eq (tgt := 25) dX12_tome_10 rfl (fun c => ?_) (fun c => ?_)
  · replace hF := iq c hF
    refine V.iconst (v := -1) dX12_tome_25 rfl ?_
    cases hF
    exact V.iret dX12_tome_26
  · replace hF := ip c hF
    refine V.iload_n 2 dX12_tome_13 rfl rfl ?_
    refine V.i2l dX12_tome_14 ?_
    refine V.lconst (v := 0) dX12_tome_15 rfl ?_
    refine V.ldc2 (v := 3) dX12_tome_16 kc_X12_346 ?_
    obtain ⟨r7, hc8, hF⟩ := bp_s hF
    refine V.callSi mf_X12_isIn ml_X12_214 (s_X12_isIn hc8) (by decide) rfl rfl (Nat.le_of_ble_eq_true rfl) dX12_tome_19 ?_
    refine V.ifz_ne (tgt := 27) dX12_tome_22 rfl (fun c => ?_) (fun c => ?_)
    · replace hF := ip c hF
      refine V.iload_n 2 dX12_tome_27 rfl rfl ?_
      refine V.iconst (v := 3) dX12_tome_28 rfl ?_
      refine V.icmp_ne (tgt := 46) dX12_tome_29 rfl (fun c => ?_) (fun c => ?_)
      · replace hF := iq c hF
        refine V.aload_n 0 dX12_tome_46 rfl rfl ?_
        refine V.getR (v := 258) fl_X12_43 sh_251 rfl fx_251_20 (by decide) dX12_tome_47 ?_
        refine V.iconst (v := 3) dX12_tome_50 rfl ?_
        refine V.iload_n 1 dX12_tome_51 rfl rfl ?_
        refine V.imul dX12_tome_52 ?_
        refine V.iload_n 2 dX12_tome_53 rfl rfl ?_
        refine V.iadd dX12_tome_54 ?_
        obtain ⟨hk, hF⟩ := ck hF
        refine V.iald io_258 hk dX12_tome_55 ?_
        cases hF
        exact V.iret dX12_tome_56
      · replace hF := ip c hF
        refine V.aload_n 0 dX12_tome_32 rfl rfl ?_
        refine V.getR (v := 264) fl_X12_61 sh_251 rfl fx_251_32 (by decide) dX12_tome_33 ?_
        refine V.bipush (v := 24) dX12_tome_36 (by decide) ?_
        obtain ⟨hk, hF⟩ := ck hF
        refine V.iald io_264 hk dX12_tome_38 ?_
        refine V.iload_n 1 dX12_tome_39 rfl rfl ?_
        refine V.ishr dX12_tome_40 ?_
        refine V.iconst (v := 1) dX12_tome_41 rfl ?_
        refine V.iand dX12_tome_42 ?_
        refine V.goto (tgt := 56) dX12_tome_43 rfl ?_
        cases hF
        exact V.iret dX12_tome_56
    · replace hF := iq c hF
      refine V.iconst (v := -1) dX12_tome_25 rfl ?_
      cases hF
      exact V.iret dX12_tome_26
/-! MonsterCotModel.house -/
theorem dX12_house_0 : decode cX12_house 0 = .ok (.aload_n 0, 1) := by decide +kernel
theorem dX12_house_1 : decode cX12_house 1 = .ok (.aload_n 0, 1) := by decide +kernel
theorem dX12_house_2 : decode cX12_house 2 = .ok (.iload_n 1, 1) := by decide +kernel
theorem dX12_house_3 : decode cX12_house 3 = .ok (.invokevirtual 337, 3) := by decide +kernel
theorem dX12_house_6 : decode cX12_house 6 = .ok (.ifCond .eq 19, 3) := by decide +kernel
theorem dX12_house_9 : decode cX12_house 9 = .ok (.iload_n 2, 1) := by decide +kernel
theorem dX12_house_10 : decode cX12_house 10 = .ok (.i2l, 1) := by decide +kernel
theorem dX12_house_11 : decode cX12_house 11 = .ok (.lconst 0, 1) := by decide +kernel
theorem dX12_house_12 : decode cX12_house 12 = .ok (.ldc2_w 348, 3) := by decide +kernel
theorem dX12_house_15 : decode cX12_house 15 = .ok (.invokestatic 214, 3) := by decide +kernel
theorem dX12_house_18 : decode cX12_house 18 = .ok (.ifCond .eq 7, 3) := by decide +kernel
theorem dX12_house_21 : decode cX12_house 21 = .ok (.iconst 0, 1) := by decide +kernel
theorem dX12_house_22 : decode cX12_house 22 = .ok (.goto 4, 3) := by decide +kernel
theorem dX12_house_25 : decode cX12_house 25 = .ok (.iconst 1, 1) := by decide +kernel
theorem dX12_house_26 : decode cX12_house 26 = .ok (.putfield 93, 3) := by decide +kernel
theorem dX12_house_29 : decode cX12_house 29 = .ok (.aload_n 0, 1) := by decide +kernel
theorem dX12_house_30 : decode cX12_house 30 = .ok (.getfield 93, 3) := by decide +kernel
theorem dX12_house_33 : decode cX12_house 33 = .ok (.ifCond .le 5, 3) := by decide +kernel
theorem dX12_house_36 : decode cX12_house 36 = .ok (.iconst 0, 1) := by decide +kernel
theorem dX12_house_37 : decode cX12_house 37 = .ok (.ireturn, 1) := by decide +kernel
theorem dX12_house_38 : decode cX12_house 38 = .ok (.iload_n 2, 1) := by decide +kernel
theorem dX12_house_39 : decode cX12_house 39 = .ok (.tableswitch 66 0 3 #[29, 38, 44, 55], 29) := by decide +kernel
theorem dX12_house_68 : decode cX12_house 68 = .ok (.aload_n 0, 1) := by decide +kernel
theorem dX12_house_69 : decode cX12_house 69 = .ok (.getfield 49, 3) := by decide +kernel
theorem dX12_house_72 : decode cX12_house 72 = .ok (.iconst 3, 1) := by decide +kernel
theorem dX12_house_73 : decode cX12_house 73 = .ok (.iload_n 1, 1) := by decide +kernel
theorem dX12_house_74 : decode cX12_house 74 = .ok (.imul, 1) := by decide +kernel
theorem dX12_house_75 : decode cX12_house 75 = .ok (.iaload, 1) := by decide +kernel
theorem dX12_house_76 : decode cX12_house 76 = .ok (.ireturn, 1) := by decide +kernel
theorem dX12_house_77 : decode cX12_house 77 = .ok (.aload_n 0, 1) := by decide +kernel
theorem dX12_house_78 : decode cX12_house 78 = .ok (.iload_n 1, 1) := by decide +kernel
theorem dX12_house_79 : decode cX12_house 79 = .ok (.invokevirtual 325, 3) := by decide +kernel
theorem dX12_house_82 : decode cX12_house 82 = .ok (.ireturn, 1) := by decide +kernel
theorem dX12_house_83 : decode cX12_house 83 = .ok (.aload_n 0, 1) := by decide +kernel
theorem dX12_house_84 : decode cX12_house 84 = .ok (.getfield 61, 3) := by decide +kernel
theorem dX12_house_87 : decode cX12_house 87 = .ok (.iconst 3, 1) := by decide +kernel
theorem dX12_house_88 : decode cX12_house 88 = .ok (.iload_n 1, 1) := by decide +kernel
theorem dX12_house_89 : decode cX12_house 89 = .ok (.imul, 1) := by decide +kernel
theorem dX12_house_90 : decode cX12_house 90 = .ok (.iconst 1, 1) := by decide +kernel
theorem dX12_house_91 : decode cX12_house 91 = .ok (.iadd, 1) := by decide +kernel
theorem dX12_house_92 : decode cX12_house 92 = .ok (.iaload, 1) := by decide +kernel
theorem dX12_house_93 : decode cX12_house 93 = .ok (.ireturn, 1) := by decide +kernel
theorem dX12_house_94 : decode cX12_house 94 = .ok (.aload_n 0, 1) := by decide +kernel
theorem dX12_house_95 : decode cX12_house 95 = .ok (.getfield 61, 3) := by decide +kernel
theorem dX12_house_98 : decode cX12_house 98 = .ok (.iconst 3, 1) := by decide +kernel
theorem dX12_house_99 : decode cX12_house 99 = .ok (.iload_n 1, 1) := by decide +kernel
theorem dX12_house_100 : decode cX12_house 100 = .ok (.imul, 1) := by decide +kernel
theorem dX12_house_101 : decode cX12_house 101 = .ok (.iconst 0, 1) := by decide +kernel
theorem dX12_house_102 : decode cX12_house 102 = .ok (.iadd, 1) := by decide +kernel
theorem dX12_house_103 : decode cX12_house 103 = .ok (.iaload, 1) := by decide +kernel
theorem dX12_house_104 : decode cX12_house 104 = .ok (.ireturn, 1) := by decide +kernel
theorem dX12_house_105 : decode cX12_house 105 = .ok (.aload_n 0, 1) := by decide +kernel
theorem dX12_house_106 : decode cX12_house 106 = .ok (.getfield 61, 3) := by decide +kernel
theorem dX12_house_109 : decode cX12_house 109 = .ok (.iconst 3, 1) := by decide +kernel
theorem dX12_house_110 : decode cX12_house 110 = .ok (.iload_n 1, 1) := by decide +kernel
theorem dX12_house_111 : decode cX12_house 111 = .ok (.imul, 1) := by decide +kernel
theorem dX12_house_112 : decode cX12_house 112 = .ok (.iconst 2, 1) := by decide +kernel
theorem dX12_house_113 : decode cX12_house 113 = .ok (.iadd, 1) := by decide +kernel
theorem dX12_house_114 : decode cX12_house 114 = .ok (.iaload, 1) := by decide +kernel
theorem dX12_house_115 : decode cX12_house 115 = .ok (.ireturn, 1) := by decide +kernel
def X12_house_26 (x1 : Int32) (x2 : Int32) (s1 : Bool) (h : Mm) : Option (Int32 × Mm) := (if ((wI h 251 0 (b2i s1)).1 251 0) ≤ 0 then (if x2 = 0 then (if inB ((3 : Int32) * x1) (aln 260) then (some (((wI h 251 0 (b2i s1)).1 260 ((3 : Int32) * x1).toNatClampNeg), (wI h 251 0 (b2i s1)))) else none) else (if x2 = 1 then (bp (X12_strength x1 (wI h 251 0 (b2i s1))) (fun r13 => (some (r13, (wI h 251 0 (b2i s1)))))) else (if x2 = 2 then (if inB (((3 : Int32) * x1) + (1 : Int32)) (aln 264) then (some (((wI h 251 0 (b2i s1)).1 264 (((3 : Int32) * x1) + (1 : Int32)).toNatClampNeg), (wI h 251 0 (b2i s1)))) else none) else (if x2 = 3 then (if inB (((3 : Int32) * x1) + (0 : Int32)) (aln 264) then (some (((wI h 251 0 (b2i s1)).1 264 (((3 : Int32) * x1) + (0 : Int32)).toNatClampNeg), (wI h 251 0 (b2i s1)))) else none) else (if inB (((3 : Int32) * x1) + (2 : Int32)) (aln 264) then (some (((wI h 251 0 (b2i s1)).1 264 (((3 : Int32) * x1) + (2 : Int32)).toNatClampNeg), (wI h 251 0 (b2i s1)))) else none))))) else (some ((0 : Int32), (wI h 251 0 (b2i s1)))))
set_option maxRecDepth 100000 in
set_option maxHeartbeats 4000000 in
theorem v_X12_house_26 {X : WX} {G : GX} {o : Mm} {rv : Int32} {hz : Mm} {x1 : Int32} {x2 : Int32} {s1 : Bool} {h : Mm} (hF : X12_house_26  x1 x2 s1 h = some (rv, hz)) : V X G RX12 cX12_house 3 (some .int) 2 0 0 (QR X G false o (some (.int rv)) hz) false o 26 [(0, .ref (xa X 251)), (1, .int x1), (2, .int x2)] [.int (b2i s1), .ref (xa X 251)] h := by
  unfold X12_house_26 at hF
  refine V.putI fl_X12_93 rfl (tyX12_ok 0 (by decide)) rfl rfl sh_251 rfl km_251 dX12_house_26 ?_
  refine V.aload_n 0 dX12_house_29 rfl rfl ?_
  refine V.getI fl_X12_93 sh_251 rfl km_251 dX12_house_30 ?_
  refine V.if_le (tgt := 38) dX12_house_33 rfl (fun c => ?_) (fun c => ?_)
  · replace hF := ip c hF
    refine V.iload_n 2 dX12_house_38 rfl rfl ?_
    by_cases c0 : x2 = 0
    · replace hF := ip c0 hF
      refine V.tswIn (tgt := 68) c0 dX12_house_39 (by decide) (by decide) rfl rfl ?_
      refine V.aload_n 0 dX12_house_68 rfl rfl ?_
      refine V.getR (v := 260) fl_X12_49 sh_251 rfl fx_251_22 (by decide) dX12_house_69 ?_
      refine V.iconst (v := 3) dX12_house_72 rfl ?_
      refine V.iload_n 1 dX12_house_73 rfl rfl ?_
      refine V.imul dX12_house_74 ?_
      obtain ⟨hk, hF⟩ := ck hF
      refine V.iald io_260 hk dX12_house_75 ?_
      cases hF
      exact V.iret dX12_house_76
    replace hF := iq c0 hF
    by_cases c1 : x2 = 1
    · replace hF := ip c1 hF
      refine V.tswIn (tgt := 77) c1 dX12_house_39 (by decide) (by decide) rfl rfl ?_
      refine V.aload_n 0 dX12_house_77 rfl rfl ?_
      refine V.iload_n 1 dX12_house_78 rfl rfl ?_
      obtain ⟨r13, hc14, hF⟩ := bp_s hF
      refine V.callVi mf_X12_strength ml_X12_325 sh_251 (s_X12_strength hc14) (by decide) rfl rfl (Nat.le_of_ble_eq_true rfl) dX12_house_79 ?_
      cases hF
      exact V.iret dX12_house_82
    replace hF := iq c1 hF
    by_cases c2 : x2 = 2
    · replace hF := ip c2 hF
      refine V.tswIn (tgt := 83) c2 dX12_house_39 (by decide) (by decide) rfl rfl ?_
      refine V.aload_n 0 dX12_house_83 rfl rfl ?_
      refine V.getR (v := 264) fl_X12_61 sh_251 rfl fx_251_32 (by decide) dX12_house_84 ?_
      refine V.iconst (v := 3) dX12_house_87 rfl ?_
      refine V.iload_n 1 dX12_house_88 rfl rfl ?_
      refine V.imul dX12_house_89 ?_
      refine V.iconst (v := 1) dX12_house_90 rfl ?_
      refine V.iadd dX12_house_91 ?_
      obtain ⟨hk, hF⟩ := ck hF
      refine V.iald io_264 hk dX12_house_92 ?_
      cases hF
      exact V.iret dX12_house_93
    replace hF := iq c2 hF
    by_cases c3 : x2 = 3
    · replace hF := ip c3 hF
      refine V.tswIn (tgt := 94) c3 dX12_house_39 (by decide) (by decide) rfl rfl ?_
      refine V.aload_n 0 dX12_house_94 rfl rfl ?_
      refine V.getR (v := 264) fl_X12_61 sh_251 rfl fx_251_32 (by decide) dX12_house_95 ?_
      refine V.iconst (v := 3) dX12_house_98 rfl ?_
      refine V.iload_n 1 dX12_house_99 rfl rfl ?_
      refine V.imul dX12_house_100 ?_
      refine V.iconst (v := 0) dX12_house_101 rfl ?_
      refine V.iadd dX12_house_102 ?_
      obtain ⟨hk, hF⟩ := ck hF
      refine V.iald io_264 hk dX12_house_103 ?_
      cases hF
      exact V.iret dX12_house_104
    replace hF := iq c3 hF
    refine V.tswOut (tgt := 105) dX12_house_39 (tsw_out (by decide) (by decide) [0, 1, 2, 3] rfl (fun v hv => ?_)) rfl ?_
    · simp only [List.mem_cons, List.not_mem_nil, or_false] at hv
      rcases hv with rfl | rfl | rfl | rfl <;> assumption
    refine V.aload_n 0 dX12_house_105 rfl rfl ?_
    refine V.getR (v := 264) fl_X12_61 sh_251 rfl fx_251_32 (by decide) dX12_house_106 ?_
    refine V.iconst (v := 3) dX12_house_109 rfl ?_
    refine V.iload_n 1 dX12_house_110 rfl rfl ?_
    refine V.imul dX12_house_111 ?_
    refine V.iconst (v := 2) dX12_house_112 rfl ?_
    refine V.iadd dX12_house_113 ?_
    obtain ⟨hk, hF⟩ := ck hF
    refine V.iald io_264 hk dX12_house_114 ?_
    cases hF
    exact V.iret dX12_house_115
  · replace hF := iq c hF
    refine V.iconst (v := 0) dX12_house_36 rfl ?_
    cases hF
    exact V.iret dX12_house_37
def X12_house_25 (x1 : Int32) (x2 : Int32) (h : Mm) : Option (Int32 × Mm) := (X12_house_26 x1 x2 true h)
set_option maxRecDepth 100000 in
set_option maxHeartbeats 4000000 in
theorem v_X12_house_25 {X : WX} {G : GX} {o : Mm} {rv : Int32} {hz : Mm} {x1 : Int32} {x2 : Int32} {h : Mm} (hF : X12_house_25  x1 x2 h = some (rv, hz)) : V X G RX12 cX12_house 3 (some .int) 2 0 0 (QR X G false o (some (.int rv)) hz) false o 25 [(0, .ref (xa X 251)), (1, .int x1), (2, .int x2)] [.ref (xa X 251)] h := by
  unfold X12_house_25 at hF
  refine V.iconst (v := 1) dX12_house_25 rfl ?_
  exact (v_X12_house_26 hF)
def X12_house (x1 : Int32) (x2 : Int32) (h : Mm) : Option (Int32 × Mm) := (bp (X12_isHouse x1 h) (fun r15 => (if r15 = true then (bp (X12_isIn x2.toInt64 (0 : Int64) (4 : Int64) h) (fun r17 => (if r17 = true then (X12_house_26 x1 x2 false h) else (X12_house_25 x1 x2 h)))) else (X12_house_25 x1 x2 h))))
set_option maxRecDepth 100000 in
set_option maxHeartbeats 4000000 in
theorem s_X12_house {X : WX} {o : Mm} {x1 : Int32} {x2 : Int32} {rv : Int32} {hz : Mm} {h : Mm} (hF : X12_house x1 x2 h = some (rv, hz)) : Sat X yX12_house cX12_house 3 (some .int) 2 [.ref (xa X 251), .int x1, .int x2] false o h (some (.int rv)) hz := by
  unfold X12_house at hF
  refine Sat.mk (own := RX12) rfl (by decide +kernel) (Nat.le_of_ble_eq_true rfl) (fun G => ?_)
  refine V.sub (lv2 := [(0, _), (1, _), (2, _)]) [0, 1, 2] rfl ?_
  refine V.aload_n 0 dX12_house_0 rfl rfl ?_
  refine V.aload_n 0 dX12_house_1 rfl rfl ?_
  refine V.iload_n 1 dX12_house_2 rfl rfl ?_
  obtain ⟨r15, hc16, hF⟩ := bp_s hF
  refine V.callVi mf_X12_isHouse ml_X12_337 sh_251 (s_X12_isHouse hc16) (by decide) rfl rfl (Nat.le_of_ble_eq_true rfl) dX12_house_3 ?_
  refine V.ifz_eq (tgt := 25) dX12_house_6 rfl (fun c => ?_) (fun c => ?_)
  · replace hF := iq c hF
    exact (v_X12_house_25 hF)
  · replace hF := ip c hF
    refine V.iload_n 2 dX12_house_9 rfl rfl ?_
    refine V.i2l dX12_house_10 ?_
    refine V.lconst (v := 0) dX12_house_11 rfl ?_
    refine V.ldc2 (v := 4) dX12_house_12 kc_X12_348 ?_
    obtain ⟨r17, hc18, hF⟩ := bp_s hF
    refine V.callSi mf_X12_isIn ml_X12_214 (s_X12_isIn hc18) (by decide) rfl rfl (Nat.le_of_ble_eq_true rfl) dX12_house_15 ?_
    refine V.ifz_eq (tgt := 25) dX12_house_18 rfl (fun c => ?_) (fun c => ?_)
    · replace hF := iq c hF
      exact (v_X12_house_25 hF)
    · replace hF := ip c hF
      refine V.iconst (v := 0) dX12_house_21 rfl ?_
      refine V.goto (tgt := 26) dX12_house_22 rfl ?_
      exact (v_X12_house_26 hF)
/-! MonsterCotModel.bored -/
theorem dX12_bored_0 : decode cX12_bored 0 = .ok (.aload_n 0, 1) := by decide +kernel
theorem dX12_bored_1 : decode cX12_bored 1 = .ok (.iconst 0, 1) := by decide +kernel
theorem dX12_bored_2 : decode cX12_bored 2 = .ok (.putfield 93, 3) := by decide +kernel
theorem dX12_bored_5 : decode cX12_bored 5 = .ok (.aload_n 0, 1) := by decide +kernel
theorem dX12_bored_6 : decode cX12_bored 6 = .ok (.getfield 291, 3) := by decide +kernel
theorem dX12_bored_9 : decode cX12_bored 9 = .ok (.ifCond .le 27, 3) := by decide +kernel
theorem dX12_bored_12 : decode cX12_bored 12 = .ok (.iload_n 1, 1) := by decide +kernel
theorem dX12_bored_13 : decode cX12_bored 13 = .ok (.i2l, 1) := by decide +kernel
theorem dX12_bored_14 : decode cX12_bored 14 = .ok (.lconst 0, 1) := by decide +kernel
theorem dX12_bored_15 : decode cX12_bored 15 = .ok (.ldc2_w 346, 3) := by decide +kernel
theorem dX12_bored_18 : decode cX12_bored 18 = .ok (.invokestatic 214, 3) := by decide +kernel
theorem dX12_bored_21 : decode cX12_bored 21 = .ok (.ifCond .eq 15, 3) := by decide +kernel
theorem dX12_bored_24 : decode cX12_bored 24 = .ok (.aload_n 0, 1) := by decide +kernel
theorem dX12_bored_25 : decode cX12_bored 25 = .ok (.getfield 61, 3) := by decide +kernel
theorem dX12_bored_28 : decode cX12_bored 28 = .ok (.bipush 18, 2) := by decide +kernel
theorem dX12_bored_30 : decode cX12_bored 30 = .ok (.iload_n 1, 1) := by decide +kernel
theorem dX12_bored_31 : decode cX12_bored 31 = .ok (.iadd, 1) := by decide +kernel
theorem dX12_bored_32 : decode cX12_bored 32 = .ok (.iaload, 1) := by decide +kernel
theorem dX12_bored_33 : decode cX12_bored 33 = .ok (.goto 4, 3) := by decide +kernel
theorem dX12_bored_36 : decode cX12_bored 36 = .ok (.iconst (-1), 1) := by decide +kernel
theorem dX12_bored_37 : decode cX12_bored 37 = .ok (.ireturn, 1) := by decide +kernel
def X12_bored (x1 : Int32) (h : Mm) : Option (Int32 × Mm) := (if ((wI h 251 0 (0 : Int32)).1 251 27) ≤ 0 then (some ((-1 : Int32), (wI h 251 0 (0 : Int32)))) else (bp (X12_isIn x1.toInt64 (0 : Int64) (3 : Int64) (wI h 251 0 (0 : Int32))) (fun r3 => (if r3 = true then (if inB ((18 : Int32) + x1) (aln 264) then (some (((wI h 251 0 (0 : Int32)).1 264 ((18 : Int32) + x1).toNatClampNeg), (wI h 251 0 (0 : Int32)))) else none) else (some ((-1 : Int32), (wI h 251 0 (0 : Int32))))))))
set_option maxRecDepth 100000 in
set_option maxHeartbeats 4000000 in
theorem s_X12_bored {X : WX} {o : Mm} {x1 : Int32} {rv : Int32} {hz : Mm} {h : Mm} (hF : X12_bored x1 h = some (rv, hz)) : Sat X yX12_bored cX12_bored 2 (some .int) 2 [.ref (xa X 251), .int x1] false o h (some (.int rv)) hz := by
  unfold X12_bored at hF
  refine Sat.mk (own := RX12) rfl (by decide +kernel) (Nat.le_of_ble_eq_true rfl) (fun G => ?_)
  refine V.sub (lv2 := [(0, _), (1, _)]) [0, 1] rfl ?_
  refine V.aload_n 0 dX12_bored_0 rfl rfl ?_
  refine V.iconst (v := 0) dX12_bored_1 rfl ?_
  refine V.putI fl_X12_93 rfl (tyX12_ok 0 (by decide)) rfl rfl sh_251 rfl km_251 dX12_bored_2 ?_
  refine V.aload_n 0 dX12_bored_5 rfl rfl ?_
  refine V.getI fl_X12_291 sh_251 rfl km_251 dX12_bored_6 ?_
  refine V.if_le (tgt := 36) dX12_bored_9 rfl (fun c => ?_) (fun c => ?_)
  · replace hF := ip c hF
    refine V.iconst (v := -1) dX12_bored_36 rfl ?_
    cases hF
    exact V.iret dX12_bored_37
  · replace hF := iq c hF
    refine V.iload_n 1 dX12_bored_12 rfl rfl ?_
    refine V.i2l dX12_bored_13 ?_
    refine V.lconst (v := 0) dX12_bored_14 rfl ?_
    refine V.ldc2 (v := 3) dX12_bored_15 kc_X12_346 ?_
    obtain ⟨r3, hc4, hF⟩ := bp_s hF
    refine V.callSi mf_X12_isIn ml_X12_214 (s_X12_isIn hc4) (by decide) rfl rfl (Nat.le_of_ble_eq_true rfl) dX12_bored_18 ?_
    refine V.ifz_eq (tgt := 36) dX12_bored_21 rfl (fun c => ?_) (fun c => ?_)
    · replace hF := iq c hF
      refine V.iconst (v := -1) dX12_bored_36 rfl ?_
      cases hF
      exact V.iret dX12_bored_37
    · replace hF := ip c hF
      refine V.aload_n 0 dX12_bored_24 rfl rfl ?_
      refine V.getR (v := 264) fl_X12_61 sh_251 rfl fx_251_32 (by decide) dX12_bored_25 ?_
      refine V.bipush (v := 18) dX12_bored_28 (by decide) ?_
      refine V.iload_n 1 dX12_bored_30 rfl rfl ?_
      refine V.iadd dX12_bored_31 ?_
      obtain ⟨hk, hF⟩ := ck hF
      refine V.iald io_264 hk dX12_bored_32 ?_
      refine V.goto (tgt := 37) dX12_bored_33 rfl ?_
      cases hF
      exact V.iret dX12_bored_37
/-! MonsterCotModel.law -/
theorem dX12_law_0 : decode cX12_law 0 = .ok (.aload_n 0, 1) := by decide +kernel
theorem dX12_law_1 : decode cX12_law 1 = .ok (.iconst 0, 1) := by decide +kernel
theorem dX12_law_2 : decode cX12_law 2 = .ok (.putfield 93, 3) := by decide +kernel
theorem dX12_law_5 : decode cX12_law 5 = .ok (.iload_n 1, 1) := by decide +kernel
theorem dX12_law_6 : decode cX12_law 6 = .ok (.iconst (-1), 1) := by decide +kernel
theorem dX12_law_7 : decode cX12_law 7 = .ok (.if_icmp .eq 21, 3) := by decide +kernel
theorem dX12_law_10 : decode cX12_law 10 = .ok (.iload_n 1, 1) := by decide +kernel
theorem dX12_law_11 : decode cX12_law 11 = .ok (.i2l, 1) := by decide +kernel
theorem dX12_law_12 : decode cX12_law 12 = .ok (.lconst 0, 1) := by decide +kernel
theorem dX12_law_13 : decode cX12_law 13 = .ok (.aload_n 0, 1) := by decide +kernel
theorem dX12_law_14 : decode cX12_law 14 = .ok (.getfield 280, 3) := by decide +kernel
theorem dX12_law_17 : decode cX12_law 17 = .ok (.iconst 1, 1) := by decide +kernel
theorem dX12_law_18 : decode cX12_law 18 = .ok (.isub, 1) := by decide +kernel
theorem dX12_law_19 : decode cX12_law 19 = .ok (.i2l, 1) := by decide +kernel
theorem dX12_law_20 : decode cX12_law 20 = .ok (.invokestatic 214, 3) := by decide +kernel
theorem dX12_law_23 : decode cX12_law 23 = .ok (.ifCond .ne 5, 3) := by decide +kernel
theorem dX12_law_26 : decode cX12_law 26 = .ok (.iconst 0, 1) := by decide +kernel
theorem dX12_law_27 : decode cX12_law 27 = .ok (.ireturn, 1) := by decide +kernel
theorem dX12_law_28 : decode cX12_law 28 = .ok (.aload_n 0, 1) := by decide +kernel
theorem dX12_law_29 : decode cX12_law 29 = .ok (.iload_n 1, 1) := by decide +kernel
theorem dX12_law_30 : decode cX12_law 30 = .ok (.putfield 67, 3) := by decide +kernel
theorem dX12_law_33 : decode cX12_law 33 = .ok (.iconst 1, 1) := by decide +kernel
theorem dX12_law_34 : decode cX12_law 34 = .ok (.ireturn, 1) := by decide +kernel
def X12_law_28 (x1 : Int32) (h : Mm) : Option (Bool × Mm) := (some (true, (wI h 251 34 x1)))
set_option maxRecDepth 100000 in
set_option maxHeartbeats 4000000 in
theorem v_X12_law_28 {X : WX} {G : GX} {o : Mm} {rv : Bool} {hz : Mm} {x1 : Int32} {h : Mm} (hF : X12_law_28  x1 h = some (rv, hz)) : V X G RX12 cX12_law 2 (some .boolean) 2 0 0 (QR X G false o (some (.int (b2i rv))) hz) false o 28 [(0, .ref (xa X 251)), (1, .int x1)] [] h := by
  unfold X12_law_28 at hF
  refine V.aload_n 0 dX12_law_28 rfl rfl ?_
  refine V.iload_n 1 dX12_law_29 rfl rfl ?_
  refine V.putI fl_X12_67 rfl (tyX12_ok 34 (by decide)) rfl rfl sh_251 rfl km_251 dX12_law_30 ?_
  refine V.iconst (v := 1) dX12_law_33 rfl ?_
  cases hF
  exact V.bret dX12_law_34
def X12_law (x1 : Int32) (h : Mm) : Option (Bool × Mm) := (if x1 = (-1 : Int32) then (X12_law_28 x1 (wI h 251 0 (0 : Int32))) else (bp (X12_isIn x1.toInt64 (0 : Int64) ((((wI h 251 0 (0 : Int32)).1 251 7) - (1 : Int32)).toInt64) (wI h 251 0 (0 : Int32))) (fun r5 => (if r5 = true then (X12_law_28 x1 (wI h 251 0 (0 : Int32))) else (some (false, (wI h 251 0 (0 : Int32))))))))
set_option maxRecDepth 100000 in
set_option maxHeartbeats 4000000 in
theorem s_X12_law {X : WX} {o : Mm} {x1 : Int32} {rv : Bool} {hz : Mm} {h : Mm} (hF : X12_law x1 h = some (rv, hz)) : Sat X yX12_law cX12_law 2 (some .boolean) 2 [.ref (xa X 251), .int x1] false o h (some (.int (b2i rv))) hz := by
  unfold X12_law at hF
  refine Sat.mk (own := RX12) rfl (by decide +kernel) (Nat.le_of_ble_eq_true rfl) (fun G => ?_)
  refine V.sub (lv2 := [(0, _), (1, _)]) [0, 1] rfl ?_
  refine V.aload_n 0 dX12_law_0 rfl rfl ?_
  refine V.iconst (v := 0) dX12_law_1 rfl ?_
  refine V.putI fl_X12_93 rfl (tyX12_ok 0 (by decide)) rfl rfl sh_251 rfl km_251 dX12_law_2 ?_
  refine V.iload_n 1 dX12_law_5 rfl rfl ?_
  refine V.iconst (v := -1) dX12_law_6 rfl ?_
  refine V.icmp_eq (tgt := 28) dX12_law_7 rfl (fun c => ?_) (fun c => ?_)
  · replace hF := ip c hF
    exact (v_X12_law_28 hF)
  · replace hF := iq c hF
    refine V.iload_n 1 dX12_law_10 rfl rfl ?_
    refine V.i2l dX12_law_11 ?_
    refine V.lconst (v := 0) dX12_law_12 rfl ?_
    refine V.aload_n 0 dX12_law_13 rfl rfl ?_
    refine V.getI fl_X12_280 sh_251 rfl km_251 dX12_law_14 ?_
    refine V.iconst (v := 1) dX12_law_17 rfl ?_
    refine V.isub dX12_law_18 ?_
    refine V.i2l dX12_law_19 ?_
    obtain ⟨r5, hc6, hF⟩ := bp_s hF
    refine V.callSi mf_X12_isIn ml_X12_214 (s_X12_isIn hc6) (by decide) rfl rfl (Nat.le_of_ble_eq_true rfl) dX12_law_20 ?_
    refine V.ifz_ne (tgt := 28) dX12_law_23 rfl (fun c => ?_) (fun c => ?_)
    · replace hF := ip c hF
      exact (v_X12_law_28 hF)
    · replace hF := iq c hF
      refine V.iconst (v := 0) dX12_law_26 rfl ?_
      cases hF
      exact V.bret dX12_law_27
/-! MonsterCotModel.hush -/
theorem dX12_hush_0 : decode cX12_hush 0 = .ok (.aload_n 0, 1) := by decide +kernel
theorem dX12_hush_1 : decode cX12_hush 1 = .ok (.iconst 0, 1) := by decide +kernel
theorem dX12_hush_2 : decode cX12_hush 2 = .ok (.putfield 93, 3) := by decide +kernel
theorem dX12_hush_5 : decode cX12_hush 5 = .ok (.iload_n 1, 1) := by decide +kernel
theorem dX12_hush_6 : decode cX12_hush 6 = .ok (.i2l, 1) := by decide +kernel
theorem dX12_hush_7 : decode cX12_hush 7 = .ok (.lconst 0, 1) := by decide +kernel
theorem dX12_hush_8 : decode cX12_hush 8 = .ok (.ldc2_w 350, 3) := by decide +kernel
theorem dX12_hush_11 : decode cX12_hush 11 = .ok (.invokestatic 214, 3) := by decide +kernel
theorem dX12_hush_14 : decode cX12_hush 14 = .ok (.ifCond .eq 11, 3) := by decide +kernel
theorem dX12_hush_17 : decode cX12_hush 17 = .ok (.iload_n 1, 1) := by decide +kernel
theorem dX12_hush_18 : decode cX12_hush 18 = .ok (.aload_n 0, 1) := by decide +kernel
theorem dX12_hush_19 : decode cX12_hush 19 = .ok (.getfield 352, 3) := by decide +kernel
theorem dX12_hush_22 : decode cX12_hush 22 = .ok (.if_icmp .ne 5, 3) := by decide +kernel
theorem dX12_hush_25 : decode cX12_hush 25 = .ok (.iconst 0, 1) := by decide +kernel
theorem dX12_hush_26 : decode cX12_hush 26 = .ok (.ireturn, 1) := by decide +kernel
theorem dX12_hush_27 : decode cX12_hush 27 = .ok (.aload_n 0, 1) := by decide +kernel
theorem dX12_hush_28 : decode cX12_hush 28 = .ok (.iload_n 1, 1) := by decide +kernel
theorem dX12_hush_29 : decode cX12_hush 29 = .ok (.putfield 352, 3) := by decide +kernel
theorem dX12_hush_32 : decode cX12_hush 32 = .ok (.iconst 1, 1) := by decide +kernel
theorem dX12_hush_33 : decode cX12_hush 33 = .ok (.ireturn, 1) := by decide +kernel
def X12_hush (x1 : Int32) (h : Mm) : Option (Bool × Mm) := (bp (X12_isIn x1.toInt64 (0 : Int64) (9 : Int64) (wI h 251 0 (0 : Int32))) (fun r3 => (if r3 = true then (if x1 = ((wI h 251 0 (0 : Int32)).1 251 35) then (some (false, (wI h 251 0 (0 : Int32)))) else (some (true, (wI (wI h 251 0 (0 : Int32)) 251 35 x1)))) else (some (false, (wI h 251 0 (0 : Int32)))))))
set_option maxRecDepth 100000 in
set_option maxHeartbeats 4000000 in
theorem s_X12_hush {X : WX} {o : Mm} {x1 : Int32} {rv : Bool} {hz : Mm} {h : Mm} (hF : X12_hush x1 h = some (rv, hz)) : Sat X yX12_hush cX12_hush 2 (some .boolean) 2 [.ref (xa X 251), .int x1] false o h (some (.int (b2i rv))) hz := by
  unfold X12_hush at hF
  refine Sat.mk (own := RX12) rfl (by decide +kernel) (Nat.le_of_ble_eq_true rfl) (fun G => ?_)
  refine V.sub (lv2 := [(0, _), (1, _)]) [0, 1] rfl ?_
  refine V.aload_n 0 dX12_hush_0 rfl rfl ?_
  refine V.iconst (v := 0) dX12_hush_1 rfl ?_
  refine V.putI fl_X12_93 rfl (tyX12_ok 0 (by decide)) rfl rfl sh_251 rfl km_251 dX12_hush_2 ?_
  refine V.iload_n 1 dX12_hush_5 rfl rfl ?_
  refine V.i2l dX12_hush_6 ?_
  refine V.lconst (v := 0) dX12_hush_7 rfl ?_
  refine V.ldc2 (v := 9) dX12_hush_8 kc_X12_350 ?_
  obtain ⟨r3, hc4, hF⟩ := bp_s hF
  refine V.callSi mf_X12_isIn ml_X12_214 (s_X12_isIn hc4) (by decide) rfl rfl (Nat.le_of_ble_eq_true rfl) dX12_hush_11 ?_
  refine V.ifz_eq (tgt := 25) dX12_hush_14 rfl (fun c => ?_) (fun c => ?_)
  · replace hF := iq c hF
    refine V.iconst (v := 0) dX12_hush_25 rfl ?_
    cases hF
    exact V.bret dX12_hush_26
  · replace hF := ip c hF
    refine V.iload_n 1 dX12_hush_17 rfl rfl ?_
    refine V.aload_n 0 dX12_hush_18 rfl rfl ?_
    refine V.getI fl_X12_352 sh_251 rfl km_251 dX12_hush_19 ?_
    refine V.icmp_ne (tgt := 27) dX12_hush_22 rfl (fun c => ?_) (fun c => ?_)
    · replace hF := iq c hF
      refine V.aload_n 0 dX12_hush_27 rfl rfl ?_
      refine V.iload_n 1 dX12_hush_28 rfl rfl ?_
      refine V.putI fl_X12_352 rfl (tyX12_ok 35 (by decide)) rfl rfl sh_251 rfl km_251 dX12_hush_29 ?_
      refine V.iconst (v := 1) dX12_hush_32 rfl ?_
      cases hF
      exact V.bret dX12_hush_33
    · replace hF := ip c hF
      refine V.iconst (v := 0) dX12_hush_25 rfl ?_
      cases hF
      exact V.bret dX12_hush_26
/-! MonsterCotModel.remember -/
theorem dX12_remember_0 : decode cX12_remember 0 = .ok (.aload_n 0, 1) := by decide +kernel
theorem dX12_remember_1 : decode cX12_remember 1 = .ok (.getfield 297, 3) := by decide +kernel
theorem dX12_remember_4 : decode cX12_remember 4 = .ok (.bipush 40, 2) := by decide +kernel
theorem dX12_remember_6 : decode cX12_remember 6 = .ok (.if_icmp .ne 44, 3) := by decide +kernel
theorem dX12_remember_9 : decode cX12_remember 9 = .ok (.iconst 0, 1) := by decide +kernel
theorem dX12_remember_10 : decode cX12_remember 10 = .ok (.istore_n 1, 1) := by decide +kernel
theorem dX12_remember_11 : decode cX12_remember 11 = .ok (.iload_n 1, 1) := by decide +kernel
theorem dX12_remember_12 : decode cX12_remember 12 = .ok (.sipush 8229, 3) := by decide +kernel
theorem dX12_remember_15 : decode cX12_remember 15 = .ok (.if_icmp .ge 25, 3) := by decide +kernel
theorem dX12_remember_18 : decode cX12_remember 18 = .ok (.aload_n 0, 1) := by decide +kernel
theorem dX12_remember_19 : decode cX12_remember 19 = .ok (.getfield 78, 3) := by decide +kernel
theorem dX12_remember_22 : decode cX12_remember 22 = .ok (.iload_n 1, 1) := by decide +kernel
theorem dX12_remember_23 : decode cX12_remember 23 = .ok (.aload_n 0, 1) := by decide +kernel
theorem dX12_remember_24 : decode cX12_remember 24 = .ok (.getfield 78, 3) := by decide +kernel
theorem dX12_remember_27 : decode cX12_remember 27 = .ok (.iload_n 1, 1) := by decide +kernel
theorem dX12_remember_28 : decode cX12_remember 28 = .ok (.sipush 211, 3) := by decide +kernel
theorem dX12_remember_31 : decode cX12_remember 31 = .ok (.iadd, 1) := by decide +kernel
theorem dX12_remember_32 : decode cX12_remember 32 = .ok (.iaload, 1) := by decide +kernel
theorem dX12_remember_33 : decode cX12_remember 33 = .ok (.iastore, 1) := by decide +kernel
theorem dX12_remember_34 : decode cX12_remember 34 = .ok (.iinc 1 1, 3) := by decide +kernel
theorem dX12_remember_37 : decode cX12_remember 37 = .ok (.goto (-26), 3) := by decide +kernel
theorem dX12_remember_40 : decode cX12_remember 40 = .ok (.aload_n 0, 1) := by decide +kernel
theorem dX12_remember_41 : decode cX12_remember 41 = .ok (.dup, 1) := by decide +kernel
theorem dX12_remember_42 : decode cX12_remember 42 = .ok (.getfield 297, 3) := by decide +kernel
theorem dX12_remember_45 : decode cX12_remember 45 = .ok (.iconst 1, 1) := by decide +kernel
theorem dX12_remember_46 : decode cX12_remember 46 = .ok (.isub, 1) := by decide +kernel
theorem dX12_remember_47 : decode cX12_remember 47 = .ok (.putfield 297, 3) := by decide +kernel
theorem dX12_remember_50 : decode cX12_remember 50 = .ok (.iconst 0, 1) := by decide +kernel
theorem dX12_remember_51 : decode cX12_remember 51 = .ok (.istore_n 1, 1) := by decide +kernel
theorem dX12_remember_52 : decode cX12_remember 52 = .ok (.iload_n 1, 1) := by decide +kernel
theorem dX12_remember_53 : decode cX12_remember 53 = .ok (.sipush 211, 3) := by decide +kernel
theorem dX12_remember_56 : decode cX12_remember 56 = .ok (.if_icmp .ge 30, 3) := by decide +kernel
theorem dX12_remember_59 : decode cX12_remember 59 = .ok (.aload_n 0, 1) := by decide +kernel
theorem dX12_remember_60 : decode cX12_remember 60 = .ok (.getfield 78, 3) := by decide +kernel
theorem dX12_remember_63 : decode cX12_remember 63 = .ok (.sipush 211, 3) := by decide +kernel
theorem dX12_remember_66 : decode cX12_remember 66 = .ok (.aload_n 0, 1) := by decide +kernel
theorem dX12_remember_67 : decode cX12_remember 67 = .ok (.getfield 297, 3) := by decide +kernel
theorem dX12_remember_70 : decode cX12_remember 70 = .ok (.imul, 1) := by decide +kernel
theorem dX12_remember_71 : decode cX12_remember 71 = .ok (.iload_n 1, 1) := by decide +kernel
theorem dX12_remember_72 : decode cX12_remember 72 = .ok (.iadd, 1) := by decide +kernel
theorem dX12_remember_73 : decode cX12_remember 73 = .ok (.aload_n 0, 1) := by decide +kernel
theorem dX12_remember_74 : decode cX12_remember 74 = .ok (.getfield 61, 3) := by decide +kernel
theorem dX12_remember_77 : decode cX12_remember 77 = .ok (.iload_n 1, 1) := by decide +kernel
theorem dX12_remember_78 : decode cX12_remember 78 = .ok (.iaload, 1) := by decide +kernel
theorem dX12_remember_79 : decode cX12_remember 79 = .ok (.iastore, 1) := by decide +kernel
theorem dX12_remember_80 : decode cX12_remember 80 = .ok (.iinc 1 1, 3) := by decide +kernel
theorem dX12_remember_83 : decode cX12_remember 83 = .ok (.goto (-31), 3) := by decide +kernel
theorem dX12_remember_86 : decode cX12_remember 86 = .ok (.aload_n 0, 1) := by decide +kernel
theorem dX12_remember_87 : decode cX12_remember 87 = .ok (.dup, 1) := by decide +kernel
theorem dX12_remember_88 : decode cX12_remember 88 = .ok (.getfield 297, 3) := by decide +kernel
theorem dX12_remember_91 : decode cX12_remember 91 = .ok (.iconst 1, 1) := by decide +kernel
theorem dX12_remember_92 : decode cX12_remember 92 = .ok (.iadd, 1) := by decide +kernel
theorem dX12_remember_93 : decode cX12_remember 93 = .ok (.putfield 297, 3) := by decide +kernel
theorem dX12_remember_96 : decode cX12_remember 96 = .ok (.return_, 1) := by decide +kernel
def X12_remember_52 (n : Nat) : Nat → Int32 → Mm → Option (Unit × Mm)
  | 0, _, _ => none
  | f + 1, x1, h => (if (211 : Int32) ≤ x1 then (some ((), (wI h 251 39 ((h.1 251 39) + (1 : Int32))))) else (if inB x1 (aln 264) then (if inB (((211 : Int32) * (h.1 251 39)) + x1) (aln 268) then ((X12_remember_52 n f) (x1 + (1)) (wI h 268 (((211 : Int32) * (h.1 251 39)) + x1).toNatClampNeg (h.1 264 x1.toNatClampNeg))) else none) else none))
set_option maxRecDepth 100000 in
set_option maxHeartbeats 4000000 in
theorem v_X12_remember_52 {X : WX} {G : GX} {o : Mm} {n : Nat} {rv : Unit} {hz : Mm} : ∀ (f : Nat) (x1 : Int32) (h : Mm), X12_remember_52 n f x1 h = some (rv, hz) → V X G RX12 cX12_remember 2 (none) 1 0 0 (QR X G false o none hz) false o 52 [(0, .ref (xa X 251)), (1, .int x1)] [] h := by
  intro f
  induction f with
  | zero => intro x1 h hF; exact nomatch (show (none : Option (Unit × Mm)) = some (rv, hz) from hF)
  | succ f ih =>
    intro x1 h hF
    unfold X12_remember_52 at hF
    refine V.iload_n 1 dX12_remember_52 rfl rfl ?_
    refine V.sipush (v := 211) dX12_remember_53 (by decide) ?_
    refine V.icmp_ge (tgt := 86) dX12_remember_56 rfl (fun c => ?_) (fun c => ?_)
    · replace hF := ip c hF
      refine V.aload_n 0 dX12_remember_86 rfl rfl ?_
      refine V.dup dX12_remember_87 rfl ?_
      refine V.getI fl_X12_297 sh_251 rfl km_251 dX12_remember_88 ?_
      refine V.iconst (v := 1) dX12_remember_91 rfl ?_
      refine V.iadd dX12_remember_92 ?_
      refine V.putI fl_X12_297 rfl (tyX12_ok 39 (by decide)) rfl rfl sh_251 rfl km_251 dX12_remember_93 ?_
      cases hF
      exact V.vret dX12_remember_96
    · replace hF := iq c hF
      refine V.aload_n 0 dX12_remember_59 rfl rfl ?_
      refine V.getR (v := 268) fl_X12_78 sh_251 rfl fx_251_38 (by decide) dX12_remember_60 ?_
      refine V.sipush (v := 211) dX12_remember_63 (by decide) ?_
      refine V.aload_n 0 dX12_remember_66 rfl rfl ?_
      refine V.getI fl_X12_297 sh_251 rfl km_251 dX12_remember_67 ?_
      refine V.imul dX12_remember_70 ?_
      refine V.iload_n 1 dX12_remember_71 rfl rfl ?_
      refine V.iadd dX12_remember_72 ?_
      refine V.aload_n 0 dX12_remember_73 rfl rfl ?_
      refine V.getR (v := 264) fl_X12_61 sh_251 rfl fx_251_32 (by decide) dX12_remember_74 ?_
      refine V.iload_n 1 dX12_remember_77 rfl rfl ?_
      obtain ⟨hk, hF⟩ := ck hF
      refine V.iald io_264 hk dX12_remember_78 ?_
      obtain ⟨hk, hF⟩ := ck hF
      refine V.iast io_268 hk dX12_remember_79 ?_
      refine V.iinc (v := (x1 + (1))) 1 [(1, _), (0, _)] dX12_remember_80 rfl rfl (by decide) rfl ?_
      refine V.goto (tgt := 52) dX12_remember_83 rfl ?_
      exact V.sub [1, 0] rfl (ih _ _ hF)
def X12_remember_50 (n : Nat) (h : Mm) : Option (Unit × Mm) := (X12_remember_52 n n (0 : Int32) h)
set_option maxRecDepth 100000 in
set_option maxHeartbeats 4000000 in
theorem v_X12_remember_50 {X : WX} {G : GX} {o : Mm} {n : Nat} {rv : Unit} {hz : Mm} {h : Mm} (hF : X12_remember_50 n h = some (rv, hz)) : V X G RX12 cX12_remember 2 (none) 1 0 0 (QR X G false o none hz) false o 50 [(0, .ref (xa X 251))] [] h := by
  unfold X12_remember_50 at hF
  refine V.iconst (v := 0) dX12_remember_50 rfl ?_
  refine V.istore_n [(1, _), (0, _)] dX12_remember_51 rfl (by decide) rfl ?_
  exact V.sub [1, 0] rfl (v_X12_remember_52 n _ _ hF)
def X12_remember_11 (n : Nat) : Nat → Int32 → Mm → Option (Unit × Mm)
  | 0, _, _ => none
  | f + 1, x1, h => (if (8229 : Int32) ≤ x1 then (X12_remember_50 n (wI h 251 39 ((h.1 251 39) - (1 : Int32)))) else (if inB (x1 + (211 : Int32)) (aln 268) then (if inB x1 (aln 268) then ((X12_remember_11 n f) (x1 + (1)) (wI h 268 x1.toNatClampNeg (h.1 268 (x1 + (211 : Int32)).toNatClampNeg))) else none) else none))
set_option maxRecDepth 100000 in
set_option maxHeartbeats 4000000 in
theorem v_X12_remember_11 {X : WX} {G : GX} {o : Mm} {n : Nat} {rv : Unit} {hz : Mm} : ∀ (f : Nat) (x1 : Int32) (h : Mm), X12_remember_11 n f x1 h = some (rv, hz) → V X G RX12 cX12_remember 2 (none) 1 0 0 (QR X G false o none hz) false o 11 [(0, .ref (xa X 251)), (1, .int x1)] [] h := by
  intro f
  induction f with
  | zero => intro x1 h hF; exact nomatch (show (none : Option (Unit × Mm)) = some (rv, hz) from hF)
  | succ f ih =>
    intro x1 h hF
    unfold X12_remember_11 at hF
    refine V.iload_n 1 dX12_remember_11 rfl rfl ?_
    refine V.sipush (v := 8229) dX12_remember_12 (by decide) ?_
    refine V.icmp_ge (tgt := 40) dX12_remember_15 rfl (fun c => ?_) (fun c => ?_)
    · replace hF := ip c hF
      refine V.aload_n 0 dX12_remember_40 rfl rfl ?_
      refine V.dup dX12_remember_41 rfl ?_
      refine V.getI fl_X12_297 sh_251 rfl km_251 dX12_remember_42 ?_
      refine V.iconst (v := 1) dX12_remember_45 rfl ?_
      refine V.isub dX12_remember_46 ?_
      refine V.putI fl_X12_297 rfl (tyX12_ok 39 (by decide)) rfl rfl sh_251 rfl km_251 dX12_remember_47 ?_
      exact V.sub [0] rfl (v_X12_remember_50 hF)
    · replace hF := iq c hF
      refine V.aload_n 0 dX12_remember_18 rfl rfl ?_
      refine V.getR (v := 268) fl_X12_78 sh_251 rfl fx_251_38 (by decide) dX12_remember_19 ?_
      refine V.iload_n 1 dX12_remember_22 rfl rfl ?_
      refine V.aload_n 0 dX12_remember_23 rfl rfl ?_
      refine V.getR (v := 268) fl_X12_78 sh_251 rfl fx_251_38 (by decide) dX12_remember_24 ?_
      refine V.iload_n 1 dX12_remember_27 rfl rfl ?_
      refine V.sipush (v := 211) dX12_remember_28 (by decide) ?_
      refine V.iadd dX12_remember_31 ?_
      obtain ⟨hk, hF⟩ := ck hF
      refine V.iald io_268 hk dX12_remember_32 ?_
      obtain ⟨hk, hF⟩ := ck hF
      refine V.iast io_268 hk dX12_remember_33 ?_
      refine V.iinc (v := (x1 + (1))) 1 [(1, _), (0, _)] dX12_remember_34 rfl rfl (by decide) rfl ?_
      refine V.goto (tgt := 11) dX12_remember_37 rfl ?_
      exact V.sub [1, 0] rfl (ih _ _ hF)
def X12_remember (n : Nat) (h : Mm) : Option (Unit × Mm) := (if (h.1 251 39) = (40 : Int32) then (X12_remember_11 n n (0 : Int32) h) else (X12_remember_50 n h))
set_option maxRecDepth 100000 in
set_option maxHeartbeats 4000000 in
theorem s_X12_remember {X : WX} {o : Mm} {n : Nat} {rv : Unit} {hz : Mm} {h : Mm} (hF : X12_remember n h = some (rv, hz)) : Sat X yX12_remember cX12_remember 2 (none) 1 [.ref (xa X 251)] false o h none hz := by
  unfold X12_remember at hF
  refine Sat.mk (own := RX12) rfl (by decide +kernel) (Nat.le_of_ble_eq_true rfl) (fun G => ?_)
  refine V.sub (lv2 := [(0, _)]) [0] rfl ?_
  refine V.aload_n 0 dX12_remember_0 rfl rfl ?_
  refine V.getI fl_X12_297 sh_251 rfl km_251 dX12_remember_1 ?_
  refine V.bipush (v := 40) dX12_remember_4 (by decide) ?_
  refine V.icmp_ne (tgt := 50) dX12_remember_6 rfl (fun c => ?_) (fun c => ?_)
  · replace hF := iq c hF
    exact (v_X12_remember_50 hF)
  · replace hF := ip c hF
    refine V.iconst (v := 0) dX12_remember_9 rfl ?_
    refine V.istore_n [(1, _), (0, _)] dX12_remember_10 rfl (by decide) rfl ?_
    exact V.sub [1, 0] rfl (v_X12_remember_11 n _ _ hF)
/-! MonsterCotModel.mayRead -/
theorem dX12_mayRead_0 : decode cX12_mayRead 0 = .ok (.aload_n 0, 1) := by decide +kernel
theorem dX12_mayRead_1 : decode cX12_mayRead 1 = .ok (.aload_n 1, 1) := by decide +kernel
theorem dX12_mayRead_2 : decode cX12_mayRead 2 = .ok (.iload_n 2, 1) := by decide +kernel
theorem dX12_mayRead_3 : decode cX12_mayRead 3 = .ok (.iload_n 3, 1) := by decide +kernel
theorem dX12_mayRead_4 : decode cX12_mayRead 4 = .ok (.iload 4, 2) := by decide +kernel
theorem dX12_mayRead_6 : decode cX12_mayRead 6 = .ok (.invokevirtual 355, 3) := by decide +kernel
theorem dX12_mayRead_9 : decode cX12_mayRead 9 = .ok (.ifCond .eq 18, 3) := by decide +kernel
theorem dX12_mayRead_12 : decode cX12_mayRead 12 = .ok (.aload_n 1, 1) := by decide +kernel
theorem dX12_mayRead_13 : decode cX12_mayRead 13 = .ok (.bipush 24, 2) := by decide +kernel
theorem dX12_mayRead_15 : decode cX12_mayRead 15 = .ok (.iaload, 1) := by decide +kernel
theorem dX12_mayRead_16 : decode cX12_mayRead 16 = .ok (.iload_n 2, 1) := by decide +kernel
theorem dX12_mayRead_17 : decode cX12_mayRead 17 = .ok (.invokestatic 226, 3) := by decide +kernel
theorem dX12_mayRead_20 : decode cX12_mayRead 20 = .ok (.ifCond .ne 7, 3) := by decide +kernel
theorem dX12_mayRead_23 : decode cX12_mayRead 23 = .ok (.iconst 1, 1) := by decide +kernel
theorem dX12_mayRead_24 : decode cX12_mayRead 24 = .ok (.goto 4, 3) := by decide +kernel
theorem dX12_mayRead_27 : decode cX12_mayRead 27 = .ok (.iconst 0, 1) := by decide +kernel
theorem dX12_mayRead_28 : decode cX12_mayRead 28 = .ok (.ireturn, 1) := by decide +kernel
def X12_mayRead (a1 : Nat) (x2 : Int32) (x3 : Int32) (x4 : Bool) (h : Mm) : Option Bool := (bp (X12_canRead a1 x2 x3 x4 h) (fun r5 => (if r5 = true then (if inB (24 : Int32) (aln a1) then (bp (X12_has (h.1 a1 (24 : Int32).toNatClampNeg) x2 h) (fun r7 => (if r7 = true then (some false) else (some true)))) else none) else (some false))))
set_option maxRecDepth 100000 in
set_option maxHeartbeats 4000000 in
theorem s_X12_mayRead {X : WX} {o : Mm} {a1 : Nat} {x2 : Int32} {x3 : Int32} {x4 : Bool} {rv : Bool} {h : Mm} (ha1 : isO false 0 a1) (hF : X12_mayRead a1 x2 x3 x4 h = some rv) : Sat X yX12_mayRead cX12_mayRead 5 (some .boolean) 3 [.ref (xa X 251), .ref (xa X a1), .int x2, .int x3, .int (b2i x4)] false o h (some (.int (b2i rv))) h := by
  unfold X12_mayRead at hF
  refine Sat.mk (own := RX12) rfl (by decide +kernel) (Nat.le_of_ble_eq_true rfl) (fun G => ?_)
  refine V.sub (lv2 := [(0, _), (1, _), (2, _), (3, _), (4, _)]) [0, 1, 2, 3, 4] rfl ?_
  refine V.aload_n 0 dX12_mayRead_0 rfl rfl ?_
  refine V.aload_n 1 dX12_mayRead_1 rfl rfl ?_
  refine V.iload_n 2 dX12_mayRead_2 rfl rfl ?_
  refine V.iload_n 3 dX12_mayRead_3 rfl rfl ?_
  refine V.iload 4 dX12_mayRead_4 rfl ?_
  obtain ⟨r5, hc6, hF⟩ := bp_s hF
  refine V.callVi mf_X12_canRead ml_X12_355 sh_251 (s_X12_canRead ha1 hc6) (by decide) rfl rfl (Nat.le_of_ble_eq_true rfl) dX12_mayRead_6 ?_
  refine V.ifz_eq (tgt := 27) dX12_mayRead_9 rfl (fun c => ?_) (fun c => ?_)
  · replace hF := iq c hF
    refine V.iconst (v := 0) dX12_mayRead_27 rfl ?_
    cases hF
    exact V.bret dX12_mayRead_28
  · replace hF := ip c hF
    refine V.aload_n 1 dX12_mayRead_12 rfl rfl ?_
    refine V.bipush (v := 24) dX12_mayRead_13 (by decide) ?_
    obtain ⟨hk, hF⟩ := ck hF
    refine V.iald ha1 hk dX12_mayRead_15 ?_
    refine V.iload_n 2 dX12_mayRead_16 rfl rfl ?_
    obtain ⟨r7, hc8, hF⟩ := bp_s hF
    refine V.callSi mf_X12_has ml_X12_226 (s_X12_has hc8) (by decide) rfl rfl (Nat.le_of_ble_eq_true rfl) dX12_mayRead_17 ?_
    refine V.ifz_ne (tgt := 27) dX12_mayRead_20 rfl (fun c => ?_) (fun c => ?_)
    · replace hF := ip c hF
      refine V.iconst (v := 0) dX12_mayRead_27 rfl ?_
      cases hF
      exact V.bret dX12_mayRead_28
    · replace hF := iq c hF
      refine V.iconst (v := 1) dX12_mayRead_23 rfl ?_
      refine V.goto (tgt := 28) dX12_mayRead_24 rfl ?_
      cases hF
      exact V.bret dX12_mayRead_28
/-! MonsterCotModel.read -/
theorem dX12_read_0 : decode cX12_read 0 = .ok (.aload_n 0, 1) := by decide +kernel
theorem dX12_read_1 : decode cX12_read 1 = .ok (.iconst 0, 1) := by decide +kernel
theorem dX12_read_2 : decode cX12_read 2 = .ok (.putfield 93, 3) := by decide +kernel
theorem dX12_read_5 : decode cX12_read 5 = .ok (.aload_n 0, 1) := by decide +kernel
theorem dX12_read_6 : decode cX12_read 6 = .ok (.getfield 291, 3) := by decide +kernel
theorem dX12_read_9 : decode cX12_read 9 = .ok (.ifCond .eq 17, 3) := by decide +kernel
theorem dX12_read_12 : decode cX12_read 12 = .ok (.aload_n 0, 1) := by decide +kernel
theorem dX12_read_13 : decode cX12_read 13 = .ok (.aload_n 0, 1) := by decide +kernel
theorem dX12_read_14 : decode cX12_read 14 = .ok (.getfield 61, 3) := by decide +kernel
theorem dX12_read_17 : decode cX12_read 17 = .ok (.iload_n 1, 1) := by decide +kernel
theorem dX12_read_18 : decode cX12_read 18 = .ok (.iload_n 2, 1) := by decide +kernel
theorem dX12_read_19 : decode cX12_read 19 = .ok (.iload_n 3, 1) := by decide +kernel
theorem dX12_read_20 : decode cX12_read 20 = .ok (.invokevirtual 359, 3) := by decide +kernel
theorem dX12_read_23 : decode cX12_read 23 = .ok (.ifCond .ne 5, 3) := by decide +kernel
theorem dX12_read_26 : decode cX12_read 26 = .ok (.iconst (-1), 1) := by decide +kernel
theorem dX12_read_27 : decode cX12_read 27 = .ok (.ireturn, 1) := by decide +kernel
theorem dX12_read_28 : decode cX12_read 28 = .ok (.aload_n 0, 1) := by decide +kernel
theorem dX12_read_29 : decode cX12_read 29 = .ok (.invokevirtual 362, 3) := by decide +kernel
theorem dX12_read_32 : decode cX12_read 32 = .ok (.aload_n 0, 1) := by decide +kernel
theorem dX12_read_33 : decode cX12_read 33 = .ok (.aload_n 0, 1) := by decide +kernel
theorem dX12_read_34 : decode cX12_read 34 = .ok (.getfield 61, 3) := by decide +kernel
theorem dX12_read_37 : decode cX12_read 37 = .ok (.iload_n 1, 1) := by decide +kernel
theorem dX12_read_38 : decode cX12_read 38 = .ok (.iload_n 2, 1) := by decide +kernel
theorem dX12_read_39 : decode cX12_read 39 = .ok (.iload_n 3, 1) := by decide +kernel
theorem dX12_read_40 : decode cX12_read 40 = .ok (.invokevirtual 365, 3) := by decide +kernel
theorem dX12_read_43 : decode cX12_read 43 = .ok (.aload_n 0, 1) := by decide +kernel
theorem dX12_read_44 : decode cX12_read 44 = .ok (.getfield 61, 3) := by decide +kernel
theorem dX12_read_47 : decode cX12_read 47 = .ok (.bipush 22, 2) := by decide +kernel
theorem dX12_read_49 : decode cX12_read 49 = .ok (.iaload, 1) := by decide +kernel
theorem dX12_read_50 : decode cX12_read 50 = .ok (.ireturn, 1) := by decide +kernel
def X12_read (n : Nat) (x1 : Int32) (x2 : Int32) (x3 : Bool) (h : Mm) : Option (Int32 × Mm) := (if ((wI h 251 0 (0 : Int32)).1 251 27) = 0 then (some ((-1 : Int32), (wI h 251 0 (0 : Int32)))) else (bp (X12_mayRead 264 x1 x2 x3 (wI h 251 0 (0 : Int32))) (fun r9 => (if r9 = true then (bd (X12_remember n (wI h 251 0 (0 : Int32))) (fun _ h13 => (bd (X12_reads n 264 x1 x2 x3 h13) (fun _ h16 => (if inB (22 : Int32) (aln 264) then (some ((h16.1 264 (22 : Int32).toNatClampNeg), h16)) else none))))) else (some ((-1 : Int32), (wI h 251 0 (0 : Int32))))))))
set_option maxRecDepth 100000 in
set_option maxHeartbeats 4000000 in
theorem s_X12_read {X : WX} {o : Mm} {n : Nat} {x1 : Int32} {x2 : Int32} {x3 : Bool} {rv : Int32} {hz : Mm} {h : Mm} (hF : X12_read n x1 x2 x3 h = some (rv, hz)) : Sat X yX12_read cX12_read 4 (some .int) 92 [.ref (xa X 251), .int x1, .int x2, .int (b2i x3)] false o h (some (.int rv)) hz := by
  unfold X12_read at hF
  refine Sat.mk (own := RX12) rfl (by decide +kernel) (Nat.le_of_ble_eq_true rfl) (fun G => ?_)
  refine V.sub (lv2 := [(0, _), (1, _), (2, _), (3, _)]) [0, 1, 2, 3] rfl ?_
  refine V.aload_n 0 dX12_read_0 rfl rfl ?_
  refine V.iconst (v := 0) dX12_read_1 rfl ?_
  refine V.putI fl_X12_93 rfl (tyX12_ok 0 (by decide)) rfl rfl sh_251 rfl km_251 dX12_read_2 ?_
  refine V.aload_n 0 dX12_read_5 rfl rfl ?_
  refine V.getI fl_X12_291 sh_251 rfl km_251 dX12_read_6 ?_
  refine V.if_eq (tgt := 26) dX12_read_9 rfl (fun c => ?_) (fun c => ?_)
  · replace hF := ip c hF
    refine V.iconst (v := -1) dX12_read_26 rfl ?_
    cases hF
    exact V.iret dX12_read_27
  · replace hF := iq c hF
    refine V.aload_n 0 dX12_read_12 rfl rfl ?_
    refine V.aload_n 0 dX12_read_13 rfl rfl ?_
    refine V.getR (v := 264) fl_X12_61 sh_251 rfl fx_251_32 (by decide) dX12_read_14 ?_
    refine V.iload_n 1 dX12_read_17 rfl rfl ?_
    refine V.iload_n 2 dX12_read_18 rfl rfl ?_
    refine V.iload_n 3 dX12_read_19 rfl rfl ?_
    obtain ⟨r9, hc10, hF⟩ := bp_s hF
    refine V.callVi mf_X12_mayRead ml_X12_359 sh_251 (s_X12_mayRead io_264 hc10) (by decide) rfl rfl (Nat.le_of_ble_eq_true rfl) dX12_read_20 ?_
    refine V.ifz_ne (tgt := 28) dX12_read_23 rfl (fun c => ?_) (fun c => ?_)
    · replace hF := ip c hF
      refine V.aload_n 0 dX12_read_28 rfl rfl ?_
      obtain ⟨r11, h13, hc12, hF⟩ := bd_s hF
      refine V.callVv mf_X12_remember ml_X12_362 sh_251 (s_X12_remember hc12) (by decide) rfl rfl (Nat.le_of_ble_eq_true rfl) dX12_read_29 ?_
      refine V.aload_n 0 dX12_read_32 rfl rfl ?_
      refine V.aload_n 0 dX12_read_33 rfl rfl ?_
      refine V.getR (v := 264) fl_X12_61 sh_251 rfl fx_251_32 (by decide) dX12_read_34 ?_
      refine V.iload_n 1 dX12_read_37 rfl rfl ?_
      refine V.iload_n 2 dX12_read_38 rfl rfl ?_
      refine V.iload_n 3 dX12_read_39 rfl rfl ?_
      obtain ⟨r14, h16, hc15, hF⟩ := bd_s hF
      refine V.callVv mf_X12_reads ml_X12_365 sh_251 (s_X12_reads io_264 hc15) (by decide) rfl rfl (Nat.le_of_ble_eq_true rfl) dX12_read_40 ?_
      refine V.aload_n 0 dX12_read_43 rfl rfl ?_
      refine V.getR (v := 264) fl_X12_61 sh_251 rfl fx_251_32 (by decide) dX12_read_44 ?_
      refine V.bipush (v := 22) dX12_read_47 (by decide) ?_
      obtain ⟨hk, hF⟩ := ck hF
      refine V.iald io_264 hk dX12_read_49 ?_
      cases hF
      exact V.iret dX12_read_50
    · replace hF := iq c hF
      refine V.iconst (v := -1) dX12_read_26 rfl ?_
      cases hF
      exact V.iret dX12_read_27
