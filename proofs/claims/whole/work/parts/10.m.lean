/-! java/lang/Math.max -/
theorem dJ9_max_7cf53_0 : decode cJ9_max_7cf53 0 = .ok (.iload_n 0, 1) := by decide +kernel
theorem dJ9_max_7cf53_1 : decode cJ9_max_7cf53 1 = .ok (.iload_n 1, 1) := by decide +kernel
theorem dJ9_max_7cf53_2 : decode cJ9_max_7cf53 2 = .ok (.if_icmp .lt 7, 3) := by decide +kernel
theorem dJ9_max_7cf53_5 : decode cJ9_max_7cf53 5 = .ok (.iload_n 0, 1) := by decide +kernel
theorem dJ9_max_7cf53_6 : decode cJ9_max_7cf53 6 = .ok (.goto 4, 3) := by decide +kernel
theorem dJ9_max_7cf53_9 : decode cJ9_max_7cf53 9 = .ok (.iload_n 1, 1) := by decide +kernel
theorem dJ9_max_7cf53_10 : decode cJ9_max_7cf53 10 = .ok (.ireturn, 1) := by decide +kernel
def J9_max_7cf53 (x0 : Int32) (x1 : Int32) (h : Mm) : Option Int32 := (if x0 < x1 then (some x1) else (some x0))
set_option maxRecDepth 100000 in
set_option maxHeartbeats 4000000 in
theorem s_J9_max_7cf53 {X : WX} {o : Mm} {b : Bool} {x0 : Int32} {x1 : Int32} {rv : Int32} {h : Mm} (hF : J9_max_7cf53 x0 x1 h = some rv) : Sat X yJ9_max_7cf53 cJ9_max_7cf53 2 (some .int) 1 [.int x0, .int x1] b o h (some (.int rv)) h := by
  unfold J9_max_7cf53 at hF
  refine Sat.mk (own := RJ9) rfl (by decide +kernel) (Nat.le_of_ble_eq_true rfl) (fun G => ?_)
  refine V.sub (lv2 := [(0, _), (1, _)]) [0, 1] rfl ?_
  refine V.iload_n 0 dJ9_max_7cf53_0 rfl rfl ?_
  refine V.iload_n 1 dJ9_max_7cf53_1 rfl rfl ?_
  refine V.icmp_lt (tgt := 9) dJ9_max_7cf53_2 rfl (fun c => ?_) (fun c => ?_)
  · replace hF := ip c hF
    refine V.iload_n 1 dJ9_max_7cf53_9 rfl rfl ?_
    cases hF
    exact V.iret dJ9_max_7cf53_10
  · replace hF := iq c hF
    refine V.iload_n 0 dJ9_max_7cf53_5 rfl rfl ?_
    refine V.goto (tgt := 10) dJ9_max_7cf53_6 rfl ?_
    cases hF
    exact V.iret dJ9_max_7cf53_10
/-! java/lang/Math.min -/
theorem dJ9_min_7cf53_0 : decode cJ9_min_7cf53 0 = .ok (.iload_n 0, 1) := by decide +kernel
theorem dJ9_min_7cf53_1 : decode cJ9_min_7cf53 1 = .ok (.iload_n 1, 1) := by decide +kernel
theorem dJ9_min_7cf53_2 : decode cJ9_min_7cf53 2 = .ok (.if_icmp .gt 7, 3) := by decide +kernel
theorem dJ9_min_7cf53_5 : decode cJ9_min_7cf53 5 = .ok (.iload_n 0, 1) := by decide +kernel
theorem dJ9_min_7cf53_6 : decode cJ9_min_7cf53 6 = .ok (.goto 4, 3) := by decide +kernel
theorem dJ9_min_7cf53_9 : decode cJ9_min_7cf53 9 = .ok (.iload_n 1, 1) := by decide +kernel
theorem dJ9_min_7cf53_10 : decode cJ9_min_7cf53 10 = .ok (.ireturn, 1) := by decide +kernel
def J9_min_7cf53 (x0 : Int32) (x1 : Int32) (h : Mm) : Option Int32 := (if x1 < x0 then (some x1) else (some x0))
set_option maxRecDepth 100000 in
set_option maxHeartbeats 4000000 in
theorem s_J9_min_7cf53 {X : WX} {o : Mm} {b : Bool} {x0 : Int32} {x1 : Int32} {rv : Int32} {h : Mm} (hF : J9_min_7cf53 x0 x1 h = some rv) : Sat X yJ9_min_7cf53 cJ9_min_7cf53 2 (some .int) 1 [.int x0, .int x1] b o h (some (.int rv)) h := by
  unfold J9_min_7cf53 at hF
  refine Sat.mk (own := RJ9) rfl (by decide +kernel) (Nat.le_of_ble_eq_true rfl) (fun G => ?_)
  refine V.sub (lv2 := [(0, _), (1, _)]) [0, 1] rfl ?_
  refine V.iload_n 0 dJ9_min_7cf53_0 rfl rfl ?_
  refine V.iload_n 1 dJ9_min_7cf53_1 rfl rfl ?_
  refine V.icmp_gt (tgt := 9) dJ9_min_7cf53_2 rfl (fun c => ?_) (fun c => ?_)
  · replace hF := ip c hF
    refine V.iload_n 1 dJ9_min_7cf53_9 rfl rfl ?_
    cases hF
    exact V.iret dJ9_min_7cf53_10
  · replace hF := iq c hF
    refine V.iload_n 0 dJ9_min_7cf53_5 rfl rfl ?_
    refine V.goto (tgt := 10) dJ9_min_7cf53_6 rfl ?_
    cases hF
    exact V.iret dJ9_min_7cf53_10
/-! java/lang/Math.abs -/
theorem dJ9_abs_0f7a4_0 : decode cJ9_abs_0f7a4 0 = .ok (.iload_n 0, 1) := by decide +kernel
theorem dJ9_abs_0f7a4_1 : decode cJ9_abs_0f7a4 1 = .ok (.ifCond .ge 8, 3) := by decide +kernel
theorem dJ9_abs_0f7a4_4 : decode cJ9_abs_0f7a4 4 = .ok (.iload_n 0, 1) := by decide +kernel
theorem dJ9_abs_0f7a4_5 : decode cJ9_abs_0f7a4 5 = .ok (.ineg, 1) := by decide +kernel
theorem dJ9_abs_0f7a4_6 : decode cJ9_abs_0f7a4 6 = .ok (.goto 4, 3) := by decide +kernel
theorem dJ9_abs_0f7a4_9 : decode cJ9_abs_0f7a4 9 = .ok (.iload_n 0, 1) := by decide +kernel
theorem dJ9_abs_0f7a4_10 : decode cJ9_abs_0f7a4 10 = .ok (.ireturn, 1) := by decide +kernel
def J9_abs_0f7a4 (x0 : Int32) (h : Mm) : Option Int32 := (if 0 ≤ x0 then (some x0) else (some (-x0)))
set_option maxRecDepth 100000 in
set_option maxHeartbeats 4000000 in
theorem s_J9_abs_0f7a4 {X : WX} {o : Mm} {b : Bool} {x0 : Int32} {rv : Int32} {h : Mm} (hF : J9_abs_0f7a4 x0 h = some rv) : Sat X yJ9_abs_0f7a4 cJ9_abs_0f7a4 1 (some .int) 1 [.int x0] b o h (some (.int rv)) h := by
  unfold J9_abs_0f7a4 at hF
  refine Sat.mk (own := RJ9) rfl (by decide +kernel) (Nat.le_of_ble_eq_true rfl) (fun G => ?_)
  refine V.sub (lv2 := [(0, _)]) [0] rfl ?_
  refine V.iload_n 0 dJ9_abs_0f7a4_0 rfl rfl ?_
  refine V.if_ge (tgt := 9) dJ9_abs_0f7a4_1 rfl (fun c => ?_) (fun c => ?_)
  · replace hF := ip c hF
    refine V.iload_n 0 dJ9_abs_0f7a4_9 rfl rfl ?_
    cases hF
    exact V.iret dJ9_abs_0f7a4_10
  · replace hF := iq c hF
    refine V.iload_n 0 dJ9_abs_0f7a4_4 rfl rfl ?_
    refine V.ineg dJ9_abs_0f7a4_5 ?_
    refine V.goto (tgt := 10) dJ9_abs_0f7a4_6 rfl ?_
    cases hF
    exact V.iret dJ9_abs_0f7a4_10
/-! java/lang/Math.floorMod -/
theorem dJ9_floorMod_7cf53_0 : decode cJ9_floorMod_7cf53 0 = .ok (.iload_n 0, 1) := by decide +kernel
theorem dJ9_floorMod_7cf53_1 : decode cJ9_floorMod_7cf53 1 = .ok (.iload_n 1, 1) := by decide +kernel
theorem dJ9_floorMod_7cf53_2 : decode cJ9_floorMod_7cf53 2 = .ok (.irem, 1) := by decide +kernel
theorem dJ9_floorMod_7cf53_3 : decode cJ9_floorMod_7cf53 3 = .ok (.istore_n 2, 1) := by decide +kernel
theorem dJ9_floorMod_7cf53_4 : decode cJ9_floorMod_7cf53 4 = .ok (.iload_n 0, 1) := by decide +kernel
theorem dJ9_floorMod_7cf53_5 : decode cJ9_floorMod_7cf53 5 = .ok (.iload_n 1, 1) := by decide +kernel
theorem dJ9_floorMod_7cf53_6 : decode cJ9_floorMod_7cf53 6 = .ok (.ixor, 1) := by decide +kernel
theorem dJ9_floorMod_7cf53_7 : decode cJ9_floorMod_7cf53 7 = .ok (.ifCond .ge 11, 3) := by decide +kernel
theorem dJ9_floorMod_7cf53_10 : decode cJ9_floorMod_7cf53 10 = .ok (.iload_n 2, 1) := by decide +kernel
theorem dJ9_floorMod_7cf53_11 : decode cJ9_floorMod_7cf53 11 = .ok (.ifCond .eq 7, 3) := by decide +kernel
theorem dJ9_floorMod_7cf53_14 : decode cJ9_floorMod_7cf53 14 = .ok (.iload_n 2, 1) := by decide +kernel
theorem dJ9_floorMod_7cf53_15 : decode cJ9_floorMod_7cf53 15 = .ok (.iload_n 1, 1) := by decide +kernel
theorem dJ9_floorMod_7cf53_16 : decode cJ9_floorMod_7cf53 16 = .ok (.iadd, 1) := by decide +kernel
theorem dJ9_floorMod_7cf53_17 : decode cJ9_floorMod_7cf53 17 = .ok (.ireturn, 1) := by decide +kernel
theorem dJ9_floorMod_7cf53_18 : decode cJ9_floorMod_7cf53 18 = .ok (.iload_n 2, 1) := by decide +kernel
theorem dJ9_floorMod_7cf53_19 : decode cJ9_floorMod_7cf53 19 = .ok (.ireturn, 1) := by decide +kernel
def J9_floorMod_7cf53_18 (x2 : Int32) (h : Mm) : Option Int32 := (some x2)
set_option maxRecDepth 100000 in
set_option maxHeartbeats 4000000 in
theorem v_J9_floorMod_7cf53_18 {X : WX} {G : GX} {o : Mm} {b : Bool} {rv : Int32} {h : Mm} {x2 : Int32} (hF : J9_floorMod_7cf53_18  x2 h = some rv) : V X G RJ9 cJ9_floorMod_7cf53 3 (some .int) 1 0 0 (QR X G b o (some (.int rv)) h) b o 18 [(2, .int x2)] [] h := by
  unfold J9_floorMod_7cf53_18 at hF
  refine V.iload_n 0 dJ9_floorMod_7cf53_18 rfl rfl ?_
  cases hF
  exact V.iret dJ9_floorMod_7cf53_19
def J9_floorMod_7cf53 (x0 : Int32) (x1 : Int32) (h : Mm) : Option Int32 := (if ¬ x1 = 0 then (if 0 ≤ (x0 ^^^ x1) then (J9_floorMod_7cf53_18 (x0 - x0 / x1 * x1) h) else (if (x0 - x0 / x1 * x1) = 0 then (J9_floorMod_7cf53_18 (x0 - x0 / x1 * x1) h) else (some ((x0 - x0 / x1 * x1) + x1)))) else none)
set_option maxRecDepth 100000 in
set_option maxHeartbeats 4000000 in
theorem s_J9_floorMod_7cf53 {X : WX} {o : Mm} {b : Bool} {x0 : Int32} {x1 : Int32} {rv : Int32} {h : Mm} (hF : J9_floorMod_7cf53 x0 x1 h = some rv) : Sat X yJ9_floorMod_7cf53 cJ9_floorMod_7cf53 3 (some .int) 1 [.int x0, .int x1] b o h (some (.int rv)) h := by
  unfold J9_floorMod_7cf53 at hF
  refine Sat.mk (own := RJ9) rfl (by decide +kernel) (Nat.le_of_ble_eq_true rfl) (fun G => ?_)
  refine V.sub (lv2 := [(0, _), (1, _)]) [0, 1] rfl ?_
  refine V.iload_n 0 dJ9_floorMod_7cf53_0 rfl rfl ?_
  refine V.iload_n 1 dJ9_floorMod_7cf53_1 rfl rfl ?_
  obtain ⟨hk, hF⟩ := ck hF
  refine V.irem dJ9_floorMod_7cf53_2 hk ?_
  refine V.istore_n [(2, _), (0, _), (1, _)] dJ9_floorMod_7cf53_3 rfl (by decide) rfl ?_
  refine V.iload_n 1 dJ9_floorMod_7cf53_4 rfl rfl ?_
  refine V.iload_n 2 dJ9_floorMod_7cf53_5 rfl rfl ?_
  refine V.ixor dJ9_floorMod_7cf53_6 ?_
  refine V.if_ge (tgt := 18) dJ9_floorMod_7cf53_7 rfl (fun c => ?_) (fun c => ?_)
  · replace hF := ip c hF
    exact V.sub [0] rfl (v_J9_floorMod_7cf53_18 hF)
  · replace hF := iq c hF
    refine V.iload_n 0 dJ9_floorMod_7cf53_10 rfl rfl ?_
    refine V.if_eq (tgt := 18) dJ9_floorMod_7cf53_11 rfl (fun c => ?_) (fun c => ?_)
    · replace hF := ip c hF
      exact V.sub [0] rfl (v_J9_floorMod_7cf53_18 hF)
    · replace hF := iq c hF
      refine V.iload_n 0 dJ9_floorMod_7cf53_14 rfl rfl ?_
      refine V.iload_n 2 dJ9_floorMod_7cf53_15 rfl rfl ?_
      refine V.iadd dJ9_floorMod_7cf53_16 ?_
      cases hF
      exact V.iret dJ9_floorMod_7cf53_17
/-! java/lang/Math.max -/
theorem dJ9_max_f86c9_0 : decode cJ9_max_f86c9 0 = .ok (.lload_n 0, 1) := by decide +kernel
theorem dJ9_max_f86c9_1 : decode cJ9_max_f86c9 1 = .ok (.lload_n 2, 1) := by decide +kernel
theorem dJ9_max_f86c9_2 : decode cJ9_max_f86c9 2 = .ok (.lcmp, 1) := by decide +kernel
theorem dJ9_max_f86c9_3 : decode cJ9_max_f86c9 3 = .ok (.ifCond .lt 7, 3) := by decide +kernel
theorem dJ9_max_f86c9_6 : decode cJ9_max_f86c9 6 = .ok (.lload_n 0, 1) := by decide +kernel
theorem dJ9_max_f86c9_7 : decode cJ9_max_f86c9 7 = .ok (.goto 4, 3) := by decide +kernel
theorem dJ9_max_f86c9_10 : decode cJ9_max_f86c9 10 = .ok (.lload_n 2, 1) := by decide +kernel
theorem dJ9_max_f86c9_11 : decode cJ9_max_f86c9 11 = .ok (.lreturn, 1) := by decide +kernel
def J9_max_f86c9 (x0 : Int64) (x2 : Int64) (h : Mm) : Option Int64 := (if (lg_cmp x0 x2) < 0 then (some x2) else (some x0))
set_option maxRecDepth 100000 in
set_option maxHeartbeats 4000000 in
theorem s_J9_max_f86c9 {X : WX} {o : Mm} {b : Bool} {x0 : Int64} {x2 : Int64} {rv : Int64} {h : Mm} (hF : J9_max_f86c9 x0 x2 h = some rv) : Sat X yJ9_max_f86c9 cJ9_max_f86c9 4 (some .long) 1 [.long x0, .long x2] b o h (some (.long rv)) h := by
  unfold J9_max_f86c9 at hF
  refine Sat.mk (own := RJ9) rfl (by decide +kernel) (Nat.le_of_ble_eq_true rfl) (fun G => ?_)
  refine V.sub (lv2 := [(0, _), (2, _)]) [0, 1] rfl ?_
  refine V.lload_n 0 dJ9_max_f86c9_0 rfl rfl ?_
  refine V.lload_n 1 dJ9_max_f86c9_1 rfl rfl ?_
  refine V.lcmp dJ9_max_f86c9_2 ?_
  refine V.if_lt (tgt := 10) dJ9_max_f86c9_3 rfl (fun c => ?_) (fun c => ?_)
  · replace hF := ip c hF
    refine V.lload_n 1 dJ9_max_f86c9_10 rfl rfl ?_
    cases hF
    exact V.lret dJ9_max_f86c9_11
  · replace hF := iq c hF
    refine V.lload_n 0 dJ9_max_f86c9_6 rfl rfl ?_
    refine V.goto (tgt := 11) dJ9_max_f86c9_7 rfl ?_
    cases hF
    exact V.lret dJ9_max_f86c9_11
/-! java/lang/Math.min -/
theorem dJ9_min_f86c9_0 : decode cJ9_min_f86c9 0 = .ok (.lload_n 0, 1) := by decide +kernel
theorem dJ9_min_f86c9_1 : decode cJ9_min_f86c9 1 = .ok (.lload_n 2, 1) := by decide +kernel
theorem dJ9_min_f86c9_2 : decode cJ9_min_f86c9 2 = .ok (.lcmp, 1) := by decide +kernel
theorem dJ9_min_f86c9_3 : decode cJ9_min_f86c9 3 = .ok (.ifCond .gt 7, 3) := by decide +kernel
theorem dJ9_min_f86c9_6 : decode cJ9_min_f86c9 6 = .ok (.lload_n 0, 1) := by decide +kernel
theorem dJ9_min_f86c9_7 : decode cJ9_min_f86c9 7 = .ok (.goto 4, 3) := by decide +kernel
theorem dJ9_min_f86c9_10 : decode cJ9_min_f86c9 10 = .ok (.lload_n 2, 1) := by decide +kernel
theorem dJ9_min_f86c9_11 : decode cJ9_min_f86c9 11 = .ok (.lreturn, 1) := by decide +kernel
def J9_min_f86c9 (x0 : Int64) (x2 : Int64) (h : Mm) : Option Int64 := (if 0 < (lg_cmp x0 x2) then (some x2) else (some x0))
set_option maxRecDepth 100000 in
set_option maxHeartbeats 4000000 in
theorem s_J9_min_f86c9 {X : WX} {o : Mm} {b : Bool} {x0 : Int64} {x2 : Int64} {rv : Int64} {h : Mm} (hF : J9_min_f86c9 x0 x2 h = some rv) : Sat X yJ9_min_f86c9 cJ9_min_f86c9 4 (some .long) 1 [.long x0, .long x2] b o h (some (.long rv)) h := by
  unfold J9_min_f86c9 at hF
  refine Sat.mk (own := RJ9) rfl (by decide +kernel) (Nat.le_of_ble_eq_true rfl) (fun G => ?_)
  refine V.sub (lv2 := [(0, _), (2, _)]) [0, 1] rfl ?_
  refine V.lload_n 0 dJ9_min_f86c9_0 rfl rfl ?_
  refine V.lload_n 1 dJ9_min_f86c9_1 rfl rfl ?_
  refine V.lcmp dJ9_min_f86c9_2 ?_
  refine V.if_gt (tgt := 10) dJ9_min_f86c9_3 rfl (fun c => ?_) (fun c => ?_)
  · replace hF := ip c hF
    refine V.lload_n 1 dJ9_min_f86c9_10 rfl rfl ?_
    cases hF
    exact V.lret dJ9_min_f86c9_11
  · replace hF := iq c hF
    refine V.lload_n 0 dJ9_min_f86c9_6 rfl rfl ?_
    refine V.goto (tgt := 11) dJ9_min_f86c9_7 rfl ?_
    cases hF
    exact V.lret dJ9_min_f86c9_11
/-! java/lang/Integer.bitCount -/
theorem dJ6_bitCount_0f7a4_0 : decode cJ6_bitCount_0f7a4 0 = .ok (.iload_n 0, 1) := by decide +kernel
theorem dJ6_bitCount_0f7a4_1 : decode cJ6_bitCount_0f7a4 1 = .ok (.iload_n 0, 1) := by decide +kernel
theorem dJ6_bitCount_0f7a4_2 : decode cJ6_bitCount_0f7a4 2 = .ok (.iconst 1, 1) := by decide +kernel
theorem dJ6_bitCount_0f7a4_3 : decode cJ6_bitCount_0f7a4 3 = .ok (.iushr, 1) := by decide +kernel
theorem dJ6_bitCount_0f7a4_4 : decode cJ6_bitCount_0f7a4 4 = .ok (.ldc_w 265, 3) := by decide +kernel
theorem dJ6_bitCount_0f7a4_7 : decode cJ6_bitCount_0f7a4 7 = .ok (.iand, 1) := by decide +kernel
theorem dJ6_bitCount_0f7a4_8 : decode cJ6_bitCount_0f7a4 8 = .ok (.isub, 1) := by decide +kernel
theorem dJ6_bitCount_0f7a4_9 : decode cJ6_bitCount_0f7a4 9 = .ok (.istore_n 0, 1) := by decide +kernel
theorem dJ6_bitCount_0f7a4_10 : decode cJ6_bitCount_0f7a4 10 = .ok (.iload_n 0, 1) := by decide +kernel
theorem dJ6_bitCount_0f7a4_11 : decode cJ6_bitCount_0f7a4 11 = .ok (.ldc_w 266, 3) := by decide +kernel
theorem dJ6_bitCount_0f7a4_14 : decode cJ6_bitCount_0f7a4 14 = .ok (.iand, 1) := by decide +kernel
theorem dJ6_bitCount_0f7a4_15 : decode cJ6_bitCount_0f7a4 15 = .ok (.iload_n 0, 1) := by decide +kernel
theorem dJ6_bitCount_0f7a4_16 : decode cJ6_bitCount_0f7a4 16 = .ok (.iconst 2, 1) := by decide +kernel
theorem dJ6_bitCount_0f7a4_17 : decode cJ6_bitCount_0f7a4 17 = .ok (.iushr, 1) := by decide +kernel
theorem dJ6_bitCount_0f7a4_18 : decode cJ6_bitCount_0f7a4 18 = .ok (.ldc_w 266, 3) := by decide +kernel
theorem dJ6_bitCount_0f7a4_21 : decode cJ6_bitCount_0f7a4 21 = .ok (.iand, 1) := by decide +kernel
theorem dJ6_bitCount_0f7a4_22 : decode cJ6_bitCount_0f7a4 22 = .ok (.iadd, 1) := by decide +kernel
theorem dJ6_bitCount_0f7a4_23 : decode cJ6_bitCount_0f7a4 23 = .ok (.istore_n 0, 1) := by decide +kernel
theorem dJ6_bitCount_0f7a4_24 : decode cJ6_bitCount_0f7a4 24 = .ok (.iload_n 0, 1) := by decide +kernel
theorem dJ6_bitCount_0f7a4_25 : decode cJ6_bitCount_0f7a4 25 = .ok (.iload_n 0, 1) := by decide +kernel
theorem dJ6_bitCount_0f7a4_26 : decode cJ6_bitCount_0f7a4 26 = .ok (.iconst 4, 1) := by decide +kernel
theorem dJ6_bitCount_0f7a4_27 : decode cJ6_bitCount_0f7a4 27 = .ok (.iushr, 1) := by decide +kernel
theorem dJ6_bitCount_0f7a4_28 : decode cJ6_bitCount_0f7a4 28 = .ok (.iadd, 1) := by decide +kernel
theorem dJ6_bitCount_0f7a4_29 : decode cJ6_bitCount_0f7a4 29 = .ok (.ldc_w 267, 3) := by decide +kernel
theorem dJ6_bitCount_0f7a4_32 : decode cJ6_bitCount_0f7a4 32 = .ok (.iand, 1) := by decide +kernel
theorem dJ6_bitCount_0f7a4_33 : decode cJ6_bitCount_0f7a4 33 = .ok (.istore_n 0, 1) := by decide +kernel
theorem dJ6_bitCount_0f7a4_34 : decode cJ6_bitCount_0f7a4 34 = .ok (.iload_n 0, 1) := by decide +kernel
theorem dJ6_bitCount_0f7a4_35 : decode cJ6_bitCount_0f7a4 35 = .ok (.iload_n 0, 1) := by decide +kernel
theorem dJ6_bitCount_0f7a4_36 : decode cJ6_bitCount_0f7a4 36 = .ok (.bipush 8, 2) := by decide +kernel
theorem dJ6_bitCount_0f7a4_38 : decode cJ6_bitCount_0f7a4 38 = .ok (.iushr, 1) := by decide +kernel
theorem dJ6_bitCount_0f7a4_39 : decode cJ6_bitCount_0f7a4 39 = .ok (.iadd, 1) := by decide +kernel
theorem dJ6_bitCount_0f7a4_40 : decode cJ6_bitCount_0f7a4 40 = .ok (.istore_n 0, 1) := by decide +kernel
theorem dJ6_bitCount_0f7a4_41 : decode cJ6_bitCount_0f7a4 41 = .ok (.iload_n 0, 1) := by decide +kernel
theorem dJ6_bitCount_0f7a4_42 : decode cJ6_bitCount_0f7a4 42 = .ok (.iload_n 0, 1) := by decide +kernel
theorem dJ6_bitCount_0f7a4_43 : decode cJ6_bitCount_0f7a4 43 = .ok (.bipush 16, 2) := by decide +kernel
theorem dJ6_bitCount_0f7a4_45 : decode cJ6_bitCount_0f7a4 45 = .ok (.iushr, 1) := by decide +kernel
theorem dJ6_bitCount_0f7a4_46 : decode cJ6_bitCount_0f7a4 46 = .ok (.iadd, 1) := by decide +kernel
theorem dJ6_bitCount_0f7a4_47 : decode cJ6_bitCount_0f7a4 47 = .ok (.istore_n 0, 1) := by decide +kernel
theorem dJ6_bitCount_0f7a4_48 : decode cJ6_bitCount_0f7a4 48 = .ok (.iload_n 0, 1) := by decide +kernel
theorem dJ6_bitCount_0f7a4_49 : decode cJ6_bitCount_0f7a4 49 = .ok (.bipush 63, 2) := by decide +kernel
theorem dJ6_bitCount_0f7a4_51 : decode cJ6_bitCount_0f7a4 51 = .ok (.iand, 1) := by decide +kernel
theorem dJ6_bitCount_0f7a4_52 : decode cJ6_bitCount_0f7a4 52 = .ok (.ireturn, 1) := by decide +kernel
def J6_bitCount_0f7a4 (x0 : Int32) (h : Mm) : Option Int32 := (some ((((((((x0 - (((x0.toUInt32 >>> ((1 : Int32).toUInt32 &&& Int32.toUInt32 31)).toInt32) &&& (1431655765 : Int32))) &&& (858993459 : Int32)) + ((((x0 - (((x0.toUInt32 >>> ((1 : Int32).toUInt32 &&& Int32.toUInt32 31)).toInt32) &&& (1431655765 : Int32))).toUInt32 >>> ((2 : Int32).toUInt32 &&& Int32.toUInt32 31)).toInt32) &&& (858993459 : Int32))) + (((((x0 - (((x0.toUInt32 >>> ((1 : Int32).toUInt32 &&& Int32.toUInt32 31)).toInt32) &&& (1431655765 : Int32))) &&& (858993459 : Int32)) + ((((x0 - (((x0.toUInt32 >>> ((1 : Int32).toUInt32 &&& Int32.toUInt32 31)).toInt32) &&& (1431655765 : Int32))).toUInt32 >>> ((2 : Int32).toUInt32 &&& Int32.toUInt32 31)).toInt32) &&& (858993459 : Int32))).toUInt32 >>> ((4 : Int32).toUInt32 &&& Int32.toUInt32 31)).toInt32)) &&& (252645135 : Int32)) + (((((((x0 - (((x0.toUInt32 >>> ((1 : Int32).toUInt32 &&& Int32.toUInt32 31)).toInt32) &&& (1431655765 : Int32))) &&& (858993459 : Int32)) + ((((x0 - (((x0.toUInt32 >>> ((1 : Int32).toUInt32 &&& Int32.toUInt32 31)).toInt32) &&& (1431655765 : Int32))).toUInt32 >>> ((2 : Int32).toUInt32 &&& Int32.toUInt32 31)).toInt32) &&& (858993459 : Int32))) + (((((x0 - (((x0.toUInt32 >>> ((1 : Int32).toUInt32 &&& Int32.toUInt32 31)).toInt32) &&& (1431655765 : Int32))) &&& (858993459 : Int32)) + ((((x0 - (((x0.toUInt32 >>> ((1 : Int32).toUInt32 &&& Int32.toUInt32 31)).toInt32) &&& (1431655765 : Int32))).toUInt32 >>> ((2 : Int32).toUInt32 &&& Int32.toUInt32 31)).toInt32) &&& (858993459 : Int32))).toUInt32 >>> ((4 : Int32).toUInt32 &&& Int32.toUInt32 31)).toInt32)) &&& (252645135 : Int32)).toUInt32 >>> ((8 : Int32).toUInt32 &&& Int32.toUInt32 31)).toInt32)) + ((((((((x0 - (((x0.toUInt32 >>> ((1 : Int32).toUInt32 &&& Int32.toUInt32 31)).toInt32) &&& (1431655765 : Int32))) &&& (858993459 : Int32)) + ((((x0 - (((x0.toUInt32 >>> ((1 : Int32).toUInt32 &&& Int32.toUInt32 31)).toInt32) &&& (1431655765 : Int32))).toUInt32 >>> ((2 : Int32).toUInt32 &&& Int32.toUInt32 31)).toInt32) &&& (858993459 : Int32))) + (((((x0 - (((x0.toUInt32 >>> ((1 : Int32).toUInt32 &&& Int32.toUInt32 31)).toInt32) &&& (1431655765 : Int32))) &&& (858993459 : Int32)) + ((((x0 - (((x0.toUInt32 >>> ((1 : Int32).toUInt32 &&& Int32.toUInt32 31)).toInt32) &&& (1431655765 : Int32))).toUInt32 >>> ((2 : Int32).toUInt32 &&& Int32.toUInt32 31)).toInt32) &&& (858993459 : Int32))).toUInt32 >>> ((4 : Int32).toUInt32 &&& Int32.toUInt32 31)).toInt32)) &&& (252645135 : Int32)) + (((((((x0 - (((x0.toUInt32 >>> ((1 : Int32).toUInt32 &&& Int32.toUInt32 31)).toInt32) &&& (1431655765 : Int32))) &&& (858993459 : Int32)) + ((((x0 - (((x0.toUInt32 >>> ((1 : Int32).toUInt32 &&& Int32.toUInt32 31)).toInt32) &&& (1431655765 : Int32))).toUInt32 >>> ((2 : Int32).toUInt32 &&& Int32.toUInt32 31)).toInt32) &&& (858993459 : Int32))) + (((((x0 - (((x0.toUInt32 >>> ((1 : Int32).toUInt32 &&& Int32.toUInt32 31)).toInt32) &&& (1431655765 : Int32))) &&& (858993459 : Int32)) + ((((x0 - (((x0.toUInt32 >>> ((1 : Int32).toUInt32 &&& Int32.toUInt32 31)).toInt32) &&& (1431655765 : Int32))).toUInt32 >>> ((2 : Int32).toUInt32 &&& Int32.toUInt32 31)).toInt32) &&& (858993459 : Int32))).toUInt32 >>> ((4 : Int32).toUInt32 &&& Int32.toUInt32 31)).toInt32)) &&& (252645135 : Int32)).toUInt32 >>> ((8 : Int32).toUInt32 &&& Int32.toUInt32 31)).toInt32)).toUInt32 >>> ((16 : Int32).toUInt32 &&& Int32.toUInt32 31)).toInt32)) &&& (63 : Int32)))
set_option maxRecDepth 100000 in
set_option maxHeartbeats 4000000 in
theorem s_J6_bitCount_0f7a4 {X : WX} {o : Mm} {b : Bool} {x0 : Int32} {rv : Int32} {h : Mm} (hF : J6_bitCount_0f7a4 x0 h = some rv) : Sat X yJ6_bitCount_0f7a4 cJ6_bitCount_0f7a4 1 (some .int) 1 [.int x0] b o h (some (.int rv)) h := by
  unfold J6_bitCount_0f7a4 at hF
  refine Sat.mk (own := RJ6) rfl (by decide +kernel) (Nat.le_of_ble_eq_true rfl) (fun G => ?_)
  refine V.sub (lv2 := [(0, _)]) [0] rfl ?_
  refine V.iload_n 0 dJ6_bitCount_0f7a4_0 rfl rfl ?_
  refine V.iload_n 0 dJ6_bitCount_0f7a4_1 rfl rfl ?_
  refine V.iconst (v := 1) dJ6_bitCount_0f7a4_2 rfl ?_
  refine V.iushr dJ6_bitCount_0f7a4_3 ?_
  refine V.ldcw (v := 1431655765) dJ6_bitCount_0f7a4_4 kc_J6_265 ?_
  refine V.iand dJ6_bitCount_0f7a4_7 ?_
  refine V.isub dJ6_bitCount_0f7a4_8 ?_
  refine V.istore_n [(0, _)] dJ6_bitCount_0f7a4_9 rfl (by decide) rfl ?_
  refine V.iload_n 0 dJ6_bitCount_0f7a4_10 rfl rfl ?_
  refine V.ldcw (v := 858993459) dJ6_bitCount_0f7a4_11 kc_J6_266 ?_
  refine V.iand dJ6_bitCount_0f7a4_14 ?_
  refine V.iload_n 0 dJ6_bitCount_0f7a4_15 rfl rfl ?_
  refine V.iconst (v := 2) dJ6_bitCount_0f7a4_16 rfl ?_
  refine V.iushr dJ6_bitCount_0f7a4_17 ?_
  refine V.ldcw (v := 858993459) dJ6_bitCount_0f7a4_18 kc_J6_266 ?_
  refine V.iand dJ6_bitCount_0f7a4_21 ?_
  refine V.iadd dJ6_bitCount_0f7a4_22 ?_
  refine V.istore_n [(0, _)] dJ6_bitCount_0f7a4_23 rfl (by decide) rfl ?_
  refine V.iload_n 0 dJ6_bitCount_0f7a4_24 rfl rfl ?_
  refine V.iload_n 0 dJ6_bitCount_0f7a4_25 rfl rfl ?_
  refine V.iconst (v := 4) dJ6_bitCount_0f7a4_26 rfl ?_
  refine V.iushr dJ6_bitCount_0f7a4_27 ?_
  refine V.iadd dJ6_bitCount_0f7a4_28 ?_
  refine V.ldcw (v := 252645135) dJ6_bitCount_0f7a4_29 kc_J6_267 ?_
  refine V.iand dJ6_bitCount_0f7a4_32 ?_
  refine V.istore_n [(0, _)] dJ6_bitCount_0f7a4_33 rfl (by decide) rfl ?_
  refine V.iload_n 0 dJ6_bitCount_0f7a4_34 rfl rfl ?_
  refine V.iload_n 0 dJ6_bitCount_0f7a4_35 rfl rfl ?_
  refine V.bipush (v := 8) dJ6_bitCount_0f7a4_36 (by decide) ?_
  refine V.iushr dJ6_bitCount_0f7a4_38 ?_
  refine V.iadd dJ6_bitCount_0f7a4_39 ?_
  refine V.istore_n [(0, _)] dJ6_bitCount_0f7a4_40 rfl (by decide) rfl ?_
  refine V.iload_n 0 dJ6_bitCount_0f7a4_41 rfl rfl ?_
  refine V.iload_n 0 dJ6_bitCount_0f7a4_42 rfl rfl ?_
  refine V.bipush (v := 16) dJ6_bitCount_0f7a4_43 (by decide) ?_
  refine V.iushr dJ6_bitCount_0f7a4_45 ?_
  refine V.iadd dJ6_bitCount_0f7a4_46 ?_
  refine V.istore_n [(0, _)] dJ6_bitCount_0f7a4_47 rfl (by decide) rfl ?_
  refine V.iload_n 0 dJ6_bitCount_0f7a4_48 rfl rfl ?_
  refine V.bipush (v := 63) dJ6_bitCount_0f7a4_49 (by decide) ?_
  refine V.iand dJ6_bitCount_0f7a4_51 ?_
  cases hF
  exact V.iret dJ6_bitCount_0f7a4_52
/-! java/util/Arrays.fill -/
theorem dJ7_fill_53178_0 : decode cJ7_fill_53178 0 = .ok (.iconst 0, 1) := by decide +kernel
theorem dJ7_fill_53178_1 : decode cJ7_fill_53178 1 = .ok (.istore_n 2, 1) := by decide +kernel
theorem dJ7_fill_53178_2 : decode cJ7_fill_53178 2 = .ok (.aload_n 0, 1) := by decide +kernel
theorem dJ7_fill_53178_3 : decode cJ7_fill_53178 3 = .ok (.arraylength, 1) := by decide +kernel
theorem dJ7_fill_53178_4 : decode cJ7_fill_53178 4 = .ok (.istore_n 3, 1) := by decide +kernel
theorem dJ7_fill_53178_5 : decode cJ7_fill_53178 5 = .ok (.iload_n 2, 1) := by decide +kernel
theorem dJ7_fill_53178_6 : decode cJ7_fill_53178 6 = .ok (.iload_n 3, 1) := by decide +kernel
theorem dJ7_fill_53178_7 : decode cJ7_fill_53178 7 = .ok (.if_icmp .ge 13, 3) := by decide +kernel
theorem dJ7_fill_53178_10 : decode cJ7_fill_53178 10 = .ok (.aload_n 0, 1) := by decide +kernel
theorem dJ7_fill_53178_11 : decode cJ7_fill_53178 11 = .ok (.iload_n 2, 1) := by decide +kernel
theorem dJ7_fill_53178_12 : decode cJ7_fill_53178 12 = .ok (.iload_n 1, 1) := by decide +kernel
theorem dJ7_fill_53178_13 : decode cJ7_fill_53178 13 = .ok (.iastore, 1) := by decide +kernel
theorem dJ7_fill_53178_14 : decode cJ7_fill_53178 14 = .ok (.iinc 2 1, 3) := by decide +kernel
theorem dJ7_fill_53178_17 : decode cJ7_fill_53178 17 = .ok (.goto (-12), 3) := by decide +kernel
theorem dJ7_fill_53178_20 : decode cJ7_fill_53178 20 = .ok (.return_, 1) := by decide +kernel
def J7_fill_53178_5 (n : Nat) (a0 : Nat) : Nat → Int32 → Int32 → Int32 → Mm → Option (Unit × Mm)
  | 0, _, _, _, _ => none
  | f + 1, x1, x2, x3, h => (if x3 ≤ x2 then (some ((), h)) else (if inB x2 (aln a0) then ((J7_fill_53178_5 n a0 f) x1 (x2 + (1)) x3 (wI h a0 x2.toNatClampNeg x1)) else none))
set_option maxRecDepth 100000 in
set_option maxHeartbeats 4000000 in
theorem v_J7_fill_53178_5 {X : WX} {G : GX} {o : Mm} {b : Bool} {n : Nat} {a0 : Nat} {rv : Unit} {hz : Mm} (ha0 : isO b 0 a0) : ∀ (f : Nat) (x1 : Int32) (x2 : Int32) (x3 : Int32) (h : Mm), J7_fill_53178_5 n a0 f x1 x2 x3 h = some (rv, hz) → V X G RJ7 cJ7_fill_53178 4 (none) 1 0 0 (QR X G b o none hz) b o 5 [(0, .ref (xa X a0)), (1, .int x1), (2, .int x2), (3, .int x3)] [] h := by
  intro f
  induction f with
  | zero => intro x1 x2 x3 h hF; exact nomatch (show (none : Option (Unit × Mm)) = some (rv, hz) from hF)
  | succ f ih =>
    intro x1 x2 x3 h hF
    unfold J7_fill_53178_5 at hF
    refine V.iload_n 2 dJ7_fill_53178_5 rfl rfl ?_
    refine V.iload_n 3 dJ7_fill_53178_6 rfl rfl ?_
    refine V.icmp_ge (tgt := 20) dJ7_fill_53178_7 rfl (fun c => ?_) (fun c => ?_)
    · replace hF := ip c hF
      cases hF
      exact V.vret dJ7_fill_53178_20
    · replace hF := iq c hF
      refine V.aload_n 0 dJ7_fill_53178_10 rfl rfl ?_
      refine V.iload_n 2 dJ7_fill_53178_11 rfl rfl ?_
      refine V.iload_n 1 dJ7_fill_53178_12 rfl rfl ?_
      obtain ⟨hk, hF⟩ := ck hF
      refine V.iast ha0 hk dJ7_fill_53178_13 ?_
      refine V.iinc (v := (x2 + (1))) 2 [(2, _), (0, _), (1, _), (3, _)] dJ7_fill_53178_14 rfl rfl (by decide) rfl ?_
      refine V.goto (tgt := 5) dJ7_fill_53178_17 rfl ?_
      exact V.sub [1, 2, 0, 3] rfl (ih _ _ _ _ hF)
def J7_fill_53178 (n : Nat) (a0 : Nat) (x1 : Int32) (h : Mm) : Option (Unit × Mm) := (J7_fill_53178_5 n a0 n x1 (0 : Int32) (Int32.ofNat (aln a0)) h)
set_option maxRecDepth 100000 in
set_option maxHeartbeats 4000000 in
theorem s_J7_fill_53178 {X : WX} {o : Mm} {b : Bool} {n : Nat} {a0 : Nat} {x1 : Int32} {rv : Unit} {hz : Mm} {h : Mm} (ha0 : isO b 0 a0) (hF : J7_fill_53178 n a0 x1 h = some (rv, hz)) : Sat X yJ7_fill_53178 cJ7_fill_53178 4 (none) 1 [.ref (xa X a0), .int x1] b o h none hz := by
  unfold J7_fill_53178 at hF
  refine Sat.mk (own := RJ7) rfl (by decide +kernel) (Nat.le_of_ble_eq_true rfl) (fun G => ?_)
  refine V.sub (lv2 := [(0, _), (1, _)]) [0, 1] rfl ?_
  refine V.iconst (v := 0) dJ7_fill_53178_0 rfl ?_
  refine V.istore_n [(2, _), (0, _), (1, _)] dJ7_fill_53178_1 rfl (by decide) rfl ?_
  refine V.aload_n 1 dJ7_fill_53178_2 rfl rfl ?_
  refine V.alen ha0.1 (by decide) rfl dJ7_fill_53178_3 ?_
  refine V.istore_n [(3, _), (2, _), (0, _), (1, _)] dJ7_fill_53178_4 rfl (by decide) rfl ?_
  exact V.sub [2, 3, 1, 0] rfl (v_J7_fill_53178_5 ha0 n _ _ _ _ hF)
/-! java/lang/String.coder -/
theorem dJ0_coder_7d493_0 : decode cJ0_coder_7d493 0 = .ok (.getstatic 38, 3) := by decide +kernel
theorem dJ0_coder_7d493_3 : decode cJ0_coder_7d493 3 = .ok (.ifCond .eq 10, 3) := by decide +kernel
theorem dJ0_coder_7d493_6 : decode cJ0_coder_7d493 6 = .ok (.aload_n 0, 1) := by decide +kernel
theorem dJ0_coder_7d493_7 : decode cJ0_coder_7d493 7 = .ok (.getfield 15, 3) := by decide +kernel
theorem dJ0_coder_7d493_10 : decode cJ0_coder_7d493 10 = .ok (.goto 4, 3) := by decide +kernel
theorem dJ0_coder_7d493_13 : decode cJ0_coder_7d493 13 = .ok (.iconst 1, 1) := by decide +kernel
theorem dJ0_coder_7d493_14 : decode cJ0_coder_7d493 14 = .ok (.ireturn, 1) := by decide +kernel
def J0_coder_7d493 (a0 : Nat) (h : Mm) : Option Int32 := (some (0 : Int32))
set_option maxRecDepth 100000 in
set_option maxHeartbeats 4000000 in
theorem s_J0_coder_7d493 {X : WX} {o : Mm} {b : Bool} {a0 : Nat} {rv : Int32} {h : Mm} (ha0 : isS a0) (hF : J0_coder_7d493 a0 h = some rv) : Sat X yJ0_coder_7d493 cJ0_coder_7d493 1 (some .byte) 1 [.ref (xa X a0)] b o h (some (.int rv)) h := by
  unfold J0_coder_7d493 at hF
  refine Sat.mk (own := RJ0) rfl (by decide +kernel) (Nat.le_of_ble_eq_true rfl) (fun G => ?_)
  refine V.sub (lv2 := [(0, _)]) [0] rfl ?_
  refine V.getsC fl_J0_38 dJ0_coder_7d493_0 ?_
  refine V.if_eq (tgt := 13) dJ0_coder_7d493_3 rfl (fun c => absurd c (by decide)) (fun _ => ?_)
  refine V.aload_n 0 dJ0_coder_7d493_6 rfl rfl ?_
  refine V.getSC ha0 fl_J0_15 dJ0_coder_7d493_7 ?_
  refine V.goto (tgt := 14) dJ0_coder_7d493_10 rfl ?_
  cases hF
  exact V.zret (by decide) dJ0_coder_7d493_14
/-! java/lang/String.isLatin1 -/
theorem dJ0_isLatin1_aae02_0 : decode cJ0_isLatin1_aae02 0 = .ok (.getstatic 38, 3) := by decide +kernel
theorem dJ0_isLatin1_aae02_3 : decode cJ0_isLatin1_aae02 3 = .ok (.ifCond .eq 14, 3) := by decide +kernel
theorem dJ0_isLatin1_aae02_6 : decode cJ0_isLatin1_aae02 6 = .ok (.aload_n 0, 1) := by decide +kernel
theorem dJ0_isLatin1_aae02_7 : decode cJ0_isLatin1_aae02 7 = .ok (.getfield 15, 3) := by decide +kernel
theorem dJ0_isLatin1_aae02_10 : decode cJ0_isLatin1_aae02 10 = .ok (.ifCond .ne 7, 3) := by decide +kernel
theorem dJ0_isLatin1_aae02_13 : decode cJ0_isLatin1_aae02 13 = .ok (.iconst 1, 1) := by decide +kernel
theorem dJ0_isLatin1_aae02_14 : decode cJ0_isLatin1_aae02 14 = .ok (.goto 4, 3) := by decide +kernel
theorem dJ0_isLatin1_aae02_17 : decode cJ0_isLatin1_aae02 17 = .ok (.iconst 0, 1) := by decide +kernel
theorem dJ0_isLatin1_aae02_18 : decode cJ0_isLatin1_aae02 18 = .ok (.ireturn, 1) := by decide +kernel
def J0_isLatin1_aae02 (a0 : Nat) (h : Mm) : Option Bool := (some true)
set_option maxRecDepth 100000 in
set_option maxHeartbeats 4000000 in
theorem s_J0_isLatin1_aae02 {X : WX} {o : Mm} {b : Bool} {a0 : Nat} {rv : Bool} {h : Mm} (ha0 : isS a0) (hF : J0_isLatin1_aae02 a0 h = some rv) : Sat X yJ0_isLatin1_aae02 cJ0_isLatin1_aae02 1 (some .boolean) 1 [.ref (xa X a0)] b o h (some (.int (b2i rv))) h := by
  unfold J0_isLatin1_aae02 at hF
  refine Sat.mk (own := RJ0) rfl (by decide +kernel) (Nat.le_of_ble_eq_true rfl) (fun G => ?_)
  refine V.sub (lv2 := [(0, _)]) [0] rfl ?_
  refine V.getsC fl_J0_38 dJ0_isLatin1_aae02_0 ?_
  refine V.if_eq (tgt := 17) dJ0_isLatin1_aae02_3 rfl (fun c => absurd c (by decide)) (fun _ => ?_)
  refine V.aload_n 0 dJ0_isLatin1_aae02_6 rfl rfl ?_
  refine V.getSC ha0 fl_J0_15 dJ0_isLatin1_aae02_7 ?_
  refine V.if_ne (tgt := 17) dJ0_isLatin1_aae02_10 rfl (fun c => absurd c (by decide)) (fun _ => ?_)
  refine V.iconst (v := 1) dJ0_isLatin1_aae02_13 rfl ?_
  refine V.goto (tgt := 18) dJ0_isLatin1_aae02_14 rfl ?_
  cases hF
  exact V.bret dJ0_isLatin1_aae02_18
/-! java/lang/String.length -/
theorem dJ0_length_8abf5_0 : decode cJ0_length_8abf5 0 = .ok (.aload_n 0, 1) := by decide +kernel
theorem dJ0_length_8abf5_1 : decode cJ0_length_8abf5 1 = .ok (.getfield 9, 3) := by decide +kernel
theorem dJ0_length_8abf5_4 : decode cJ0_length_8abf5 4 = .ok (.arraylength, 1) := by decide +kernel
theorem dJ0_length_8abf5_5 : decode cJ0_length_8abf5 5 = .ok (.aload_n 0, 1) := by decide +kernel
theorem dJ0_length_8abf5_6 : decode cJ0_length_8abf5 6 = .ok (.invokevirtual 335, 3) := by decide +kernel
theorem dJ0_length_8abf5_9 : decode cJ0_length_8abf5 9 = .ok (.ishr, 1) := by decide +kernel
theorem dJ0_length_8abf5_10 : decode cJ0_length_8abf5 10 = .ok (.ireturn, 1) := by decide +kernel
def J0_length_8abf5 (a0 : Nat) (h : Mm) : Option Int32 := (bp (J0_coder_7d493 a0 h) (fun r3 => (some ((Int32.ofNat (stB ((a0 + 20) - 20)).length) >>> (r3 &&& 31)))))
set_option maxRecDepth 100000 in
set_option maxHeartbeats 4000000 in
theorem s_J0_length_8abf5 {X : WX} {o : Mm} {b : Bool} {a0 : Nat} {rv : Int32} {h : Mm} (ha0 : isS a0) (hF : J0_length_8abf5 a0 h = some rv) : Sat X yJ0_length_8abf5 cJ0_length_8abf5 1 (some .int) 2 [.ref (xa X a0)] b o h (some (.int rv)) h := by
  unfold J0_length_8abf5 at hF
  refine Sat.mk (own := RJ0) rfl (by decide +kernel) (Nat.le_of_ble_eq_true rfl) (fun G => ?_)
  refine V.sub (lv2 := [(0, _)]) [0] rfl ?_
  refine V.aload_n 0 dJ0_length_8abf5_0 rfl rfl ?_
  refine V.getSV ha0 fl_J0_9 dJ0_length_8abf5_1 ?_
  refine V.lenS ha0.sa dJ0_length_8abf5_4 ?_
  refine V.aload_n 0 dJ0_length_8abf5_5 rfl rfl ?_
  obtain ⟨r3, hc4, hF⟩ := bp_s hF
  refine V.callTi mf_J0_coder_7d493 ml_J0_335 ha0 (s_J0_coder_7d493 ha0 hc4) (by decide) rfl rfl (Nat.le_of_ble_eq_true rfl) dJ0_length_8abf5_6 ?_
  refine V.ishr dJ0_length_8abf5_9 ?_
  cases hF
  exact V.iret dJ0_length_8abf5_10
/-! java/lang/StringLatin1.canEncode -/
theorem dJ1_canEncode_9a6ad_0 : decode cJ1_canEncode_9a6ad 0 = .ok (.iload_n 0, 1) := by decide +kernel
theorem dJ1_canEncode_9a6ad_1 : decode cJ1_canEncode_9a6ad 1 = .ok (.ifCond .lt 14, 3) := by decide +kernel
theorem dJ1_canEncode_9a6ad_4 : decode cJ1_canEncode_9a6ad 4 = .ok (.iload_n 0, 1) := by decide +kernel
theorem dJ1_canEncode_9a6ad_5 : decode cJ1_canEncode_9a6ad 5 = .ok (.sipush 255, 3) := by decide +kernel
theorem dJ1_canEncode_9a6ad_8 : decode cJ1_canEncode_9a6ad 8 = .ok (.if_icmp .gt 7, 3) := by decide +kernel
theorem dJ1_canEncode_9a6ad_11 : decode cJ1_canEncode_9a6ad 11 = .ok (.iconst 1, 1) := by decide +kernel
theorem dJ1_canEncode_9a6ad_12 : decode cJ1_canEncode_9a6ad 12 = .ok (.goto 4, 3) := by decide +kernel
theorem dJ1_canEncode_9a6ad_15 : decode cJ1_canEncode_9a6ad 15 = .ok (.iconst 0, 1) := by decide +kernel
theorem dJ1_canEncode_9a6ad_16 : decode cJ1_canEncode_9a6ad 16 = .ok (.ireturn, 1) := by decide +kernel
def J1_canEncode_9a6ad (x0 : Int32) (h : Mm) : Option Bool := (if x0 < 0 then (some false) else (if (255 : Int32) < x0 then (some false) else (some true)))
set_option maxRecDepth 100000 in
set_option maxHeartbeats 4000000 in
theorem s_J1_canEncode_9a6ad {X : WX} {o : Mm} {b : Bool} {x0 : Int32} {rv : Bool} {h : Mm} (hF : J1_canEncode_9a6ad x0 h = some rv) : Sat X yJ1_canEncode_9a6ad cJ1_canEncode_9a6ad 1 (some .boolean) 1 [.int x0] b o h (some (.int (b2i rv))) h := by
  unfold J1_canEncode_9a6ad at hF
  refine Sat.mk (own := RJ1) rfl (by decide +kernel) (Nat.le_of_ble_eq_true rfl) (fun G => ?_)
  refine V.sub (lv2 := [(0, _)]) [0] rfl ?_
  refine V.iload_n 0 dJ1_canEncode_9a6ad_0 rfl rfl ?_
  refine V.if_lt (tgt := 15) dJ1_canEncode_9a6ad_1 rfl (fun c => ?_) (fun c => ?_)
  · replace hF := ip c hF
    refine V.iconst (v := 0) dJ1_canEncode_9a6ad_15 rfl ?_
    cases hF
    exact V.bret dJ1_canEncode_9a6ad_16
  · replace hF := iq c hF
    refine V.iload_n 0 dJ1_canEncode_9a6ad_4 rfl rfl ?_
    refine V.sipush (v := 255) dJ1_canEncode_9a6ad_5 (by decide) ?_
    refine V.icmp_gt (tgt := 15) dJ1_canEncode_9a6ad_8 rfl (fun c => ?_) (fun c => ?_)
    · replace hF := ip c hF
      refine V.iconst (v := 0) dJ1_canEncode_9a6ad_15 rfl ?_
      cases hF
      exact V.bret dJ1_canEncode_9a6ad_16
    · replace hF := iq c hF
      refine V.iconst (v := 1) dJ1_canEncode_9a6ad_11 rfl ?_
      refine V.goto (tgt := 16) dJ1_canEncode_9a6ad_12 rfl ?_
      cases hF
      exact V.bret dJ1_canEncode_9a6ad_16
/-! java/lang/StringLatin1.indexOfChar -/
theorem dJ1_indexOfChar_4cfef_0 : decode cJ1_indexOfChar_4cfef 0 = .ok (.iload_n 1, 1) := by decide +kernel
theorem dJ1_indexOfChar_4cfef_1 : decode cJ1_indexOfChar_4cfef 1 = .ok (.i2b, 1) := by decide +kernel
theorem dJ1_indexOfChar_4cfef_2 : decode cJ1_indexOfChar_4cfef 2 = .ok (.istore 4, 2) := by decide +kernel
theorem dJ1_indexOfChar_4cfef_4 : decode cJ1_indexOfChar_4cfef 4 = .ok (.iload_n 2, 1) := by decide +kernel
theorem dJ1_indexOfChar_4cfef_5 : decode cJ1_indexOfChar_4cfef 5 = .ok (.istore 5, 2) := by decide +kernel
theorem dJ1_indexOfChar_4cfef_7 : decode cJ1_indexOfChar_4cfef 7 = .ok (.iload 5, 2) := by decide +kernel
theorem dJ1_indexOfChar_4cfef_9 : decode cJ1_indexOfChar_4cfef 9 = .ok (.iload_n 3, 1) := by decide +kernel
theorem dJ1_indexOfChar_4cfef_10 : decode cJ1_indexOfChar_4cfef 10 = .ok (.if_icmp .ge 21, 3) := by decide +kernel
theorem dJ1_indexOfChar_4cfef_13 : decode cJ1_indexOfChar_4cfef 13 = .ok (.aload_n 0, 1) := by decide +kernel
theorem dJ1_indexOfChar_4cfef_14 : decode cJ1_indexOfChar_4cfef 14 = .ok (.iload 5, 2) := by decide +kernel
theorem dJ1_indexOfChar_4cfef_16 : decode cJ1_indexOfChar_4cfef 16 = .ok (.baload, 1) := by decide +kernel
theorem dJ1_indexOfChar_4cfef_17 : decode cJ1_indexOfChar_4cfef 17 = .ok (.iload 4, 2) := by decide +kernel
theorem dJ1_indexOfChar_4cfef_19 : decode cJ1_indexOfChar_4cfef 19 = .ok (.if_icmp .ne 6, 3) := by decide +kernel
theorem dJ1_indexOfChar_4cfef_22 : decode cJ1_indexOfChar_4cfef 22 = .ok (.iload 5, 2) := by decide +kernel
theorem dJ1_indexOfChar_4cfef_24 : decode cJ1_indexOfChar_4cfef 24 = .ok (.ireturn, 1) := by decide +kernel
theorem dJ1_indexOfChar_4cfef_25 : decode cJ1_indexOfChar_4cfef 25 = .ok (.iinc 5 1, 3) := by decide +kernel
theorem dJ1_indexOfChar_4cfef_28 : decode cJ1_indexOfChar_4cfef 28 = .ok (.goto (-21), 3) := by decide +kernel
theorem dJ1_indexOfChar_4cfef_31 : decode cJ1_indexOfChar_4cfef 31 = .ok (.iconst (-1), 1) := by decide +kernel
theorem dJ1_indexOfChar_4cfef_32 : decode cJ1_indexOfChar_4cfef 32 = .ok (.ireturn, 1) := by decide +kernel
def J1_indexOfChar_4cfef_7 (n : Nat) (a0 : Nat) : Nat → Int32 → Int32 → Int32 → Mm → Option Int32
  | 0, _, _, _, _ => none
  | f + 1, x3, x4, x5, h => (if x3 ≤ x5 then (some (-1 : Int32)) else (if inB x5 (stB (a0 - 20)).length then (if ((stB (a0 - 20)).getD x5.toNatClampNeg 0) = x4 then (some x5) else ((J1_indexOfChar_4cfef_7 n a0 f) x3 x4 (x5 + (1)) h)) else none))
set_option maxRecDepth 100000 in
set_option maxHeartbeats 4000000 in
theorem v_J1_indexOfChar_4cfef_7 {X : WX} {G : GX} {o : Mm} {b : Bool} {n : Nat} {a0 : Nat} {rv : Int32} {h : Mm} (ha0 : isSA a0) : ∀ (f : Nat) (x3 : Int32) (x4 : Int32) (x5 : Int32), J1_indexOfChar_4cfef_7 n a0 f x3 x4 x5 h = some rv → V X G RJ1 cJ1_indexOfChar_4cfef 6 (some .int) 1 0 0 (QR X G b o (some (.int rv)) h) b o 7 [(0, .ref (xa X a0)), (3, .int x3), (4, .int x4), (5, .int x5)] [] h := by
  intro f
  induction f with
  | zero => intro x3 x4 x5 hF; exact nomatch (show (none : Option Int32) = some rv from hF)
  | succ f ih =>
    intro x3 x4 x5 hF
    unfold J1_indexOfChar_4cfef_7 at hF
    refine V.iload 3 dJ1_indexOfChar_4cfef_7 rfl ?_
    refine V.iload_n 1 dJ1_indexOfChar_4cfef_9 rfl rfl ?_
    refine V.icmp_ge (tgt := 31) dJ1_indexOfChar_4cfef_10 rfl (fun c => ?_) (fun c => ?_)
    · replace hF := ip c hF
      refine V.iconst (v := -1) dJ1_indexOfChar_4cfef_31 rfl ?_
      cases hF
      exact V.iret dJ1_indexOfChar_4cfef_32
    · replace hF := iq c hF
      refine V.aload_n 0 dJ1_indexOfChar_4cfef_13 rfl rfl ?_
      refine V.iload 3 dJ1_indexOfChar_4cfef_14 rfl ?_
      obtain ⟨hk, hF⟩ := ck hF
      refine V.baldS ha0 hk dJ1_indexOfChar_4cfef_16 ?_
      refine V.iload 2 dJ1_indexOfChar_4cfef_17 rfl ?_
      refine V.icmp_ne (tgt := 25) dJ1_indexOfChar_4cfef_19 rfl (fun c => ?_) (fun c => ?_)
      · replace hF := iq c hF
        refine V.iinc (v := (x5 + (1))) 3 [(5, _), (0, _), (3, _), (4, _)] dJ1_indexOfChar_4cfef_25 rfl rfl (by decide) rfl ?_
        refine V.goto (tgt := 7) dJ1_indexOfChar_4cfef_28 rfl ?_
        exact V.sub [1, 2, 3, 0] rfl (ih _ _ _ hF)
      · replace hF := ip c hF
        refine V.iload 3 dJ1_indexOfChar_4cfef_22 rfl ?_
        cases hF
        exact V.iret dJ1_indexOfChar_4cfef_24
def J1_indexOfChar_4cfef (n : Nat) (a0 : Nat) (x1 : Int32) (x2 : Int32) (x3 : Int32) (h : Mm) : Option Int32 := (J1_indexOfChar_4cfef_7 n a0 n x3 x1.toInt8.toInt32 x2 h)
set_option maxRecDepth 100000 in
set_option maxHeartbeats 4000000 in
theorem s_J1_indexOfChar_4cfef {X : WX} {o : Mm} {b : Bool} {n : Nat} {a0 : Nat} {x1 : Int32} {x2 : Int32} {x3 : Int32} {rv : Int32} {h : Mm} (ha0 : isSA a0) (hF : J1_indexOfChar_4cfef n a0 x1 x2 x3 h = some rv) : Sat X yJ1_indexOfChar_4cfef cJ1_indexOfChar_4cfef 6 (some .int) 1 [.ref (xa X a0), .int x1, .int x2, .int x3] b o h (some (.int rv)) h := by
  unfold J1_indexOfChar_4cfef at hF
  refine Sat.mk (own := RJ1) rfl (by decide +kernel) (Nat.le_of_ble_eq_true rfl) (fun G => ?_)
  refine V.sub (lv2 := [(0, _), (1, _), (2, _), (3, _)]) [0, 1, 2, 3] rfl ?_
  refine V.iload_n 1 dJ1_indexOfChar_4cfef_0 rfl rfl ?_
  refine V.i2b dJ1_indexOfChar_4cfef_1 ?_
  refine V.istore [(4, _), (0, _), (1, _), (2, _), (3, _)] dJ1_indexOfChar_4cfef_2 (by decide) rfl ?_
  refine V.iload_n 3 dJ1_indexOfChar_4cfef_4 rfl rfl ?_
  refine V.istore [(5, _), (4, _), (0, _), (1, _), (2, _), (3, _)] dJ1_indexOfChar_4cfef_5 (by decide) rfl ?_
  exact V.sub [2, 5, 1, 0] rfl (v_J1_indexOfChar_4cfef_7 ha0 n _ _ _ hF)
/-! java/lang/StringLatin1.indexOf -/
theorem dJ1_indexOf_4cfef_0 : decode cJ1_indexOf_4cfef 0 = .ok (.iload_n 1, 1) := by decide +kernel
theorem dJ1_indexOf_4cfef_1 : decode cJ1_indexOf_4cfef 1 = .ok (.invokestatic 88, 3) := by decide +kernel
theorem dJ1_indexOf_4cfef_4 : decode cJ1_indexOf_4cfef 4 = .ok (.ifCond .ne 5, 3) := by decide +kernel
theorem dJ1_indexOf_4cfef_7 : decode cJ1_indexOf_4cfef 7 = .ok (.iconst (-1), 1) := by decide +kernel
theorem dJ1_indexOf_4cfef_8 : decode cJ1_indexOf_4cfef 8 = .ok (.ireturn, 1) := by decide +kernel
theorem dJ1_indexOf_4cfef_9 : decode cJ1_indexOf_4cfef 9 = .ok (.iload_n 2, 1) := by decide +kernel
theorem dJ1_indexOf_4cfef_10 : decode cJ1_indexOf_4cfef 10 = .ok (.iconst 0, 1) := by decide +kernel
theorem dJ1_indexOf_4cfef_11 : decode cJ1_indexOf_4cfef 11 = .ok (.invokestatic 92, 3) := by decide +kernel
theorem dJ1_indexOf_4cfef_14 : decode cJ1_indexOf_4cfef 14 = .ok (.istore_n 2, 1) := by decide +kernel
theorem dJ1_indexOf_4cfef_15 : decode cJ1_indexOf_4cfef 15 = .ok (.iload_n 3, 1) := by decide +kernel
theorem dJ1_indexOf_4cfef_16 : decode cJ1_indexOf_4cfef 16 = .ok (.aload_n 0, 1) := by decide +kernel
theorem dJ1_indexOf_4cfef_17 : decode cJ1_indexOf_4cfef 17 = .ok (.arraylength, 1) := by decide +kernel
theorem dJ1_indexOf_4cfef_18 : decode cJ1_indexOf_4cfef 18 = .ok (.invokestatic 38, 3) := by decide +kernel
theorem dJ1_indexOf_4cfef_21 : decode cJ1_indexOf_4cfef 21 = .ok (.istore_n 3, 1) := by decide +kernel
theorem dJ1_indexOf_4cfef_22 : decode cJ1_indexOf_4cfef 22 = .ok (.iload_n 2, 1) := by decide +kernel
theorem dJ1_indexOf_4cfef_23 : decode cJ1_indexOf_4cfef 23 = .ok (.iload_n 3, 1) := by decide +kernel
theorem dJ1_indexOf_4cfef_24 : decode cJ1_indexOf_4cfef 24 = .ok (.if_icmp .lt 5, 3) := by decide +kernel
theorem dJ1_indexOf_4cfef_27 : decode cJ1_indexOf_4cfef 27 = .ok (.iconst (-1), 1) := by decide +kernel
theorem dJ1_indexOf_4cfef_28 : decode cJ1_indexOf_4cfef 28 = .ok (.ireturn, 1) := by decide +kernel
theorem dJ1_indexOf_4cfef_29 : decode cJ1_indexOf_4cfef 29 = .ok (.aload_n 0, 1) := by decide +kernel
theorem dJ1_indexOf_4cfef_30 : decode cJ1_indexOf_4cfef 30 = .ok (.iload_n 1, 1) := by decide +kernel
theorem dJ1_indexOf_4cfef_31 : decode cJ1_indexOf_4cfef 31 = .ok (.iload_n 2, 1) := by decide +kernel
theorem dJ1_indexOf_4cfef_32 : decode cJ1_indexOf_4cfef 32 = .ok (.iload_n 3, 1) := by decide +kernel
theorem dJ1_indexOf_4cfef_33 : decode cJ1_indexOf_4cfef 33 = .ok (.invokestatic 95, 3) := by decide +kernel
theorem dJ1_indexOf_4cfef_36 : decode cJ1_indexOf_4cfef 36 = .ok (.ireturn, 1) := by decide +kernel
def J1_indexOf_4cfef (n : Nat) (a0 : Nat) (x1 : Int32) (x2 : Int32) (x3 : Int32) (h : Mm) : Option Int32 := (bp (J1_canEncode_9a6ad x1 h) (fun r9 => (if r9 = true then (bp (J9_max_7cf53 x2 (0 : Int32) h) (fun r11 => (bp (J9_min_7cf53 x3 (Int32.ofNat (stB (a0 - 20)).length) h) (fun r13 => (if r11 < r13 then (bp (J1_indexOfChar_4cfef n a0 x1 r11 r13 h) (fun r15 => (some r15))) else (some (-1 : Int32))))))) else (some (-1 : Int32)))))
set_option maxRecDepth 100000 in
set_option maxHeartbeats 4000000 in
theorem s_J1_indexOf_4cfef {X : WX} {o : Mm} {b : Bool} {n : Nat} {a0 : Nat} {x1 : Int32} {x2 : Int32} {x3 : Int32} {rv : Int32} {h : Mm} (ha0 : isSA a0) (hF : J1_indexOf_4cfef n a0 x1 x2 x3 h = some rv) : Sat X yJ1_indexOf_4cfef cJ1_indexOf_4cfef 4 (some .int) 2 [.ref (xa X a0), .int x1, .int x2, .int x3] b o h (some (.int rv)) h := by
  unfold J1_indexOf_4cfef at hF
  refine Sat.mk (own := RJ1) rfl (by decide +kernel) (Nat.le_of_ble_eq_true rfl) (fun G => ?_)
  refine V.sub (lv2 := [(0, _), (1, _), (2, _), (3, _)]) [0, 1, 2, 3] rfl ?_
  refine V.iload_n 1 dJ1_indexOf_4cfef_0 rfl rfl ?_
  obtain ⟨r9, hc10, hF⟩ := bp_s hF
  refine V.callSi mf_J1_canEncode_9a6ad ml_J1_88 (s_J1_canEncode_9a6ad hc10) (by decide) rfl rfl (Nat.le_of_ble_eq_true rfl) dJ1_indexOf_4cfef_1 ?_
  refine V.ifz_ne (tgt := 9) dJ1_indexOf_4cfef_4 rfl (fun c => ?_) (fun c => ?_)
  · replace hF := ip c hF
    refine V.iload_n 2 dJ1_indexOf_4cfef_9 rfl rfl ?_
    refine V.iconst (v := 0) dJ1_indexOf_4cfef_10 rfl ?_
    obtain ⟨r11, hc12, hF⟩ := bp_s hF
    refine V.callSi mf_J9_max_7cf53 ml_J1_92 (s_J9_max_7cf53 hc12) (by decide) rfl rfl (Nat.le_of_ble_eq_true rfl) dJ1_indexOf_4cfef_11 ?_
    refine V.istore_n [(2, _), (0, _), (1, _), (3, _)] dJ1_indexOf_4cfef_14 rfl (by decide) rfl ?_
    refine V.iload_n 3 dJ1_indexOf_4cfef_15 rfl rfl ?_
    refine V.aload_n 1 dJ1_indexOf_4cfef_16 rfl rfl ?_
    refine V.lenS ha0 dJ1_indexOf_4cfef_17 ?_
    obtain ⟨r13, hc14, hF⟩ := bp_s hF
    refine V.callSi mf_J9_min_7cf53 ml_J1_38 (s_J9_min_7cf53 hc14) (by decide) rfl rfl (Nat.le_of_ble_eq_true rfl) dJ1_indexOf_4cfef_18 ?_
    refine V.istore_n [(3, _), (2, _), (0, _), (1, _)] dJ1_indexOf_4cfef_21 rfl (by decide) rfl ?_
    refine V.iload_n 1 dJ1_indexOf_4cfef_22 rfl rfl ?_
    refine V.iload_n 0 dJ1_indexOf_4cfef_23 rfl rfl ?_
    refine V.icmp_lt (tgt := 29) dJ1_indexOf_4cfef_24 rfl (fun c => ?_) (fun c => ?_)
    · replace hF := ip c hF
      refine V.aload_n 2 dJ1_indexOf_4cfef_29 rfl rfl ?_
      refine V.iload_n 3 dJ1_indexOf_4cfef_30 rfl rfl ?_
      refine V.iload_n 1 dJ1_indexOf_4cfef_31 rfl rfl ?_
      refine V.iload_n 0 dJ1_indexOf_4cfef_32 rfl rfl ?_
      obtain ⟨r15, hc16, hF⟩ := bp_s hF
      refine V.callSi mf_J1_indexOfChar_4cfef ml_J1_95 (s_J1_indexOfChar_4cfef ha0 hc16) (by decide) rfl rfl (Nat.le_of_ble_eq_true rfl) dJ1_indexOf_4cfef_33 ?_
      cases hF
      exact V.iret dJ1_indexOf_4cfef_36
    · replace hF := iq c hF
      refine V.iconst (v := -1) dJ1_indexOf_4cfef_27 rfl ?_
      cases hF
      exact V.iret dJ1_indexOf_4cfef_28
  · replace hF := iq c hF
    refine V.iconst (v := -1) dJ1_indexOf_4cfef_7 rfl ?_
    cases hF
    exact V.iret dJ1_indexOf_4cfef_8
/-! java/lang/String.indexOf -/
theorem dJ0_indexOf_7cf53_0 : decode cJ0_indexOf_7cf53 0 = .ok (.aload_n 0, 1) := by decide +kernel
theorem dJ0_indexOf_7cf53_1 : decode cJ0_indexOf_7cf53 1 = .ok (.invokevirtual 492, 3) := by decide +kernel
theorem dJ0_indexOf_7cf53_4 : decode cJ0_indexOf_7cf53 4 = .ok (.ifCond .eq 19, 3) := by decide +kernel
theorem dJ0_indexOf_7cf53_7 : decode cJ0_indexOf_7cf53 7 = .ok (.aload_n 0, 1) := by decide +kernel
theorem dJ0_indexOf_7cf53_8 : decode cJ0_indexOf_7cf53 8 = .ok (.getfield 9, 3) := by decide +kernel
theorem dJ0_indexOf_7cf53_11 : decode cJ0_indexOf_7cf53 11 = .ok (.iload_n 1, 1) := by decide +kernel
theorem dJ0_indexOf_7cf53_12 : decode cJ0_indexOf_7cf53 12 = .ok (.iload_n 2, 1) := by decide +kernel
theorem dJ0_indexOf_7cf53_13 : decode cJ0_indexOf_7cf53 13 = .ok (.aload_n 0, 1) := by decide +kernel
theorem dJ0_indexOf_7cf53_14 : decode cJ0_indexOf_7cf53 14 = .ok (.invokevirtual 505, 3) := by decide +kernel
theorem dJ0_indexOf_7cf53_17 : decode cJ0_indexOf_7cf53 17 = .ok (.invokestatic 637, 3) := by decide +kernel
theorem dJ0_indexOf_7cf53_20 : decode cJ0_indexOf_7cf53 20 = .ok (.goto 16, 3) := by decide +kernel
theorem dJ0_indexOf_7cf53_23 : decode cJ0_indexOf_7cf53 23 = .ok (.aload_n 0, 1) := by decide +kernel
theorem dJ0_indexOf_7cf53_24 : decode cJ0_indexOf_7cf53 24 = .ok (.getfield 9, 3) := by decide +kernel
theorem dJ0_indexOf_7cf53_27 : decode cJ0_indexOf_7cf53 27 = .ok (.iload_n 1, 1) := by decide +kernel
theorem dJ0_indexOf_7cf53_28 : decode cJ0_indexOf_7cf53 28 = .ok (.iload_n 2, 1) := by decide +kernel
theorem dJ0_indexOf_7cf53_29 : decode cJ0_indexOf_7cf53 29 = .ok (.aload_n 0, 1) := by decide +kernel
theorem dJ0_indexOf_7cf53_30 : decode cJ0_indexOf_7cf53 30 = .ok (.invokevirtual 505, 3) := by decide +kernel
theorem dJ0_indexOf_7cf53_33 : decode cJ0_indexOf_7cf53 33 = .ok (.invokestatic 640, 3) := by decide +kernel
theorem dJ0_indexOf_7cf53_36 : decode cJ0_indexOf_7cf53 36 = .ok (.ireturn, 1) := by decide +kernel
def J0_indexOf_7cf53 (n : Nat) (a0 : Nat) (x1 : Int32) (x2 : Int32) (h : Mm) : Option Int32 := (bp (J0_isLatin1_aae02 a0 h) (fun r9 => (if r9 = true then (bp (J0_length_8abf5 a0 h) (fun r13 => (bp (J1_indexOf_4cfef n (a0 + 20) x1 x2 r13 h) (fun r15 => (some r15))))) else none)))
set_option maxRecDepth 100000 in
set_option maxHeartbeats 4000000 in
theorem s_J0_indexOf_7cf53 {X : WX} {o : Mm} {b : Bool} {n : Nat} {a0 : Nat} {x1 : Int32} {x2 : Int32} {rv : Int32} {h : Mm} (ha0 : isS a0) (hF : J0_indexOf_7cf53 n a0 x1 x2 h = some rv) : Sat X yJ0_indexOf_7cf53 cJ0_indexOf_7cf53 3 (some .int) 3 [.ref (xa X a0), .int x1, .int x2] b o h (some (.int rv)) h := by
  unfold J0_indexOf_7cf53 at hF
  refine Sat.mk (own := RJ0) rfl (by decide +kernel) (Nat.le_of_ble_eq_true rfl) (fun G => ?_)
  refine V.sub (lv2 := [(0, _), (1, _), (2, _)]) [0, 1, 2] rfl ?_
  refine V.aload_n 0 dJ0_indexOf_7cf53_0 rfl rfl ?_
  obtain ⟨r9, hc10, hF⟩ := bp_s hF
  refine V.callTi mf_J0_isLatin1_aae02 ml_J0_492 ha0 (s_J0_isLatin1_aae02 ha0 hc10) (by decide) rfl rfl (Nat.le_of_ble_eq_true rfl) dJ0_indexOf_7cf53_1 ?_
  refine V.ifz_eq (tgt := 23) dJ0_indexOf_7cf53_4 rfl (fun c => ?_) (fun c => ?_)
  · replace hF := iq c hF
    exact nomatch hF
  · replace hF := ip c hF
    refine V.aload_n 0 dJ0_indexOf_7cf53_7 rfl rfl ?_
    refine V.getSV ha0 fl_J0_9 dJ0_indexOf_7cf53_8 ?_
    refine V.iload_n 1 dJ0_indexOf_7cf53_11 rfl rfl ?_
    refine V.iload_n 2 dJ0_indexOf_7cf53_12 rfl rfl ?_
    refine V.aload_n 0 dJ0_indexOf_7cf53_13 rfl rfl ?_
    obtain ⟨r13, hc14, hF⟩ := bp_s hF
    refine V.callTi mf_J0_length_8abf5 ml_J0_505 ha0 (s_J0_length_8abf5 ha0 hc14) (by decide) rfl rfl (Nat.le_of_ble_eq_true rfl) dJ0_indexOf_7cf53_14 ?_
    obtain ⟨r15, hc16, hF⟩ := bp_s hF
    refine V.callSi mf_J1_indexOf_4cfef ml_J0_637 (s_J1_indexOf_4cfef ha0.sa hc16) (by decide) rfl rfl (Nat.le_of_ble_eq_true rfl) dJ0_indexOf_7cf53_17 ?_
    refine V.goto (tgt := 36) dJ0_indexOf_7cf53_20 rfl ?_
    cases hF
    exact V.iret dJ0_indexOf_7cf53_36
/-! java/lang/String.indexOf -/
theorem dJ0_indexOf_0f7a4_0 : decode cJ0_indexOf_0f7a4 0 = .ok (.aload_n 0, 1) := by decide +kernel
theorem dJ0_indexOf_0f7a4_1 : decode cJ0_indexOf_0f7a4 1 = .ok (.iload_n 1, 1) := by decide +kernel
theorem dJ0_indexOf_0f7a4_2 : decode cJ0_indexOf_0f7a4 2 = .ok (.iconst 0, 1) := by decide +kernel
theorem dJ0_indexOf_0f7a4_3 : decode cJ0_indexOf_0f7a4 3 = .ok (.invokevirtual 633, 3) := by decide +kernel
theorem dJ0_indexOf_0f7a4_6 : decode cJ0_indexOf_0f7a4 6 = .ok (.ireturn, 1) := by decide +kernel
def J0_indexOf_0f7a4 (n : Nat) (a0 : Nat) (x1 : Int32) (h : Mm) : Option Int32 := (bp (J0_indexOf_7cf53 n a0 x1 (0 : Int32) h) (fun r3 => (some r3)))
set_option maxRecDepth 100000 in
set_option maxHeartbeats 4000000 in
theorem s_J0_indexOf_0f7a4 {X : WX} {o : Mm} {b : Bool} {n : Nat} {a0 : Nat} {x1 : Int32} {rv : Int32} {h : Mm} (ha0 : isS a0) (hF : J0_indexOf_0f7a4 n a0 x1 h = some rv) : Sat X yJ0_indexOf_0f7a4 cJ0_indexOf_0f7a4 2 (some .int) 4 [.ref (xa X a0), .int x1] b o h (some (.int rv)) h := by
  unfold J0_indexOf_0f7a4 at hF
  refine Sat.mk (own := RJ0) rfl (by decide +kernel) (Nat.le_of_ble_eq_true rfl) (fun G => ?_)
  refine V.sub (lv2 := [(0, _), (1, _)]) [0, 1] rfl ?_
  refine V.aload_n 0 dJ0_indexOf_0f7a4_0 rfl rfl ?_
  refine V.iload_n 1 dJ0_indexOf_0f7a4_1 rfl rfl ?_
  refine V.iconst (v := 0) dJ0_indexOf_0f7a4_2 rfl ?_
  obtain ⟨r3, hc4, hF⟩ := bp_s hF
  refine V.callTi mf_J0_indexOf_7cf53 ml_J0_633 ha0 (s_J0_indexOf_7cf53 ha0 hc4) (by decide) rfl rfl (Nat.le_of_ble_eq_true rfl) dJ0_indexOf_0f7a4_3 ?_
  cases hF
  exact V.iret dJ0_indexOf_0f7a4_6
/-! java/lang/StringLatin1.charAt -/
theorem dJ1_charAt_3b067_0 : decode cJ1_charAt_3b067 0 = .ok (.iload_n 1, 1) := by decide +kernel
theorem dJ1_charAt_3b067_1 : decode cJ1_charAt_3b067 1 = .ok (.aload_n 0, 1) := by decide +kernel
theorem dJ1_charAt_3b067_2 : decode cJ1_charAt_3b067 2 = .ok (.arraylength, 1) := by decide +kernel
theorem dJ1_charAt_3b067_3 : decode cJ1_charAt_3b067 3 = .ok (.invokestatic 9, 3) := by decide +kernel
theorem dJ1_charAt_3b067_6 : decode cJ1_charAt_3b067 6 = .ok (.aload_n 0, 1) := by decide +kernel
theorem dJ1_charAt_3b067_7 : decode cJ1_charAt_3b067 7 = .ok (.iload_n 1, 1) := by decide +kernel
theorem dJ1_charAt_3b067_8 : decode cJ1_charAt_3b067 8 = .ok (.baload, 1) := by decide +kernel
theorem dJ1_charAt_3b067_9 : decode cJ1_charAt_3b067 9 = .ok (.sipush 255, 3) := by decide +kernel
theorem dJ1_charAt_3b067_12 : decode cJ1_charAt_3b067 12 = .ok (.iand, 1) := by decide +kernel
theorem dJ1_charAt_3b067_13 : decode cJ1_charAt_3b067 13 = .ok (.i2c, 1) := by decide +kernel
theorem dJ1_charAt_3b067_14 : decode cJ1_charAt_3b067 14 = .ok (.ireturn, 1) := by decide +kernel
def J1_charAt_3b067 (a0 : Nat) (x1 : Int32) (h : Mm) : Option Int32 := (bp (J0_checkIndex_df160 x1 (Int32.ofNat (stB (a0 - 20)).length) h) (fun _ => (if inB x1 (stB (a0 - 20)).length then (if vp_nar .char ((((stB (a0 - 20)).getD x1.toNatClampNeg 0) &&& (255 : Int32)).toUInt32 % 65536).toInt32 = ((((stB (a0 - 20)).getD x1.toNatClampNeg 0) &&& (255 : Int32)).toUInt32 % 65536).toInt32 then (some (((((stB (a0 - 20)).getD x1.toNatClampNeg 0) &&& (255 : Int32)).toUInt32 % 65536).toInt32)) else none) else none)))
set_option maxRecDepth 100000 in
set_option maxHeartbeats 4000000 in
theorem s_J1_charAt_3b067 {X : WX} {o : Mm} {b : Bool} {a0 : Nat} {x1 : Int32} {rv : Int32} {h : Mm} (ha0 : isSA a0) (hF : J1_charAt_3b067 a0 x1 h = some rv) : Sat X yJ1_charAt_3b067 cJ1_charAt_3b067 2 (some .char) 3 [.ref (xa X a0), .int x1] b o h (some (.int rv)) h := by
  unfold J1_charAt_3b067 at hF
  refine Sat.mk (own := RJ1) rfl (by decide +kernel) (Nat.le_of_ble_eq_true rfl) (fun G => ?_)
  refine V.sub (lv2 := [(0, _), (1, _)]) [0, 1] rfl ?_
  refine V.iload_n 1 dJ1_charAt_3b067_0 rfl rfl ?_
  refine V.aload_n 0 dJ1_charAt_3b067_1 rfl rfl ?_
  refine V.lenS ha0 dJ1_charAt_3b067_2 ?_
  obtain ⟨r3, hc4, hF⟩ := bp_s hF
  refine V.callSv mf_J0_checkIndex_df160 ml_J1_9 (s_J0_checkIndex_df160 hc4) (by decide) rfl rfl (Nat.le_of_ble_eq_true rfl) dJ1_charAt_3b067_3 ?_
  refine V.aload_n 0 dJ1_charAt_3b067_6 rfl rfl ?_
  refine V.iload_n 1 dJ1_charAt_3b067_7 rfl rfl ?_
  obtain ⟨hk, hF⟩ := ck hF
  refine V.baldS ha0 hk dJ1_charAt_3b067_8 ?_
  refine V.sipush (v := 255) dJ1_charAt_3b067_9 (by decide) ?_
  refine V.iand dJ1_charAt_3b067_12 ?_
  refine V.i2c dJ1_charAt_3b067_13 ?_
  obtain ⟨hk, hF⟩ := ck hF
  cases hF
  exact V.zret (nar_c hk) dJ1_charAt_3b067_14
/-! java/lang/String.charAt -/
theorem dJ0_charAt_5068e_0 : decode cJ0_charAt_5068e 0 = .ok (.aload_n 0, 1) := by decide +kernel
theorem dJ0_charAt_5068e_1 : decode cJ0_charAt_5068e 1 = .ok (.invokevirtual 492, 3) := by decide +kernel
theorem dJ0_charAt_5068e_4 : decode cJ0_charAt_5068e 4 = .ok (.ifCond .eq 12, 3) := by decide +kernel
theorem dJ0_charAt_5068e_7 : decode cJ0_charAt_5068e 7 = .ok (.aload_n 0, 1) := by decide +kernel
theorem dJ0_charAt_5068e_8 : decode cJ0_charAt_5068e 8 = .ok (.getfield 9, 3) := by decide +kernel
theorem dJ0_charAt_5068e_11 : decode cJ0_charAt_5068e 11 = .ok (.iload_n 1, 1) := by decide +kernel
theorem dJ0_charAt_5068e_12 : decode cJ0_charAt_5068e 12 = .ok (.invokestatic 495, 3) := by decide +kernel
theorem dJ0_charAt_5068e_15 : decode cJ0_charAt_5068e 15 = .ok (.ireturn, 1) := by decide +kernel
theorem dJ0_charAt_5068e_16 : decode cJ0_charAt_5068e 16 = .ok (.aload_n 0, 1) := by decide +kernel
theorem dJ0_charAt_5068e_17 : decode cJ0_charAt_5068e 17 = .ok (.getfield 9, 3) := by decide +kernel
theorem dJ0_charAt_5068e_20 : decode cJ0_charAt_5068e 20 = .ok (.iload_n 1, 1) := by decide +kernel
theorem dJ0_charAt_5068e_21 : decode cJ0_charAt_5068e 21 = .ok (.invokestatic 498, 3) := by decide +kernel
theorem dJ0_charAt_5068e_24 : decode cJ0_charAt_5068e 24 = .ok (.ireturn, 1) := by decide +kernel
def J0_charAt_5068e (a0 : Nat) (x1 : Int32) (h : Mm) : Option Int32 := (bp (J0_isLatin1_aae02 a0 h) (fun r5 => (if r5 = true then (bp (J1_charAt_3b067 (a0 + 20) x1 h) (fun r7 => (if vp_nar .char r7 = r7 then (some r7) else none))) else none)))
set_option maxRecDepth 100000 in
set_option maxHeartbeats 4000000 in
theorem s_J0_charAt_5068e {X : WX} {o : Mm} {b : Bool} {a0 : Nat} {x1 : Int32} {rv : Int32} {h : Mm} (ha0 : isS a0) (hF : J0_charAt_5068e a0 x1 h = some rv) : Sat X yJ0_charAt_5068e cJ0_charAt_5068e 2 (some .char) 4 [.ref (xa X a0), .int x1] b o h (some (.int rv)) h := by
  unfold J0_charAt_5068e at hF
  refine Sat.mk (own := RJ0) rfl (by decide +kernel) (Nat.le_of_ble_eq_true rfl) (fun G => ?_)
  refine V.sub (lv2 := [(0, _), (1, _)]) [0, 1] rfl ?_
  refine V.aload_n 0 dJ0_charAt_5068e_0 rfl rfl ?_
  obtain ⟨r5, hc6, hF⟩ := bp_s hF
  refine V.callTi mf_J0_isLatin1_aae02 ml_J0_492 ha0 (s_J0_isLatin1_aae02 ha0 hc6) (by decide) rfl rfl (Nat.le_of_ble_eq_true rfl) dJ0_charAt_5068e_1 ?_
  refine V.ifz_eq (tgt := 16) dJ0_charAt_5068e_4 rfl (fun c => ?_) (fun c => ?_)
  · replace hF := iq c hF
    exact nomatch hF
  · replace hF := ip c hF
    refine V.aload_n 0 dJ0_charAt_5068e_7 rfl rfl ?_
    refine V.getSV ha0 fl_J0_9 dJ0_charAt_5068e_8 ?_
    refine V.iload_n 1 dJ0_charAt_5068e_11 rfl rfl ?_
    obtain ⟨r7, hc8, hF⟩ := bp_s hF
    refine V.callSi mf_J1_charAt_3b067 ml_J0_495 (s_J1_charAt_3b067 ha0.sa hc8) (by decide) rfl rfl (Nat.le_of_ble_eq_true rfl) dJ0_charAt_5068e_12 ?_
    obtain ⟨hk, hF⟩ := ck hF
    cases hF
    exact V.zret (nar_c hk) dJ0_charAt_5068e_15
/-! MonsterCot$Tape.bytesOf -/
theorem dX7_bytesOf_0 : decode cX7_bytesOf 0 = .ok (.iconst 0, 1) := by decide +kernel
theorem dX7_bytesOf_1 : decode cX7_bytesOf 1 = .ok (.istore_n 1, 1) := by decide +kernel
theorem dX7_bytesOf_2 : decode cX7_bytesOf 2 = .ok (.bipush 24, 2) := by decide +kernel
theorem dX7_bytesOf_4 : decode cX7_bytesOf 4 = .ok (.istore_n 2, 1) := by decide +kernel
theorem dX7_bytesOf_5 : decode cX7_bytesOf 5 = .ok (.iload_n 2, 1) := by decide +kernel
theorem dX7_bytesOf_6 : decode cX7_bytesOf 6 = .ok (.ifCond .lt 27, 3) := by decide +kernel
theorem dX7_bytesOf_9 : decode cX7_bytesOf 9 = .ok (.iload_n 1, 1) := by decide +kernel
theorem dX7_bytesOf_10 : decode cX7_bytesOf 10 = .ok (.iload_n 0, 1) := by decide +kernel
theorem dX7_bytesOf_11 : decode cX7_bytesOf 11 = .ok (.iload_n 2, 1) := by decide +kernel
theorem dX7_bytesOf_12 : decode cX7_bytesOf 12 = .ok (.iushr, 1) := by decide +kernel
theorem dX7_bytesOf_13 : decode cX7_bytesOf 13 = .ok (.sipush 255, 3) := by decide +kernel
theorem dX7_bytesOf_16 : decode cX7_bytesOf 16 = .ok (.iand, 1) := by decide +kernel
theorem dX7_bytesOf_17 : decode cX7_bytesOf 17 = .ok (.ifCond .eq 7, 3) := by decide +kernel
theorem dX7_bytesOf_20 : decode cX7_bytesOf 20 = .ok (.iconst 1, 1) := by decide +kernel
theorem dX7_bytesOf_21 : decode cX7_bytesOf 21 = .ok (.goto 4, 3) := by decide +kernel
theorem dX7_bytesOf_24 : decode cX7_bytesOf 24 = .ok (.iconst 0, 1) := by decide +kernel
theorem dX7_bytesOf_25 : decode cX7_bytesOf 25 = .ok (.iadd, 1) := by decide +kernel
theorem dX7_bytesOf_26 : decode cX7_bytesOf 26 = .ok (.istore_n 1, 1) := by decide +kernel
theorem dX7_bytesOf_27 : decode cX7_bytesOf 27 = .ok (.iinc 2 (-8), 3) := by decide +kernel
theorem dX7_bytesOf_30 : decode cX7_bytesOf 30 = .ok (.goto (-25), 3) := by decide +kernel
theorem dX7_bytesOf_33 : decode cX7_bytesOf 33 = .ok (.iload_n 1, 1) := by decide +kernel
theorem dX7_bytesOf_34 : decode cX7_bytesOf 34 = .ok (.ireturn, 1) := by decide +kernel
def X7_bytesOf_25 (n : Nat) (K5 : Int32 → Int32 → Int32 → Mm → Option Int32) (x0 : Int32) (x2 : Int32) (s0 : Int32) (s1 : Bool) (h : Mm) : Option Int32 := (K5 x0 (s0 + (b2i s1)) (x2 + (-8)) h)
set_option maxRecDepth 100000 in
set_option maxHeartbeats 4000000 in
theorem v_X7_bytesOf_25 {X : WX} {G : GX} {o : Mm} {n : Nat} {K5 : Int32 → Int32 → Int32 → Mm → Option Int32} {rv : Int32} {h : Mm} (hK5 : ∀ (x0 : Int32) (x1 : Int32) (x2 : Int32), K5 x0 x1 x2 h = some rv → V X G RX7 cX7_bytesOf 3 (some .int) 1 0 0 (QR X G true o (some (.int rv)) h) true o 5 [(0, .int x0), (1, .int x1), (2, .int x2)] [] h) {x0 : Int32} {x2 : Int32} {s0 : Int32} {s1 : Bool} (hF : X7_bytesOf_25 n K5 x0 x2 s0 s1 h = some rv) : V X G RX7 cX7_bytesOf 3 (some .int) 1 0 0 (QR X G true o (some (.int rv)) h) true o 25 [(0, .int x0), (2, .int x2)] [.int (b2i s1), .int s0] h := by
  unfold X7_bytesOf_25 at hF
  refine V.iadd dX7_bytesOf_25 ?_
  refine V.istore_n [(1, _), (0, _), (2, _)] dX7_bytesOf_26 rfl (by decide) rfl ?_
  refine V.iinc (v := (x2 + (-8))) 2 [(2, _), (1, _), (0, _)] dX7_bytesOf_27 rfl rfl (by decide) rfl ?_
  refine V.goto (tgt := 5) dX7_bytesOf_30 rfl ?_
  exact V.sub [2, 1, 0] rfl (hK5 _ _ _ hF)
def X7_bytesOf_5 (n : Nat) : Nat → Int32 → Int32 → Int32 → Mm → Option Int32
  | 0, _, _, _, _ => none
  | f + 1, x0, x1, x2, h => (if x2 < 0 then (some x1) else (if (((x0.toUInt32 >>> (x2.toUInt32 &&& Int32.toUInt32 31)).toInt32) &&& (255 : Int32)) = 0 then (X7_bytesOf_25 n (X7_bytesOf_5 n f) x0 x2 x1 false h) else (X7_bytesOf_25 n (X7_bytesOf_5 n f) x0 x2 x1 true h)))
set_option maxRecDepth 100000 in
set_option maxHeartbeats 4000000 in
theorem v_X7_bytesOf_5 {X : WX} {G : GX} {o : Mm} {n : Nat} {rv : Int32} {h : Mm} : ∀ (f : Nat) (x0 : Int32) (x1 : Int32) (x2 : Int32), X7_bytesOf_5 n f x0 x1 x2 h = some rv → V X G RX7 cX7_bytesOf 3 (some .int) 1 0 0 (QR X G true o (some (.int rv)) h) true o 5 [(0, .int x0), (1, .int x1), (2, .int x2)] [] h := by
  intro f
  induction f with
  | zero => intro x0 x1 x2 hF; exact nomatch (show (none : Option Int32) = some rv from hF)
  | succ f ih =>
    intro x0 x1 x2 hF
    unfold X7_bytesOf_5 at hF
    refine V.iload_n 2 dX7_bytesOf_5 rfl rfl ?_
    refine V.if_lt (tgt := 33) dX7_bytesOf_6 rfl (fun c => ?_) (fun c => ?_)
    · replace hF := ip c hF
      refine V.iload_n 1 dX7_bytesOf_33 rfl rfl ?_
      cases hF
      exact V.iret dX7_bytesOf_34
    · replace hF := iq c hF
      refine V.iload_n 1 dX7_bytesOf_9 rfl rfl ?_
      refine V.iload_n 0 dX7_bytesOf_10 rfl rfl ?_
      refine V.iload_n 2 dX7_bytesOf_11 rfl rfl ?_
      refine V.iushr dX7_bytesOf_12 ?_
      refine V.sipush (v := 255) dX7_bytesOf_13 (by decide) ?_
      refine V.iand dX7_bytesOf_16 ?_
      refine V.if_eq (tgt := 24) dX7_bytesOf_17 rfl (fun c => ?_) (fun c => ?_)
      · replace hF := ip c hF
        refine V.iconst (v := 0) dX7_bytesOf_24 rfl ?_
        exact V.sub [0, 2] rfl (v_X7_bytesOf_25 ih hF)
      · replace hF := iq c hF
        refine V.iconst (v := 1) dX7_bytesOf_20 rfl ?_
        refine V.goto (tgt := 25) dX7_bytesOf_21 rfl ?_
        exact V.sub [0, 2] rfl (v_X7_bytesOf_25 ih hF)
def X7_bytesOf (n : Nat) (x0 : Int32) (h : Mm) : Option Int32 := (X7_bytesOf_5 n n x0 (0 : Int32) (24 : Int32) h)
set_option maxRecDepth 100000 in
set_option maxHeartbeats 4000000 in
theorem s_X7_bytesOf {X : WX} {o : Mm} {n : Nat} {x0 : Int32} {rv : Int32} {h : Mm} (hF : X7_bytesOf n x0 h = some rv) : Sat X yX7_bytesOf cX7_bytesOf 3 (some .int) 1 [.int x0] true o h (some (.int rv)) h := by
  unfold X7_bytesOf at hF
  refine Sat.mk (own := RX7) rfl (by decide +kernel) (Nat.le_of_ble_eq_true rfl) (fun G => ?_)
  refine V.sub (lv2 := [(0, _)]) [0] rfl ?_
  refine V.iconst (v := 0) dX7_bytesOf_0 rfl ?_
  refine V.istore_n [(1, _), (0, _)] dX7_bytesOf_1 rfl (by decide) rfl ?_
  refine V.bipush (v := 24) dX7_bytesOf_2 (by decide) ?_
  refine V.istore_n [(2, _), (1, _), (0, _)] dX7_bytesOf_4 rfl (by decide) rfl ?_
  exact V.sub [2, 1, 0] rfl (v_X7_bytesOf_5 n _ _ _ hF)
/-! MonsterCot$Tape.add -/
theorem dX7_add_0 : decode cX7_add 0 = .ok (.bipush 24, 2) := by decide +kernel
theorem dX7_add_2 : decode cX7_add 2 = .ok (.istore_n 2, 1) := by decide +kernel
theorem dX7_add_3 : decode cX7_add 3 = .ok (.iload_n 2, 1) := by decide +kernel
theorem dX7_add_4 : decode cX7_add 4 = .ok (.ifCond .lt 61, 3) := by decide +kernel
theorem dX7_add_7 : decode cX7_add 7 = .ok (.iload_n 1, 1) := by decide +kernel
theorem dX7_add_8 : decode cX7_add 8 = .ok (.iload_n 2, 1) := by decide +kernel
theorem dX7_add_9 : decode cX7_add 9 = .ok (.iushr, 1) := by decide +kernel
theorem dX7_add_10 : decode cX7_add 10 = .ok (.sipush 255, 3) := by decide +kernel
theorem dX7_add_13 : decode cX7_add 13 = .ok (.iand, 1) := by decide +kernel
theorem dX7_add_14 : decode cX7_add 14 = .ok (.istore_n 3, 1) := by decide +kernel
theorem dX7_add_15 : decode cX7_add 15 = .ok (.iload_n 3, 1) := by decide +kernel
theorem dX7_add_16 : decode cX7_add 16 = .ok (.ifCond .eq 43, 3) := by decide +kernel
theorem dX7_add_19 : decode cX7_add 19 = .ok (.aload_n 0, 1) := by decide +kernel
theorem dX7_add_20 : decode cX7_add 20 = .ok (.getfield 15, 3) := by decide +kernel
theorem dX7_add_23 : decode cX7_add 23 = .ok (.ifCond .lt 36, 3) := by decide +kernel
theorem dX7_add_26 : decode cX7_add 26 = .ok (.aload_n 0, 1) := by decide +kernel
theorem dX7_add_27 : decode cX7_add 27 = .ok (.getfield 15, 3) := by decide +kernel
theorem dX7_add_30 : decode cX7_add 30 = .ok (.aload_n 0, 1) := by decide +kernel
theorem dX7_add_31 : decode cX7_add 31 = .ok (.getfield 9, 3) := by decide +kernel
theorem dX7_add_34 : decode cX7_add 34 = .ok (.arraylength, 1) := by decide +kernel
theorem dX7_add_35 : decode cX7_add 35 = .ok (.if_icmp .ge 24, 3) := by decide +kernel
theorem dX7_add_38 : decode cX7_add 38 = .ok (.aload_n 0, 1) := by decide +kernel
theorem dX7_add_39 : decode cX7_add 39 = .ok (.getfield 9, 3) := by decide +kernel
theorem dX7_add_42 : decode cX7_add 42 = .ok (.aload_n 0, 1) := by decide +kernel
theorem dX7_add_43 : decode cX7_add 43 = .ok (.getfield 15, 3) := by decide +kernel
theorem dX7_add_46 : decode cX7_add 46 = .ok (.iload_n 3, 1) := by decide +kernel
theorem dX7_add_47 : decode cX7_add 47 = .ok (.i2c, 1) := by decide +kernel
theorem dX7_add_48 : decode cX7_add 48 = .ok (.castore, 1) := by decide +kernel
theorem dX7_add_49 : decode cX7_add 49 = .ok (.aload_n 0, 1) := by decide +kernel
theorem dX7_add_50 : decode cX7_add 50 = .ok (.dup, 1) := by decide +kernel
theorem dX7_add_51 : decode cX7_add 51 = .ok (.getfield 15, 3) := by decide +kernel
theorem dX7_add_54 : decode cX7_add 54 = .ok (.iconst 1, 1) := by decide +kernel
theorem dX7_add_55 : decode cX7_add 55 = .ok (.iadd, 1) := by decide +kernel
theorem dX7_add_56 : decode cX7_add 56 = .ok (.putfield 15, 3) := by decide +kernel
theorem dX7_add_59 : decode cX7_add 59 = .ok (.iinc 2 (-8), 3) := by decide +kernel
theorem dX7_add_62 : decode cX7_add 62 = .ok (.goto (-59), 3) := by decide +kernel
theorem dX7_add_65 : decode cX7_add 65 = .ok (.return_, 1) := by decide +kernel
def X7_add_59 (n : Nat) (K3 : Int32 → Int32 → Mm → Option (Unit × Mm)) (x1 : Int32) (x2 : Int32) (h : Mm) : Option (Unit × Mm) := (K3 x1 (x2 + (-8)) h)
set_option maxRecDepth 100000 in
set_option maxHeartbeats 4000000 in
theorem v_X7_add_59 {X : WX} {G : GX} {o : Mm} {n : Nat} {K3 : Int32 → Int32 → Mm → Option (Unit × Mm)} {rv : Unit} {hz : Mm} (hK3 : ∀ (x1 : Int32) (x2 : Int32) (h : Mm), K3 x1 x2 h = some (rv, hz) → V X G RX7 cX7_add 4 (none) 1 0 0 (QR X G true o none hz) true o 3 [(0, .ref (xa X 1)), (1, .int x1), (2, .int x2)] [] h) {x1 : Int32} {x2 : Int32} {h : Mm} (hF : X7_add_59 n K3 x1 x2 h = some (rv, hz)) : V X G RX7 cX7_add 4 (none) 1 0 0 (QR X G true o none hz) true o 59 [(0, .ref (xa X 1)), (1, .int x1), (2, .int x2)] [] h := by
  unfold X7_add_59 at hF
  refine V.iinc (v := (x2 + (-8))) 2 [(2, _), (0, _), (1, _)] dX7_add_59 rfl rfl (by decide) rfl ?_
  refine V.goto (tgt := 3) dX7_add_62 rfl ?_
  exact V.sub [1, 2, 0] rfl (hK3 _ _ _ hF)
def X7_add_3 (n : Nat) : Nat → Int32 → Int32 → Mm → Option (Unit × Mm)
  | 0, _, _, _ => none
  | f + 1, x1, x2, h => (if x2 < 0 then (some ((), h)) else (if (((x1.toUInt32 >>> (x2.toUInt32 &&& Int32.toUInt32 31)).toInt32) &&& (255 : Int32)) = 0 then (X7_add_59 n (X7_add_3 n f) x1 x2 h) else (if (h.1 1 1) < 0 then (X7_add_59 n (X7_add_3 n f) x1 x2 h) else (if (240 : Int32) ≤ (h.1 1 1) then (X7_add_59 n (X7_add_3 n f) x1 x2 h) else (if inB (h.1 1 1) (aln 2) then (X7_add_59 n (X7_add_3 n f) x1 x2 (wI (wI h 2 (h.1 1 1).toNatClampNeg (vp_nar .char ((((x1.toUInt32 >>> (x2.toUInt32 &&& Int32.toUInt32 31)).toInt32) &&& (255 : Int32)).toUInt32 % 65536).toInt32)) 1 1 (((wI h 2 (h.1 1 1).toNatClampNeg (vp_nar .char ((((x1.toUInt32 >>> (x2.toUInt32 &&& Int32.toUInt32 31)).toInt32) &&& (255 : Int32)).toUInt32 % 65536).toInt32)).1 1 1) + (1 : Int32)))) else none)))))
set_option maxRecDepth 100000 in
set_option maxHeartbeats 4000000 in
theorem v_X7_add_3 {X : WX} {G : GX} {o : Mm} {n : Nat} {rv : Unit} {hz : Mm} : ∀ (f : Nat) (x1 : Int32) (x2 : Int32) (h : Mm), X7_add_3 n f x1 x2 h = some (rv, hz) → V X G RX7 cX7_add 4 (none) 1 0 0 (QR X G true o none hz) true o 3 [(0, .ref (xa X 1)), (1, .int x1), (2, .int x2)] [] h := by
  intro f
  induction f with
  | zero => intro x1 x2 h hF; exact nomatch (show (none : Option (Unit × Mm)) = some (rv, hz) from hF)
  | succ f ih =>
    intro x1 x2 h hF
    unfold X7_add_3 at hF
    refine V.iload_n 2 dX7_add_3 rfl rfl ?_
    refine V.if_lt (tgt := 65) dX7_add_4 rfl (fun c => ?_) (fun c => ?_)
    · replace hF := ip c hF
      cases hF
      exact V.vret dX7_add_65
    · replace hF := iq c hF
      refine V.iload_n 1 dX7_add_7 rfl rfl ?_
      refine V.iload_n 2 dX7_add_8 rfl rfl ?_
      refine V.iushr dX7_add_9 ?_
      refine V.sipush (v := 255) dX7_add_10 (by decide) ?_
      refine V.iand dX7_add_13 ?_
      refine V.istore_n [(3, _), (0, _), (1, _), (2, _)] dX7_add_14 rfl (by decide) rfl ?_
      refine V.iload_n 0 dX7_add_15 rfl rfl ?_
      refine V.if_eq (tgt := 59) dX7_add_16 rfl (fun c => ?_) (fun c => ?_)
      · replace hF := ip c hF
        exact V.sub [1, 2, 3] rfl (v_X7_add_59 ih hF)
      · replace hF := iq c hF
        refine V.aload_n 1 dX7_add_19 rfl rfl ?_
        refine V.getI fl_X7_15 sh_1 rfl km_1 dX7_add_20 ?_
        refine V.if_lt (tgt := 59) dX7_add_23 rfl (fun c => ?_) (fun c => ?_)
        · replace hF := ip c hF
          exact V.sub [1, 2, 3] rfl (v_X7_add_59 ih hF)
        · replace hF := iq c hF
          refine V.aload_n 1 dX7_add_26 rfl rfl ?_
          refine V.getI fl_X7_15 sh_1 rfl km_1 dX7_add_27 ?_
          refine V.aload_n 1 dX7_add_30 rfl rfl ?_
          refine V.getR (v := 2) fl_X7_9 sh_1 rfl fx_1_0 (by decide) dX7_add_31 ?_
          refine V.alen (v := 240) sh_2 (by decide) rfl dX7_add_34 ?_
          refine V.icmp_ge (tgt := 59) dX7_add_35 rfl (fun c => ?_) (fun c => ?_)
          · replace hF := ip c hF
            exact V.sub [1, 2, 3] rfl (v_X7_add_59 ih hF)
          · replace hF := iq c hF
            refine V.aload_n 1 dX7_add_38 rfl rfl ?_
            refine V.getR (v := 2) fl_X7_9 sh_1 rfl fx_1_0 (by decide) dX7_add_39 ?_
            refine V.aload_n 1 dX7_add_42 rfl rfl ?_
            refine V.getI fl_X7_15 sh_1 rfl km_1 dX7_add_43 ?_
            refine V.iload_n 0 dX7_add_46 rfl rfl ?_
            refine V.i2c dX7_add_47 ?_
            obtain ⟨hk, hF⟩ := ck hF
            refine V.cast io_2 hk dX7_add_48 ?_
            refine V.aload_n 1 dX7_add_49 rfl rfl ?_
            refine V.dup dX7_add_50 rfl ?_
            refine V.getI fl_X7_15 sh_1 rfl km_1 dX7_add_51 ?_
            refine V.iconst (v := 1) dX7_add_54 rfl ?_
            refine V.iadd dX7_add_55 ?_
            refine V.putI fl_X7_15 rfl (tyX7_ok 1 (by decide)) rfl rfl sh_1 rfl km_1 dX7_add_56 ?_
            exact V.sub [1, 2, 3] rfl (v_X7_add_59 ih hF)
def X7_add (n : Nat) (x1 : Int32) (h : Mm) : Option (Unit × Mm) := (X7_add_3 n n x1 (24 : Int32) h)
set_option maxRecDepth 100000 in
set_option maxHeartbeats 4000000 in
theorem s_X7_add {X : WX} {o : Mm} {n : Nat} {x1 : Int32} {rv : Unit} {hz : Mm} {h : Mm} (hF : X7_add n x1 h = some (rv, hz)) : Sat X yX7_add cX7_add 4 (none) 1 [.ref (xa X 1), .int x1] true o h none hz := by
  unfold X7_add at hF
  refine Sat.mk (own := RX7) rfl (by decide +kernel) (Nat.le_of_ble_eq_true rfl) (fun G => ?_)
  refine V.sub (lv2 := [(0, _), (1, _)]) [0, 1] rfl ?_
  refine V.bipush (v := 24) dX7_add_0 (by decide) ?_
  refine V.istore_n [(2, _), (0, _), (1, _)] dX7_add_2 rfl (by decide) rfl ?_
  exact V.sub [1, 2, 0] rfl (v_X7_add_3 n _ _ _ hF)
/-! MonsterCot$Tape.takesIn -/
theorem dX7_takesIn_0 : decode cX7_takesIn 0 = .ok (.aload_n 0, 1) := by decide +kernel
theorem dX7_takesIn_1 : decode cX7_takesIn 1 = .ok (.getfield 15, 3) := by decide +kernel
theorem dX7_takesIn_4 : decode cX7_takesIn 4 = .ok (.iload_n 1, 1) := by decide +kernel
theorem dX7_takesIn_5 : decode cX7_takesIn 5 = .ok (.invokestatic 19, 3) := by decide +kernel
theorem dX7_takesIn_8 : decode cX7_takesIn 8 = .ok (.iadd, 1) := by decide +kernel
theorem dX7_takesIn_9 : decode cX7_takesIn 9 = .ok (.iload_n 2, 1) := by decide +kernel
theorem dX7_takesIn_10 : decode cX7_takesIn 10 = .ok (.invokestatic 19, 3) := by decide +kernel
theorem dX7_takesIn_13 : decode cX7_takesIn 13 = .ok (.iadd, 1) := by decide +kernel
theorem dX7_takesIn_14 : decode cX7_takesIn 14 = .ok (.iload_n 3, 1) := by decide +kernel
theorem dX7_takesIn_15 : decode cX7_takesIn 15 = .ok (.invokestatic 19, 3) := by decide +kernel
theorem dX7_takesIn_18 : decode cX7_takesIn 18 = .ok (.iadd, 1) := by decide +kernel
theorem dX7_takesIn_19 : decode cX7_takesIn 19 = .ok (.iload 4, 2) := by decide +kernel
theorem dX7_takesIn_21 : decode cX7_takesIn 21 = .ok (.invokestatic 19, 3) := by decide +kernel
theorem dX7_takesIn_24 : decode cX7_takesIn 24 = .ok (.iadd, 1) := by decide +kernel
theorem dX7_takesIn_25 : decode cX7_takesIn 25 = .ok (.iload 5, 2) := by decide +kernel
theorem dX7_takesIn_27 : decode cX7_takesIn 27 = .ok (.invokestatic 19, 3) := by decide +kernel
theorem dX7_takesIn_30 : decode cX7_takesIn 30 = .ok (.iadd, 1) := by decide +kernel
theorem dX7_takesIn_31 : decode cX7_takesIn 31 = .ok (.sipush 240, 3) := by decide +kernel
theorem dX7_takesIn_34 : decode cX7_takesIn 34 = .ok (.if_icmp .le 5, 3) := by decide +kernel
theorem dX7_takesIn_37 : decode cX7_takesIn 37 = .ok (.iconst 0, 1) := by decide +kernel
theorem dX7_takesIn_38 : decode cX7_takesIn 38 = .ok (.ireturn, 1) := by decide +kernel
theorem dX7_takesIn_39 : decode cX7_takesIn 39 = .ok (.aload_n 0, 1) := by decide +kernel
theorem dX7_takesIn_40 : decode cX7_takesIn 40 = .ok (.iload_n 1, 1) := by decide +kernel
theorem dX7_takesIn_41 : decode cX7_takesIn 41 = .ok (.invokevirtual 23, 3) := by decide +kernel
theorem dX7_takesIn_44 : decode cX7_takesIn 44 = .ok (.aload_n 0, 1) := by decide +kernel
theorem dX7_takesIn_45 : decode cX7_takesIn 45 = .ok (.iload_n 2, 1) := by decide +kernel
theorem dX7_takesIn_46 : decode cX7_takesIn 46 = .ok (.invokevirtual 23, 3) := by decide +kernel
theorem dX7_takesIn_49 : decode cX7_takesIn 49 = .ok (.aload_n 0, 1) := by decide +kernel
theorem dX7_takesIn_50 : decode cX7_takesIn 50 = .ok (.iload_n 3, 1) := by decide +kernel
theorem dX7_takesIn_51 : decode cX7_takesIn 51 = .ok (.invokevirtual 23, 3) := by decide +kernel
theorem dX7_takesIn_54 : decode cX7_takesIn 54 = .ok (.aload_n 0, 1) := by decide +kernel
theorem dX7_takesIn_55 : decode cX7_takesIn 55 = .ok (.iload 4, 2) := by decide +kernel
theorem dX7_takesIn_57 : decode cX7_takesIn 57 = .ok (.invokevirtual 23, 3) := by decide +kernel
theorem dX7_takesIn_60 : decode cX7_takesIn 60 = .ok (.aload_n 0, 1) := by decide +kernel
theorem dX7_takesIn_61 : decode cX7_takesIn 61 = .ok (.iload 5, 2) := by decide +kernel
theorem dX7_takesIn_63 : decode cX7_takesIn 63 = .ok (.invokevirtual 23, 3) := by decide +kernel
theorem dX7_takesIn_66 : decode cX7_takesIn 66 = .ok (.iconst 1, 1) := by decide +kernel
theorem dX7_takesIn_67 : decode cX7_takesIn 67 = .ok (.ireturn, 1) := by decide +kernel
def X7_takesIn (n : Nat) (x1 : Int32) (x2 : Int32) (x3 : Int32) (x4 : Int32) (x5 : Int32) (h : Mm) : Option (Bool × Mm) := (bp (X7_bytesOf n x1 h) (fun r26 => (bp (X7_bytesOf n x2 h) (fun r28 => (bp (X7_bytesOf n x3 h) (fun r30 => (bp (X7_bytesOf n x4 h) (fun r32 => (bp (X7_bytesOf n x5 h) (fun r34 => (if ((((((h.1 1 1) + r26) + r28) + r30) + r32) + r34) ≤ (240 : Int32) then (bd (X7_add n x1 h) (fun _ h38 => (bd (X7_add n x2 h38) (fun _ h41 => (bd (X7_add n x3 h41) (fun _ h44 => (bd (X7_add n x4 h44) (fun _ h47 => (bd (X7_add n x5 h47) (fun _ h50 => (some (true, h50)))))))))))) else (some (false, h)))))))))))))
set_option maxRecDepth 100000 in
set_option maxHeartbeats 4000000 in
theorem s_X7_takesIn {X : WX} {o : Mm} {n : Nat} {x1 : Int32} {x2 : Int32} {x3 : Int32} {x4 : Int32} {x5 : Int32} {rv : Bool} {hz : Mm} {h : Mm} (hF : X7_takesIn n x1 x2 x3 x4 x5 h = some (rv, hz)) : Sat X yX7_takesIn cX7_takesIn 6 (some .boolean) 2 [.ref (xa X 1), .int x1, .int x2, .int x3, .int x4, .int x5] true o h (some (.int (b2i rv))) hz := by
  unfold X7_takesIn at hF
  refine Sat.mk (own := RX7) rfl (by decide +kernel) (Nat.le_of_ble_eq_true rfl) (fun G => ?_)
  refine V.sub (lv2 := [(0, _), (1, _), (2, _), (3, _), (4, _), (5, _)]) [0, 1, 2, 3, 4, 5] rfl ?_
  refine V.aload_n 0 dX7_takesIn_0 rfl rfl ?_
  refine V.getI fl_X7_15 sh_1 rfl km_1 dX7_takesIn_1 ?_
  refine V.iload_n 1 dX7_takesIn_4 rfl rfl ?_
  obtain ⟨r26, hc27, hF⟩ := bp_s hF
  refine V.callSi mf_X7_bytesOf ml_X7_19 (s_X7_bytesOf hc27) (by decide) rfl rfl (Nat.le_of_ble_eq_true rfl) dX7_takesIn_5 ?_
  refine V.iadd dX7_takesIn_8 ?_
  refine V.iload_n 2 dX7_takesIn_9 rfl rfl ?_
  obtain ⟨r28, hc29, hF⟩ := bp_s hF
  refine V.callSi mf_X7_bytesOf ml_X7_19 (s_X7_bytesOf hc29) (by decide) rfl rfl (Nat.le_of_ble_eq_true rfl) dX7_takesIn_10 ?_
  refine V.iadd dX7_takesIn_13 ?_
  refine V.iload_n 3 dX7_takesIn_14 rfl rfl ?_
  obtain ⟨r30, hc31, hF⟩ := bp_s hF
  refine V.callSi mf_X7_bytesOf ml_X7_19 (s_X7_bytesOf hc31) (by decide) rfl rfl (Nat.le_of_ble_eq_true rfl) dX7_takesIn_15 ?_
  refine V.iadd dX7_takesIn_18 ?_
  refine V.iload 4 dX7_takesIn_19 rfl ?_
  obtain ⟨r32, hc33, hF⟩ := bp_s hF
  refine V.callSi mf_X7_bytesOf ml_X7_19 (s_X7_bytesOf hc33) (by decide) rfl rfl (Nat.le_of_ble_eq_true rfl) dX7_takesIn_21 ?_
  refine V.iadd dX7_takesIn_24 ?_
  refine V.iload 5 dX7_takesIn_25 rfl ?_
  obtain ⟨r34, hc35, hF⟩ := bp_s hF
  refine V.callSi mf_X7_bytesOf ml_X7_19 (s_X7_bytesOf hc35) (by decide) rfl rfl (Nat.le_of_ble_eq_true rfl) dX7_takesIn_27 ?_
  refine V.iadd dX7_takesIn_30 ?_
  refine V.sipush (v := 240) dX7_takesIn_31 (by decide) ?_
  refine V.icmp_le (tgt := 39) dX7_takesIn_34 rfl (fun c => ?_) (fun c => ?_)
  · replace hF := ip c hF
    refine V.aload_n 0 dX7_takesIn_39 rfl rfl ?_
    refine V.iload_n 1 dX7_takesIn_40 rfl rfl ?_
    obtain ⟨r36, h38, hc37, hF⟩ := bd_s hF
    refine V.callVv mf_X7_add ml_X7_23 sh_1 (s_X7_add hc37) (by decide) rfl rfl (Nat.le_of_ble_eq_true rfl) dX7_takesIn_41 ?_
    refine V.aload_n 0 dX7_takesIn_44 rfl rfl ?_
    refine V.iload_n 2 dX7_takesIn_45 rfl rfl ?_
    obtain ⟨r39, h41, hc40, hF⟩ := bd_s hF
    refine V.callVv mf_X7_add ml_X7_23 sh_1 (s_X7_add hc40) (by decide) rfl rfl (Nat.le_of_ble_eq_true rfl) dX7_takesIn_46 ?_
    refine V.aload_n 0 dX7_takesIn_49 rfl rfl ?_
    refine V.iload_n 3 dX7_takesIn_50 rfl rfl ?_
    obtain ⟨r42, h44, hc43, hF⟩ := bd_s hF
    refine V.callVv mf_X7_add ml_X7_23 sh_1 (s_X7_add hc43) (by decide) rfl rfl (Nat.le_of_ble_eq_true rfl) dX7_takesIn_51 ?_
    refine V.aload_n 0 dX7_takesIn_54 rfl rfl ?_
    refine V.iload 4 dX7_takesIn_55 rfl ?_
    obtain ⟨r45, h47, hc46, hF⟩ := bd_s hF
    refine V.callVv mf_X7_add ml_X7_23 sh_1 (s_X7_add hc46) (by decide) rfl rfl (Nat.le_of_ble_eq_true rfl) dX7_takesIn_57 ?_
    refine V.aload_n 0 dX7_takesIn_60 rfl rfl ?_
    refine V.iload 5 dX7_takesIn_61 rfl ?_
    obtain ⟨r48, h50, hc49, hF⟩ := bd_s hF
    refine V.callVv mf_X7_add ml_X7_23 sh_1 (s_X7_add hc49) (by decide) rfl rfl (Nat.le_of_ble_eq_true rfl) dX7_takesIn_63 ?_
    refine V.iconst (v := 1) dX7_takesIn_66 rfl ?_
    cases hF
    exact V.bret dX7_takesIn_67
  · replace hF := iq c hF
    refine V.iconst (v := 0) dX7_takesIn_37 rfl ?_
    cases hF
    exact V.bret dX7_takesIn_38
/-! MonsterCot.feed -/
theorem dX11_feed_0 : decode cX11_feed 0 = .ok (.aload_n 0, 1) := by decide +kernel
theorem dX11_feed_1 : decode cX11_feed 1 = .ok (.getfield 10, 3) := by decide +kernel
theorem dX11_feed_4 : decode cX11_feed 4 = .ok (.iload_n 1, 1) := by decide +kernel
theorem dX11_feed_5 : decode cX11_feed 5 = .ok (.iload_n 2, 1) := by decide +kernel
theorem dX11_feed_6 : decode cX11_feed 6 = .ok (.iload_n 3, 1) := by decide +kernel
theorem dX11_feed_7 : decode cX11_feed 7 = .ok (.iload 4, 2) := by decide +kernel
theorem dX11_feed_9 : decode cX11_feed 9 = .ok (.iload 5, 2) := by decide +kernel
theorem dX11_feed_11 : decode cX11_feed 11 = .ok (.invokevirtual 95, 3) := by decide +kernel
theorem dX11_feed_14 : decode cX11_feed 14 = .ok (.ifCond .eq 13, 3) := by decide +kernel
theorem dX11_feed_17 : decode cX11_feed 17 = .ok (.aload_n 0, 1) := by decide +kernel
theorem dX11_feed_18 : decode cX11_feed 18 = .ok (.getfield 10, 3) := by decide +kernel
theorem dX11_feed_21 : decode cX11_feed 21 = .ok (.getfield 99, 3) := by decide +kernel
theorem dX11_feed_24 : decode cX11_feed 24 = .ok (.goto 4, 3) := by decide +kernel
theorem dX11_feed_27 : decode cX11_feed 27 = .ok (.iconst (-1), 1) := by decide +kernel
theorem dX11_feed_28 : decode cX11_feed 28 = .ok (.ireturn, 1) := by decide +kernel
def X11_feed (n : Nat) (x1 : Int32) (x2 : Int32) (x3 : Int32) (x4 : Int32) (x5 : Int32) (h : Mm) : Option (Int32 × Mm) := (bd (X7_takesIn n x1 x2 x3 x4 x5 h) (fun r4 h6 => (if r4 = true then (some ((h6.1 1 1), h6)) else (some ((-1 : Int32), h6)))))
set_option maxRecDepth 100000 in
set_option maxHeartbeats 4000000 in
theorem s_X11_feed {X : WX} {o : Mm} {n : Nat} {x1 : Int32} {x2 : Int32} {x3 : Int32} {x4 : Int32} {x5 : Int32} {rv : Int32} {hz : Mm} {h : Mm} (hF : X11_feed n x1 x2 x3 x4 x5 h = some (rv, hz)) : Sat X yX11_feed cX11_feed 6 (some .int) 3 [.ref (xa X 0), .int x1, .int x2, .int x3, .int x4, .int x5] true o h (some (.int rv)) hz := by
  unfold X11_feed at hF
  refine Sat.mk (own := RX11) rfl (by decide +kernel) (Nat.le_of_ble_eq_true rfl) (fun G => ?_)
  refine V.sub (lv2 := [(0, _), (1, _), (2, _), (3, _), (4, _), (5, _)]) [0, 1, 2, 3, 4, 5] rfl ?_
  refine V.aload_n 0 dX11_feed_0 rfl rfl ?_
  refine V.getR (v := 1) fl_X11_10 sh_0 rfl fx_0_0 (by decide) dX11_feed_1 ?_
  refine V.iload_n 1 dX11_feed_4 rfl rfl ?_
  refine V.iload_n 2 dX11_feed_5 rfl rfl ?_
  refine V.iload_n 3 dX11_feed_6 rfl rfl ?_
  refine V.iload 4 dX11_feed_7 rfl ?_
  refine V.iload 5 dX11_feed_9 rfl ?_
  obtain ⟨r4, h6, hc5, hF⟩ := bd_s hF
  refine V.callVi mf_X7_takesIn ml_X11_95 sh_1 (s_X7_takesIn hc5) (by decide) rfl rfl (Nat.le_of_ble_eq_true rfl) dX11_feed_11 ?_
  refine V.ifz_eq (tgt := 27) dX11_feed_14 rfl (fun c => ?_) (fun c => ?_)
  · replace hF := iq c hF
    refine V.iconst (v := -1) dX11_feed_27 rfl ?_
    cases hF
    exact V.iret dX11_feed_28
  · replace hF := ip c hF
    refine V.aload_n 0 dX11_feed_17 rfl rfl ?_
    refine V.getR (v := 1) fl_X11_10 sh_0 rfl fx_0_0 (by decide) dX11_feed_18 ?_
    refine V.getI fl_X11_99 sh_1 rfl km_1 dX11_feed_21 ?_
    refine V.goto (tgt := 28) dX11_feed_24 rfl ?_
    cases hF
    exact V.iret dX11_feed_28
/-! MonsterCot$Tape.cutTo -/
theorem dX7_cutTo_0 : decode cX7_cutTo 0 = .ok (.iload_n 1, 1) := by decide +kernel
theorem dX7_cutTo_1 : decode cX7_cutTo 1 = .ok (.ifCond .lt 11, 3) := by decide +kernel
theorem dX7_cutTo_4 : decode cX7_cutTo 4 = .ok (.iload_n 1, 1) := by decide +kernel
theorem dX7_cutTo_5 : decode cX7_cutTo 5 = .ok (.aload_n 0, 1) := by decide +kernel
theorem dX7_cutTo_6 : decode cX7_cutTo 6 = .ok (.getfield 15, 3) := by decide +kernel
theorem dX7_cutTo_9 : decode cX7_cutTo 9 = .ok (.if_icmp .le 5, 3) := by decide +kernel
theorem dX7_cutTo_12 : decode cX7_cutTo 12 = .ok (.iconst 0, 1) := by decide +kernel
theorem dX7_cutTo_13 : decode cX7_cutTo 13 = .ok (.ireturn, 1) := by decide +kernel
theorem dX7_cutTo_14 : decode cX7_cutTo 14 = .ok (.aload_n 0, 1) := by decide +kernel
theorem dX7_cutTo_15 : decode cX7_cutTo 15 = .ok (.iload_n 1, 1) := by decide +kernel
theorem dX7_cutTo_16 : decode cX7_cutTo 16 = .ok (.putfield 15, 3) := by decide +kernel
theorem dX7_cutTo_19 : decode cX7_cutTo 19 = .ok (.iconst 1, 1) := by decide +kernel
theorem dX7_cutTo_20 : decode cX7_cutTo 20 = .ok (.ireturn, 1) := by decide +kernel
def X7_cutTo (x1 : Int32) (h : Mm) : Option (Bool × Mm) := (if x1 < 0 then (some (false, h)) else (if x1 ≤ (h.1 1 1) then (some (true, (wI h 1 1 x1))) else (some (false, h))))
set_option maxRecDepth 100000 in
set_option maxHeartbeats 4000000 in
theorem s_X7_cutTo {X : WX} {o : Mm} {x1 : Int32} {rv : Bool} {hz : Mm} {h : Mm} (hF : X7_cutTo x1 h = some (rv, hz)) : Sat X yX7_cutTo cX7_cutTo 2 (some .boolean) 1 [.ref (xa X 1), .int x1] true o h (some (.int (b2i rv))) hz := by
  unfold X7_cutTo at hF
  refine Sat.mk (own := RX7) rfl (by decide +kernel) (Nat.le_of_ble_eq_true rfl) (fun G => ?_)
  refine V.sub (lv2 := [(0, _), (1, _)]) [0, 1] rfl ?_
  refine V.iload_n 1 dX7_cutTo_0 rfl rfl ?_
  refine V.if_lt (tgt := 12) dX7_cutTo_1 rfl (fun c => ?_) (fun c => ?_)
  · replace hF := ip c hF
    refine V.iconst (v := 0) dX7_cutTo_12 rfl ?_
    cases hF
    exact V.bret dX7_cutTo_13
  · replace hF := iq c hF
    refine V.iload_n 1 dX7_cutTo_4 rfl rfl ?_
    refine V.aload_n 0 dX7_cutTo_5 rfl rfl ?_
    refine V.getI fl_X7_15 sh_1 rfl km_1 dX7_cutTo_6 ?_
    refine V.icmp_le (tgt := 14) dX7_cutTo_9 rfl (fun c => ?_) (fun c => ?_)
    · replace hF := ip c hF
      refine V.aload_n 0 dX7_cutTo_14 rfl rfl ?_
      refine V.iload_n 1 dX7_cutTo_15 rfl rfl ?_
      refine V.putI fl_X7_15 rfl (tyX7_ok 1 (by decide)) rfl rfl sh_1 rfl km_1 dX7_cutTo_16 ?_
      refine V.iconst (v := 1) dX7_cutTo_19 rfl ?_
      cases hF
      exact V.bret dX7_cutTo_20
    · replace hF := iq c hF
      refine V.iconst (v := 0) dX7_cutTo_12 rfl ?_
      cases hF
      exact V.bret dX7_cutTo_13
/-! MonsterCot.end -/
theorem dX11_end_0 : decode cX11_end 0 = .ok (.aload_n 0, 1) := by decide +kernel
theorem dX11_end_1 : decode cX11_end 1 = .ok (.getfield 10, 3) := by decide +kernel
theorem dX11_end_4 : decode cX11_end 4 = .ok (.iload_n 1, 1) := by decide +kernel
theorem dX11_end_5 : decode cX11_end 5 = .ok (.invokevirtual 103, 3) := by decide +kernel
theorem dX11_end_8 : decode cX11_end 8 = .ok (.ireturn, 1) := by decide +kernel
def X11_end (x1 : Int32) (h : Mm) : Option (Bool × Mm) := (bd (X7_cutTo x1 h) (fun r4 h6 => (some (r4, h6))))
set_option maxRecDepth 100000 in
set_option maxHeartbeats 4000000 in
theorem s_X11_end {X : WX} {o : Mm} {x1 : Int32} {rv : Bool} {hz : Mm} {h : Mm} (hF : X11_end x1 h = some (rv, hz)) : Sat X yX11_end cX11_end 2 (some .boolean) 2 [.ref (xa X 0), .int x1] true o h (some (.int (b2i rv))) hz := by
  unfold X11_end at hF
  refine Sat.mk (own := RX11) rfl (by decide +kernel) (Nat.le_of_ble_eq_true rfl) (fun G => ?_)
  refine V.sub (lv2 := [(0, _), (1, _)]) [0, 1] rfl ?_
  refine V.aload_n 0 dX11_end_0 rfl rfl ?_
  refine V.getR (v := 1) fl_X11_10 sh_0 rfl fx_0_0 (by decide) dX11_end_1 ?_
  refine V.iload_n 1 dX11_end_4 rfl rfl ?_
  obtain ⟨r4, h6, hc5, hF⟩ := bd_s hF
  refine V.callVi mf_X7_cutTo ml_X11_103 sh_1 (s_X7_cutTo hc5) (by decide) rfl rfl (Nat.le_of_ble_eq_true rfl) dX11_end_5 ?_
  cases hF
  exact V.bret dX11_end_8
/-! MonsterCot.at -/
theorem dX11_at_0 : decode cX11_at 0 = .ok (.iload_n 1, 1) := by decide +kernel
theorem dX11_at_1 : decode cX11_at 1 = .ok (.ifCond .lt 15, 3) := by decide +kernel
theorem dX11_at_4 : decode cX11_at 4 = .ok (.iload_n 1, 1) := by decide +kernel
theorem dX11_at_5 : decode cX11_at 5 = .ok (.aload_n 0, 1) := by decide +kernel
theorem dX11_at_6 : decode cX11_at 6 = .ok (.arraylength, 1) := by decide +kernel
theorem dX11_at_7 : decode cX11_at 7 = .ok (.if_icmp .ge 9, 3) := by decide +kernel
theorem dX11_at_10 : decode cX11_at 10 = .ok (.aload_n 0, 1) := by decide +kernel
theorem dX11_at_11 : decode cX11_at 11 = .ok (.iload_n 1, 1) := by decide +kernel
theorem dX11_at_12 : decode cX11_at 12 = .ok (.iaload, 1) := by decide +kernel
theorem dX11_at_13 : decode cX11_at 13 = .ok (.goto 4, 3) := by decide +kernel
theorem dX11_at_16 : decode cX11_at 16 = .ok (.iconst 0, 1) := by decide +kernel
theorem dX11_at_17 : decode cX11_at 17 = .ok (.ireturn, 1) := by decide +kernel
def X11_at (a0 : Nat) (x1 : Int32) (h : Mm) : Option Int32 := (if x1 < 0 then (some (0 : Int32)) else (if (Int32.ofNat (aln a0)) ≤ x1 then (some (0 : Int32)) else (if inB x1 (aln a0) then (some (rdA h a0 x1.toNatClampNeg)) else none)))
set_option maxRecDepth 100000 in
set_option maxHeartbeats 4000000 in
theorem s_X11_at {X : WX} {o : Mm} {a0 : Nat} {x1 : Int32} {rv : Int32} {h : Mm} (ha0 : isI true a0) (hF : X11_at a0 x1 h = some rv) : Sat X yX11_at cX11_at 2 (some .int) 1 [.ref (xa X a0), .int x1] true o h (some (.int rv)) h := by
  unfold X11_at at hF
  refine Sat.mk (own := RX11) rfl (by decide +kernel) (Nat.le_of_ble_eq_true rfl) (fun G => ?_)
  refine V.sub (lv2 := [(0, _), (1, _)]) [0, 1] rfl ?_
  refine V.iload_n 1 dX11_at_0 rfl rfl ?_
  refine V.if_lt (tgt := 16) dX11_at_1 rfl (fun c => ?_) (fun c => ?_)
  · replace hF := ip c hF
    refine V.iconst (v := 0) dX11_at_16 rfl ?_
    cases hF
    exact V.iret dX11_at_17
  · replace hF := iq c hF
    refine V.iload_n 1 dX11_at_4 rfl rfl ?_
    refine V.aload_n 0 dX11_at_5 rfl rfl ?_
    refine V.alenA ha0 dX11_at_6 ?_
    refine V.icmp_ge (tgt := 16) dX11_at_7 rfl (fun c => ?_) (fun c => ?_)
    · replace hF := ip c hF
      refine V.iconst (v := 0) dX11_at_16 rfl ?_
      cases hF
      exact V.iret dX11_at_17
    · replace hF := iq c hF
      refine V.aload_n 0 dX11_at_10 rfl rfl ?_
      refine V.iload_n 1 dX11_at_11 rfl rfl ?_
      obtain ⟨hk, hF⟩ := ck hF
      refine V.ialdA ha0 hk dX11_at_12 ?_
      refine V.goto (tgt := 17) dX11_at_13 rfl ?_
      cases hF
      exact V.iret dX11_at_17
/-! MonsterCot.put -/
theorem dX11_put_0 : decode cX11_put 0 = .ok (.iload_n 1, 1) := by decide +kernel
theorem dX11_put_1 : decode cX11_put 1 = .ok (.ifCond .lt 13, 3) := by decide +kernel
theorem dX11_put_4 : decode cX11_put 4 = .ok (.iload_n 1, 1) := by decide +kernel
theorem dX11_put_5 : decode cX11_put 5 = .ok (.aload_n 0, 1) := by decide +kernel
theorem dX11_put_6 : decode cX11_put 6 = .ok (.arraylength, 1) := by decide +kernel
theorem dX11_put_7 : decode cX11_put 7 = .ok (.if_icmp .ge 7, 3) := by decide +kernel
theorem dX11_put_10 : decode cX11_put 10 = .ok (.aload_n 0, 1) := by decide +kernel
theorem dX11_put_11 : decode cX11_put 11 = .ok (.iload_n 1, 1) := by decide +kernel
theorem dX11_put_12 : decode cX11_put 12 = .ok (.iload_n 2, 1) := by decide +kernel
theorem dX11_put_13 : decode cX11_put 13 = .ok (.iastore, 1) := by decide +kernel
theorem dX11_put_14 : decode cX11_put 14 = .ok (.return_, 1) := by decide +kernel
def X11_put (a0 : Nat) (x1 : Int32) (x2 : Int32) (h : Mm) : Option (Unit × Mm) := (if x1 < 0 then (some ((), h)) else (if (Int32.ofNat (aln a0)) ≤ x1 then (some ((), h)) else (if inB x1 (aln a0) then (some ((), (wI h a0 x1.toNatClampNeg x2))) else none)))
set_option maxRecDepth 100000 in
set_option maxHeartbeats 4000000 in
theorem s_X11_put {X : WX} {o : Mm} {a0 : Nat} {x1 : Int32} {x2 : Int32} {rv : Unit} {hz : Mm} {h : Mm} (ha0 : isO true 0 a0) (hF : X11_put a0 x1 x2 h = some (rv, hz)) : Sat X yX11_put cX11_put 3 (none) 1 [.ref (xa X a0), .int x1, .int x2] true o h none hz := by
  unfold X11_put at hF
  refine Sat.mk (own := RX11) rfl (by decide +kernel) (Nat.le_of_ble_eq_true rfl) (fun G => ?_)
  refine V.sub (lv2 := [(0, _), (1, _), (2, _)]) [0, 1, 2] rfl ?_
  refine V.iload_n 1 dX11_put_0 rfl rfl ?_
  refine V.if_lt (tgt := 14) dX11_put_1 rfl (fun c => ?_) (fun c => ?_)
  · replace hF := ip c hF
    cases hF
    exact V.vret dX11_put_14
  · replace hF := iq c hF
    refine V.iload_n 1 dX11_put_4 rfl rfl ?_
    refine V.aload_n 0 dX11_put_5 rfl rfl ?_
    refine V.alen ha0.1 (by decide) rfl dX11_put_6 ?_
    refine V.icmp_ge (tgt := 14) dX11_put_7 rfl (fun c => ?_) (fun c => ?_)
    · replace hF := ip c hF
      cases hF
      exact V.vret dX11_put_14
    · replace hF := iq c hF
      refine V.aload_n 0 dX11_put_10 rfl rfl ?_
      refine V.iload_n 1 dX11_put_11 rfl rfl ?_
      refine V.iload_n 2 dX11_put_12 rfl rfl ?_
      obtain ⟨hk, hF⟩ := ck hF
      refine V.iast ha0 hk dX11_put_13 ?_
      cases hF
      exact V.vret dX11_put_14
/-! MonsterCot$Land.tell -/
theorem dX1_tell_0 : decode cX1_tell 0 = .ok (.aload_n 0, 1) := by decide +kernel
theorem dX1_tell_1 : decode cX1_tell 1 = .ok (.getfield 15, 3) := by decide +kernel
theorem dX1_tell_4 : decode cX1_tell 4 = .ok (.getstatic 46, 3) := by decide +kernel
theorem dX1_tell_7 : decode cX1_tell 7 = .ok (.iload_n 1, 1) := by decide +kernel
theorem dX1_tell_8 : decode cX1_tell 8 = .ok (.invokestatic 31, 3) := by decide +kernel
theorem dX1_tell_11 : decode cX1_tell 11 = .ok (.iload_n 2, 1) := by decide +kernel
theorem dX1_tell_12 : decode cX1_tell 12 = .ok (.iconst 3, 1) := by decide +kernel
theorem dX1_tell_13 : decode cX1_tell 13 = .ok (.imul, 1) := by decide +kernel
theorem dX1_tell_14 : decode cX1_tell 14 = .ok (.iadd, 1) := by decide +kernel
theorem dX1_tell_15 : decode cX1_tell 15 = .ok (.iload_n 3, 1) := by decide +kernel
theorem dX1_tell_16 : decode cX1_tell 16 = .ok (.iadd, 1) := by decide +kernel
theorem dX1_tell_17 : decode cX1_tell 17 = .ok (.iload 4, 2) := by decide +kernel
theorem dX1_tell_19 : decode cX1_tell 19 = .ok (.invokestatic 42, 3) := by decide +kernel
theorem dX1_tell_22 : decode cX1_tell 22 = .ok (.return_, 1) := by decide +kernel
def X1_tell (a0 : Nat) (x1 : Int32) (x2 : Int32) (x3 : Int32) (x4 : Int32) (h : Mm) : Option (Unit × Mm) := (bp (X11_at 1001 x1 h) (fun r6 => (bd (X11_put (a0 + 2) ((r6 + (x2 * (3 : Int32))) + x3) x4 h) (fun _ h10 => (some ((), h10))))))
set_option maxRecDepth 100000 in
set_option maxHeartbeats 4000000 in
theorem s_X1_tell {X : WX} {o : Mm} {a0 : Nat} {x1 : Int32} {x2 : Int32} {x3 : Int32} {x4 : Int32} {rv : Unit} {hz : Mm} {h : Mm} (ha0 : isLd a0) (hF : X1_tell a0 x1 x2 x3 x4 h = some (rv, hz)) : Sat X yX1_tell cX1_tell 5 (none) 2 [.ref (xa X a0), .int x1, .int x2, .int x3, .int x4] true o h none hz := by
  unfold X1_tell at hF
  refine Sat.mk (own := RX1) rfl (by decide +kernel) (Nat.le_of_ble_eq_true rfl) (fun G => ?_)
  refine V.sub (lv2 := [(0, _), (1, _), (2, _), (3, _), (4, _)]) [0, 1, 2, 3, 4] rfl ?_
  refine V.aload_n 0 dX1_tell_0 rfl rfl ?_
  refine V.getR (v := a0 + 2) fl_X1_15 ha0.sh rfl ha0.fx1 (by have := ha0.lt; omega) dX1_tell_1 ?_
  refine V.gets zm_1001 sl_X1_46 dX1_tell_4 ?_
  refine V.iload_n 1 dX1_tell_7 rfl rfl ?_
  obtain ⟨r6, hc7, hF⟩ := bp_s hF
  refine V.callNi mf_X11_at ml_X1_31 (s_X11_at (Or.inr ⟨by decide, by decide⟩) hc7) (by decide) rfl rfl (Nat.le_of_ble_eq_true rfl) dX1_tell_8 ?_
  refine V.iload_n 2 dX1_tell_11 rfl rfl ?_
  refine V.iconst (v := 3) dX1_tell_12 rfl ?_
  refine V.imul dX1_tell_13 ?_
  refine V.iadd dX1_tell_14 ?_
  refine V.iload_n 3 dX1_tell_15 rfl rfl ?_
  refine V.iadd dX1_tell_16 ?_
  refine V.iload 4 dX1_tell_17 rfl ?_
  obtain ⟨r8, h10, hc9, hF⟩ := bd_s hF
  refine V.callNv mf_X11_put ml_X1_42 (s_X11_put ha0.a1 hc9) (by decide) rfl rfl (Nat.le_of_ble_eq_true rfl) dX1_tell_19 ?_
  cases hF
  exact V.vret dX1_tell_22
/-! MonsterCot$Land.fillUsual -/
theorem dX1_fillUsual_0 : decode cX1_fillUsual 0 = .ok (.iconst 0, 1) := by decide +kernel
theorem dX1_fillUsual_1 : decode cX1_fillUsual 1 = .ok (.istore_n 3, 1) := by decide +kernel
theorem dX1_fillUsual_2 : decode cX1_fillUsual 2 = .ok (.iload_n 3, 1) := by decide +kernel
theorem dX1_fillUsual_3 : decode cX1_fillUsual 3 = .ok (.iconst 3, 1) := by decide +kernel
theorem dX1_fillUsual_4 : decode cX1_fillUsual 4 = .ok (.if_icmp .ge 27, 3) := by decide +kernel
theorem dX1_fillUsual_7 : decode cX1_fillUsual 7 = .ok (.aload_n 0, 1) := by decide +kernel
theorem dX1_fillUsual_8 : decode cX1_fillUsual 8 = .ok (.iload_n 1, 1) := by decide +kernel
theorem dX1_fillUsual_9 : decode cX1_fillUsual 9 = .ok (.iload_n 2, 1) := by decide +kernel
theorem dX1_fillUsual_10 : decode cX1_fillUsual 10 = .ok (.iload_n 3, 1) := by decide +kernel
theorem dX1_fillUsual_11 : decode cX1_fillUsual 11 = .ok (.getstatic 28, 3) := by decide +kernel
theorem dX1_fillUsual_14 : decode cX1_fillUsual 14 = .ok (.iload_n 1, 1) := by decide +kernel
theorem dX1_fillUsual_15 : decode cX1_fillUsual 15 = .ok (.iconst 3, 1) := by decide +kernel
theorem dX1_fillUsual_16 : decode cX1_fillUsual 16 = .ok (.imul, 1) := by decide +kernel
theorem dX1_fillUsual_17 : decode cX1_fillUsual 17 = .ok (.iload_n 3, 1) := by decide +kernel
theorem dX1_fillUsual_18 : decode cX1_fillUsual 18 = .ok (.iadd, 1) := by decide +kernel
theorem dX1_fillUsual_19 : decode cX1_fillUsual 19 = .ok (.invokestatic 31, 3) := by decide +kernel
theorem dX1_fillUsual_22 : decode cX1_fillUsual 22 = .ok (.invokevirtual 35, 3) := by decide +kernel
theorem dX1_fillUsual_25 : decode cX1_fillUsual 25 = .ok (.iinc 3 1, 3) := by decide +kernel
theorem dX1_fillUsual_28 : decode cX1_fillUsual 28 = .ok (.goto (-26), 3) := by decide +kernel
theorem dX1_fillUsual_31 : decode cX1_fillUsual 31 = .ok (.return_, 1) := by decide +kernel
def X1_fillUsual_2 (n : Nat) (a0 : Nat) : Nat → Int32 → Int32 → Int32 → Mm → Option (Unit × Mm)
  | 0, _, _, _, _ => none
  | f + 1, x1, x2, x3, h => (if (3 : Int32) ≤ x3 then (some ((), h)) else (bp (X11_at 1003 ((x1 * (3 : Int32)) + x3) h) (fun r11 => (bd (X1_tell a0 x1 x2 x3 r11 h) (fun _ h15 => ((X1_fillUsual_2 n a0 f) x1 x2 (x3 + (1)) h15))))))
set_option maxRecDepth 100000 in
set_option maxHeartbeats 4000000 in
theorem v_X1_fillUsual_2 {X : WX} {G : GX} {o : Mm} {n : Nat} {a0 : Nat} {rv : Unit} {hz : Mm} (ha0 : isLd a0) : ∀ (f : Nat) (x1 : Int32) (x2 : Int32) (x3 : Int32) (h : Mm), X1_fillUsual_2 n a0 f x1 x2 x3 h = some (rv, hz) → V X G RX1 cX1_fillUsual 4 (none) 3 0 0 (QR X G true o none hz) true o 2 [(0, .ref (xa X a0)), (1, .int x1), (2, .int x2), (3, .int x3)] [] h := by
  intro f
  induction f with
  | zero => intro x1 x2 x3 h hF; exact nomatch (show (none : Option (Unit × Mm)) = some (rv, hz) from hF)
  | succ f ih =>
    intro x1 x2 x3 h hF
    unfold X1_fillUsual_2 at hF
    refine V.iload_n 3 dX1_fillUsual_2 rfl rfl ?_
    refine V.iconst (v := 3) dX1_fillUsual_3 rfl ?_
    refine V.icmp_ge (tgt := 31) dX1_fillUsual_4 rfl (fun c => ?_) (fun c => ?_)
    · replace hF := ip c hF
      cases hF
      exact V.vret dX1_fillUsual_31
    · replace hF := iq c hF
      refine V.aload_n 0 dX1_fillUsual_7 rfl rfl ?_
      refine V.iload_n 1 dX1_fillUsual_8 rfl rfl ?_
      refine V.iload_n 2 dX1_fillUsual_9 rfl rfl ?_
      refine V.iload_n 3 dX1_fillUsual_10 rfl rfl ?_
      refine V.gets zm_1003 sl_X1_28 dX1_fillUsual_11 ?_
      refine V.iload_n 1 dX1_fillUsual_14 rfl rfl ?_
      refine V.iconst (v := 3) dX1_fillUsual_15 rfl ?_
      refine V.imul dX1_fillUsual_16 ?_
      refine V.iload_n 3 dX1_fillUsual_17 rfl rfl ?_
      refine V.iadd dX1_fillUsual_18 ?_
      obtain ⟨r11, hc12, hF⟩ := bp_s hF
      refine V.callNi mf_X11_at ml_X1_31 (s_X11_at (Or.inr ⟨by decide, by decide⟩) hc12) (by decide) rfl rfl (Nat.le_of_ble_eq_true rfl) dX1_fillUsual_19 ?_
      obtain ⟨r13, h15, hc14, hF⟩ := bd_s hF
      refine V.callVv mf_X1_tell ml_X1_35 ha0.sh (s_X1_tell ha0 hc14) (by decide) rfl rfl (Nat.le_of_ble_eq_true rfl) dX1_fillUsual_22 ?_
      refine V.iinc (v := (x3 + (1))) 3 [(3, _), (0, _), (1, _), (2, _)] dX1_fillUsual_25 rfl rfl (by decide) rfl ?_
      refine V.goto (tgt := 2) dX1_fillUsual_28 rfl ?_
      exact V.sub [1, 2, 3, 0] rfl (ih _ _ _ _ hF)
def X1_fillUsual (n : Nat) (a0 : Nat) (x1 : Int32) (x2 : Int32) (h : Mm) : Option (Unit × Mm) := (X1_fillUsual_2 n a0 n x1 x2 (0 : Int32) h)
set_option maxRecDepth 100000 in
set_option maxHeartbeats 4000000 in
theorem s_X1_fillUsual {X : WX} {o : Mm} {n : Nat} {a0 : Nat} {x1 : Int32} {x2 : Int32} {rv : Unit} {hz : Mm} {h : Mm} (ha0 : isLd a0) (hF : X1_fillUsual n a0 x1 x2 h = some (rv, hz)) : Sat X yX1_fillUsual cX1_fillUsual 4 (none) 3 [.ref (xa X a0), .int x1, .int x2] true o h none hz := by
  unfold X1_fillUsual at hF
  refine Sat.mk (own := RX1) rfl (by decide +kernel) (Nat.le_of_ble_eq_true rfl) (fun G => ?_)
  refine V.sub (lv2 := [(0, _), (1, _), (2, _)]) [0, 1, 2] rfl ?_
  refine V.iconst (v := 0) dX1_fillUsual_0 rfl ?_
  refine V.istore_n [(3, _), (0, _), (1, _), (2, _)] dX1_fillUsual_1 rfl (by decide) rfl ?_
  exact V.sub [1, 2, 3, 0] rfl (v_X1_fillUsual_2 ha0 n _ _ _ _ hF)
/-! MonsterCot$Land.clear -/
theorem dX1_clear_0 : decode cX1_clear 0 = .ok (.aload_n 0, 1) := by decide +kernel
theorem dX1_clear_1 : decode cX1_clear 1 = .ok (.getfield 9, 3) := by decide +kernel
theorem dX1_clear_4 : decode cX1_clear 4 = .ok (.iconst 0, 1) := by decide +kernel
theorem dX1_clear_5 : decode cX1_clear 5 = .ok (.invokestatic 18, 3) := by decide +kernel
theorem dX1_clear_8 : decode cX1_clear 8 = .ok (.aload_n 0, 1) := by decide +kernel
theorem dX1_clear_9 : decode cX1_clear 9 = .ok (.iconst 0, 1) := by decide +kernel
theorem dX1_clear_10 : decode cX1_clear 10 = .ok (.iconst 0, 1) := by decide +kernel
theorem dX1_clear_11 : decode cX1_clear 11 = .ok (.invokevirtual 24, 3) := by decide +kernel
theorem dX1_clear_14 : decode cX1_clear 14 = .ok (.return_, 1) := by decide +kernel
def X1_clear (n : Nat) (a0 : Nat) (h : Mm) : Option (Unit × Mm) := (bd (J7_fill_53178 n (a0 + 1) (0 : Int32) h) (fun _ h9 => (bd (X1_fillUsual n a0 (0 : Int32) (0 : Int32) h9) (fun _ h12 => (some ((), h12))))))
set_option maxRecDepth 100000 in
set_option maxHeartbeats 4000000 in
theorem s_X1_clear {X : WX} {o : Mm} {n : Nat} {a0 : Nat} {rv : Unit} {hz : Mm} {h : Mm} (ha0 : isLd a0) (hF : X1_clear n a0 h = some (rv, hz)) : Sat X yX1_clear cX1_clear 1 (none) 4 [.ref (xa X a0)] true o h none hz := by
  unfold X1_clear at hF
  refine Sat.mk (own := RX1) rfl (by decide +kernel) (Nat.le_of_ble_eq_true rfl) (fun G => ?_)
  refine V.sub (lv2 := [(0, _)]) [0] rfl ?_
  refine V.aload_n 0 dX1_clear_0 rfl rfl ?_
  refine V.getR (v := a0 + 1) fl_X1_9 ha0.sh rfl ha0.fx0 (by have := ha0.lt; omega) dX1_clear_1 ?_
  refine V.iconst (v := 0) dX1_clear_4 rfl ?_
  obtain ⟨r7, h9, hc8, hF⟩ := bd_s hF
  refine V.callSv mf_J7_fill_53178 ml_X1_18 (s_J7_fill_53178 ha0.a0 hc8) (by decide) rfl rfl (Nat.le_of_ble_eq_true rfl) dX1_clear_5 ?_
  refine V.aload_n 0 dX1_clear_8 rfl rfl ?_
  refine V.iconst (v := 0) dX1_clear_9 rfl ?_
  refine V.iconst (v := 0) dX1_clear_10 rfl ?_
  obtain ⟨r10, h12, hc11, hF⟩ := bd_s hF
  refine V.callVv mf_X1_fillUsual ml_X1_24 ha0.sh (s_X1_fillUsual ha0 hc11) (by decide) rfl rfl (Nat.le_of_ble_eq_true rfl) dX1_clear_11 ?_
  cases hF
  exact V.vret dX1_clear_14
/-! MonsterCot$Tape.sign -/
theorem dX7_sign_0 : decode cX7_sign 0 = .ok (.aload_n 0, 1) := by decide +kernel
theorem dX7_sign_1 : decode cX7_sign 1 = .ok (.getfield 27, 3) := by decide +kernel
theorem dX7_sign_4 : decode cX7_sign 4 = .ok (.istore_n 1, 1) := by decide +kernel
theorem dX7_sign_5 : decode cX7_sign 5 = .ok (.iload_n 1, 1) := by decide +kernel
theorem dX7_sign_6 : decode cX7_sign 6 = .ok (.ifCond .lt 49, 3) := by decide +kernel
theorem dX7_sign_9 : decode cX7_sign 9 = .ok (.iload_n 1, 1) := by decide +kernel
theorem dX7_sign_10 : decode cX7_sign 10 = .ok (.aload_n 0, 1) := by decide +kernel
theorem dX7_sign_11 : decode cX7_sign 11 = .ok (.getfield 15, 3) := by decide +kernel
theorem dX7_sign_14 : decode cX7_sign 14 = .ok (.if_icmp .ge 41, 3) := by decide +kernel
theorem dX7_sign_17 : decode cX7_sign 17 = .ok (.iload_n 1, 1) := by decide +kernel
theorem dX7_sign_18 : decode cX7_sign 18 = .ok (.aload_n 0, 1) := by decide +kernel
theorem dX7_sign_19 : decode cX7_sign 19 = .ok (.getfield 9, 3) := by decide +kernel
theorem dX7_sign_22 : decode cX7_sign 22 = .ok (.arraylength, 1) := by decide +kernel
theorem dX7_sign_23 : decode cX7_sign 23 = .ok (.if_icmp .ge 32, 3) := by decide +kernel
theorem dX7_sign_26 : decode cX7_sign 26 = .ok (.aload_n 0, 1) := by decide +kernel
theorem dX7_sign_27 : decode cX7_sign 27 = .ok (.iload_n 1, 1) := by decide +kernel
theorem dX7_sign_28 : decode cX7_sign 28 = .ok (.putfield 27, 3) := by decide +kernel
theorem dX7_sign_31 : decode cX7_sign 31 = .ok (.aload_n 0, 1) := by decide +kernel
theorem dX7_sign_32 : decode cX7_sign 32 = .ok (.getfield 9, 3) := by decide +kernel
theorem dX7_sign_35 : decode cX7_sign 35 = .ok (.iload_n 1, 1) := by decide +kernel
theorem dX7_sign_36 : decode cX7_sign 36 = .ok (.caload, 1) := by decide +kernel
theorem dX7_sign_37 : decode cX7_sign 37 = .ok (.bipush 32, 2) := by decide +kernel
theorem dX7_sign_39 : decode cX7_sign 39 = .ok (.if_icmp .eq 10, 3) := by decide +kernel
theorem dX7_sign_42 : decode cX7_sign 42 = .ok (.aload_n 0, 1) := by decide +kernel
theorem dX7_sign_43 : decode cX7_sign 43 = .ok (.getfield 9, 3) := by decide +kernel
theorem dX7_sign_46 : decode cX7_sign 46 = .ok (.iload_n 1, 1) := by decide +kernel
theorem dX7_sign_47 : decode cX7_sign 47 = .ok (.caload, 1) := by decide +kernel
theorem dX7_sign_48 : decode cX7_sign 48 = .ok (.ireturn, 1) := by decide +kernel
theorem dX7_sign_49 : decode cX7_sign 49 = .ok (.iinc 1 1, 3) := by decide +kernel
theorem dX7_sign_52 : decode cX7_sign 52 = .ok (.goto (-47), 3) := by decide +kernel
theorem dX7_sign_55 : decode cX7_sign 55 = .ok (.aload_n 0, 1) := by decide +kernel
theorem dX7_sign_56 : decode cX7_sign 56 = .ok (.aload_n 0, 1) := by decide +kernel
theorem dX7_sign_57 : decode cX7_sign 57 = .ok (.getfield 15, 3) := by decide +kernel
theorem dX7_sign_60 : decode cX7_sign 60 = .ok (.putfield 27, 3) := by decide +kernel
theorem dX7_sign_63 : decode cX7_sign 63 = .ok (.iconst 0, 1) := by decide +kernel
theorem dX7_sign_64 : decode cX7_sign 64 = .ok (.ireturn, 1) := by decide +kernel
def X7_sign_55 (n : Nat) (h : Mm) : Option (Int32 × Mm) := (some ((0 : Int32), (wI h 1 2 (h.1 1 1))))
set_option maxRecDepth 100000 in
set_option maxHeartbeats 4000000 in
theorem v_X7_sign_55 {X : WX} {G : GX} {o : Mm} {n : Nat} {rv : Int32} {hz : Mm} {h : Mm} (hF : X7_sign_55 n h = some (rv, hz)) : V X G RX7 cX7_sign 2 (some .char) 1 0 0 (QR X G true o (some (.int rv)) hz) true o 55 [(0, .ref (xa X 1))] [] h := by
  unfold X7_sign_55 at hF
  refine V.aload_n 0 dX7_sign_55 rfl rfl ?_
  refine V.aload_n 0 dX7_sign_56 rfl rfl ?_
  refine V.getI fl_X7_15 sh_1 rfl km_1 dX7_sign_57 ?_
  refine V.putI fl_X7_27 rfl (tyX7_ok 2 (by decide)) rfl rfl sh_1 rfl km_1 dX7_sign_60 ?_
  refine V.iconst (v := 0) dX7_sign_63 rfl ?_
  cases hF
  exact V.zret (by decide) dX7_sign_64
def X7_sign_5 (n : Nat) : Nat → Int32 → Mm → Option (Int32 × Mm)
  | 0, _, _ => none
  | f + 1, x1, h => (if x1 < 0 then (X7_sign_55 n h) else (if (h.1 1 1) ≤ x1 then (X7_sign_55 n h) else (if (240 : Int32) ≤ x1 then (X7_sign_55 n h) else (if inB x1 (aln 2) then (if ((wI h 1 2 x1).1 2 x1.toNatClampNeg) = (32 : Int32) then ((X7_sign_5 n f) (x1 + (1)) (wI h 1 2 x1)) else (if inB x1 (aln 2) then (if vp_nar .char ((wI h 1 2 x1).1 2 x1.toNatClampNeg) = ((wI h 1 2 x1).1 2 x1.toNatClampNeg) then (some (((wI h 1 2 x1).1 2 x1.toNatClampNeg), (wI h 1 2 x1))) else none) else none)) else none))))
set_option maxRecDepth 100000 in
set_option maxHeartbeats 4000000 in
theorem v_X7_sign_5 {X : WX} {G : GX} {o : Mm} {n : Nat} {rv : Int32} {hz : Mm} : ∀ (f : Nat) (x1 : Int32) (h : Mm), X7_sign_5 n f x1 h = some (rv, hz) → V X G RX7 cX7_sign 2 (some .char) 1 0 0 (QR X G true o (some (.int rv)) hz) true o 5 [(0, .ref (xa X 1)), (1, .int x1)] [] h := by
  intro f
  induction f with
  | zero => intro x1 h hF; exact nomatch (show (none : Option (Int32 × Mm)) = some (rv, hz) from hF)
  | succ f ih =>
    intro x1 h hF
    unfold X7_sign_5 at hF
    refine V.iload_n 1 dX7_sign_5 rfl rfl ?_
    refine V.if_lt (tgt := 55) dX7_sign_6 rfl (fun c => ?_) (fun c => ?_)
    · replace hF := ip c hF
      exact V.sub [0] rfl (v_X7_sign_55 hF)
    · replace hF := iq c hF
      refine V.iload_n 1 dX7_sign_9 rfl rfl ?_
      refine V.aload_n 0 dX7_sign_10 rfl rfl ?_
      refine V.getI fl_X7_15 sh_1 rfl km_1 dX7_sign_11 ?_
      refine V.icmp_ge (tgt := 55) dX7_sign_14 rfl (fun c => ?_) (fun c => ?_)
      · replace hF := ip c hF
        exact V.sub [0] rfl (v_X7_sign_55 hF)
      · replace hF := iq c hF
        refine V.iload_n 1 dX7_sign_17 rfl rfl ?_
        refine V.aload_n 0 dX7_sign_18 rfl rfl ?_
        refine V.getR (v := 2) fl_X7_9 sh_1 rfl fx_1_0 (by decide) dX7_sign_19 ?_
        refine V.alen (v := 240) sh_2 (by decide) rfl dX7_sign_22 ?_
        refine V.icmp_ge (tgt := 55) dX7_sign_23 rfl (fun c => ?_) (fun c => ?_)
        · replace hF := ip c hF
          exact V.sub [0] rfl (v_X7_sign_55 hF)
        · replace hF := iq c hF
          refine V.aload_n 0 dX7_sign_26 rfl rfl ?_
          refine V.iload_n 1 dX7_sign_27 rfl rfl ?_
          refine V.putI fl_X7_27 rfl (tyX7_ok 2 (by decide)) rfl rfl sh_1 rfl km_1 dX7_sign_28 ?_
          refine V.aload_n 0 dX7_sign_31 rfl rfl ?_
          refine V.getR (v := 2) fl_X7_9 sh_1 rfl fx_1_0 (by decide) dX7_sign_32 ?_
          refine V.iload_n 1 dX7_sign_35 rfl rfl ?_
          obtain ⟨hk, hF⟩ := ck hF
          refine V.cald io_2 hk dX7_sign_36 ?_
          refine V.bipush (v := 32) dX7_sign_37 (by decide) ?_
          refine V.icmp_eq (tgt := 49) dX7_sign_39 rfl (fun c => ?_) (fun c => ?_)
          · replace hF := ip c hF
            refine V.iinc (v := (x1 + (1))) 1 [(1, _), (0, _)] dX7_sign_49 rfl rfl (by decide) rfl ?_
            refine V.goto (tgt := 5) dX7_sign_52 rfl ?_
            exact V.sub [1, 0] rfl (ih _ _ hF)
          · replace hF := iq c hF
            refine V.aload_n 0 dX7_sign_42 rfl rfl ?_
            refine V.getR (v := 2) fl_X7_9 sh_1 rfl fx_1_0 (by decide) dX7_sign_43 ?_
            refine V.iload_n 1 dX7_sign_46 rfl rfl ?_
            obtain ⟨hk, hF⟩ := ck hF
            refine V.cald io_2 hk dX7_sign_47 ?_
            obtain ⟨hk, hF⟩ := ck hF
            cases hF
            exact V.zret (nar_c hk) dX7_sign_48
def X7_sign (n : Nat) (h : Mm) : Option (Int32 × Mm) := (X7_sign_5 n n (h.1 1 2) h)
set_option maxRecDepth 100000 in
set_option maxHeartbeats 4000000 in
theorem s_X7_sign {X : WX} {o : Mm} {n : Nat} {rv : Int32} {hz : Mm} {h : Mm} (hF : X7_sign n h = some (rv, hz)) : Sat X yX7_sign cX7_sign 2 (some .char) 1 [.ref (xa X 1)] true o h (some (.int rv)) hz := by
  unfold X7_sign at hF
  refine Sat.mk (own := RX7) rfl (by decide +kernel) (Nat.le_of_ble_eq_true rfl) (fun G => ?_)
  refine V.sub (lv2 := [(0, _)]) [0] rfl ?_
  refine V.aload_n 0 dX7_sign_0 rfl rfl ?_
  refine V.getI fl_X7_27 sh_1 rfl km_1 dX7_sign_1 ?_
  refine V.istore_n [(1, _), (0, _)] dX7_sign_4 rfl (by decide) rfl ?_
  exact V.sub [1, 0] rfl (v_X7_sign_5 n _ _ hF)
/-! MonsterCot$Land.open -/
theorem dX1_open_0 : decode cX1_open 0 = .ok (.aload_n 0, 1) := by decide +kernel
theorem dX1_open_1 : decode cX1_open 1 = .ok (.getfield 9, 3) := by decide +kernel
theorem dX1_open_4 : decode cX1_open 4 = .ok (.iload_n 1, 1) := by decide +kernel
theorem dX1_open_5 : decode cX1_open 5 = .ok (.invokestatic 31, 3) := by decide +kernel
theorem dX1_open_8 : decode cX1_open 8 = .ok (.istore_n 2, 1) := by decide +kernel
theorem dX1_open_9 : decode cX1_open 9 = .ok (.iload_n 2, 1) := by decide +kernel
theorem dX1_open_10 : decode cX1_open 10 = .ok (.getstatic 39, 3) := by decide +kernel
theorem dX1_open_13 : decode cX1_open 13 = .ok (.iload_n 1, 1) := by decide +kernel
theorem dX1_open_14 : decode cX1_open 14 = .ok (.invokestatic 31, 3) := by decide +kernel
theorem dX1_open_17 : decode cX1_open 17 = .ok (.if_icmp .lt 5, 3) := by decide +kernel
theorem dX1_open_20 : decode cX1_open 20 = .ok (.iconst (-1), 1) := by decide +kernel
theorem dX1_open_21 : decode cX1_open 21 = .ok (.ireturn, 1) := by decide +kernel
theorem dX1_open_22 : decode cX1_open 22 = .ok (.aload_n 0, 1) := by decide +kernel
theorem dX1_open_23 : decode cX1_open 23 = .ok (.getfield 9, 3) := by decide +kernel
theorem dX1_open_26 : decode cX1_open 26 = .ok (.iload_n 1, 1) := by decide +kernel
theorem dX1_open_27 : decode cX1_open 27 = .ok (.iload_n 2, 1) := by decide +kernel
theorem dX1_open_28 : decode cX1_open 28 = .ok (.iconst 1, 1) := by decide +kernel
theorem dX1_open_29 : decode cX1_open 29 = .ok (.iadd, 1) := by decide +kernel
theorem dX1_open_30 : decode cX1_open 30 = .ok (.invokestatic 42, 3) := by decide +kernel
theorem dX1_open_33 : decode cX1_open 33 = .ok (.aload_n 0, 1) := by decide +kernel
theorem dX1_open_34 : decode cX1_open 34 = .ok (.iload_n 1, 1) := by decide +kernel
theorem dX1_open_35 : decode cX1_open 35 = .ok (.iload_n 2, 1) := by decide +kernel
theorem dX1_open_36 : decode cX1_open 36 = .ok (.invokevirtual 24, 3) := by decide +kernel
theorem dX1_open_39 : decode cX1_open 39 = .ok (.iload_n 2, 1) := by decide +kernel
theorem dX1_open_40 : decode cX1_open 40 = .ok (.ireturn, 1) := by decide +kernel
def X1_open (n : Nat) (a0 : Nat) (x1 : Int32) (h : Mm) : Option (Int32 × Mm) := (bp (X11_at (a0 + 1) x1 h) (fun r11 => (bp (X11_at 1002 x1 h) (fun r13 => (if r11 < r13 then (bd (X11_put (a0 + 1) x1 (r11 + (1 : Int32)) h) (fun _ h17 => (bd (X1_fillUsual n a0 x1 r11 h17) (fun _ h20 => (some (r11, h20)))))) else (some ((-1 : Int32), h)))))))
set_option maxRecDepth 100000 in
set_option maxHeartbeats 4000000 in
theorem s_X1_open {X : WX} {o : Mm} {n : Nat} {a0 : Nat} {x1 : Int32} {rv : Int32} {hz : Mm} {h : Mm} (ha0 : isLd a0) (hF : X1_open n a0 x1 h = some (rv, hz)) : Sat X yX1_open cX1_open 3 (some .int) 4 [.ref (xa X a0), .int x1] true o h (some (.int rv)) hz := by
  unfold X1_open at hF
  refine Sat.mk (own := RX1) rfl (by decide +kernel) (Nat.le_of_ble_eq_true rfl) (fun G => ?_)
  refine V.sub (lv2 := [(0, _), (1, _)]) [0, 1] rfl ?_
  refine V.aload_n 0 dX1_open_0 rfl rfl ?_
  refine V.getR (v := a0 + 1) fl_X1_9 ha0.sh rfl ha0.fx0 (by have := ha0.lt; omega) dX1_open_1 ?_
  refine V.iload_n 1 dX1_open_4 rfl rfl ?_
  obtain ⟨r11, hc12, hF⟩ := bp_s hF
  refine V.callNi mf_X11_at ml_X1_31 (s_X11_at (Or.inl ha0.a0) hc12) (by decide) rfl rfl (Nat.le_of_ble_eq_true rfl) dX1_open_5 ?_
  refine V.istore_n [(2, _), (0, _), (1, _)] dX1_open_8 rfl (by decide) rfl ?_
  refine V.iload_n 0 dX1_open_9 rfl rfl ?_
  refine V.gets zm_1002 sl_X1_39 dX1_open_10 ?_
  refine V.iload_n 2 dX1_open_13 rfl rfl ?_
  obtain ⟨r13, hc14, hF⟩ := bp_s hF
  refine V.callNi mf_X11_at ml_X1_31 (s_X11_at (Or.inr ⟨by decide, by decide⟩) hc14) (by decide) rfl rfl (Nat.le_of_ble_eq_true rfl) dX1_open_14 ?_
  refine V.icmp_lt (tgt := 22) dX1_open_17 rfl (fun c => ?_) (fun c => ?_)
  · replace hF := ip c hF
    refine V.aload_n 1 dX1_open_22 rfl rfl ?_
    refine V.getR (v := a0 + 1) fl_X1_9 ha0.sh rfl ha0.fx0 (by have := ha0.lt; omega) dX1_open_23 ?_
    refine V.iload_n 2 dX1_open_26 rfl rfl ?_
    refine V.iload_n 0 dX1_open_27 rfl rfl ?_
    refine V.iconst (v := 1) dX1_open_28 rfl ?_
    refine V.iadd dX1_open_29 ?_
    obtain ⟨r15, h17, hc16, hF⟩ := bd_s hF
    refine V.callNv mf_X11_put ml_X1_42 (s_X11_put ha0.a0 hc16) (by decide) rfl rfl (Nat.le_of_ble_eq_true rfl) dX1_open_30 ?_
    refine V.aload_n 1 dX1_open_33 rfl rfl ?_
    refine V.iload_n 2 dX1_open_34 rfl rfl ?_
    refine V.iload_n 0 dX1_open_35 rfl rfl ?_
    obtain ⟨r18, h20, hc19, hF⟩ := bd_s hF
    refine V.callVv mf_X1_fillUsual ml_X1_24 ha0.sh (s_X1_fillUsual ha0 hc19) (by decide) rfl rfl (Nat.le_of_ble_eq_true rfl) dX1_open_36 ?_
    refine V.iload_n 0 dX1_open_39 rfl rfl ?_
    cases hF
    exact V.iret dX1_open_40
  · replace hF := iq c hF
    refine V.iconst (v := -1) dX1_open_20 rfl ?_
    cases hF
    exact V.iret dX1_open_21
/-! MonsterCot$Tape.isDigit -/
theorem dX7_isDigit_0 : decode cX7_isDigit 0 = .ok (.iload_n 0, 1) := by decide +kernel
theorem dX7_isDigit_1 : decode cX7_isDigit 1 = .ok (.bipush 48, 2) := by decide +kernel
theorem dX7_isDigit_3 : decode cX7_isDigit 3 = .ok (.if_icmp .lt 13, 3) := by decide +kernel
theorem dX7_isDigit_6 : decode cX7_isDigit 6 = .ok (.iload_n 0, 1) := by decide +kernel
theorem dX7_isDigit_7 : decode cX7_isDigit 7 = .ok (.bipush 57, 2) := by decide +kernel
theorem dX7_isDigit_9 : decode cX7_isDigit 9 = .ok (.if_icmp .gt 7, 3) := by decide +kernel
theorem dX7_isDigit_12 : decode cX7_isDigit 12 = .ok (.iconst 1, 1) := by decide +kernel
theorem dX7_isDigit_13 : decode cX7_isDigit 13 = .ok (.goto 4, 3) := by decide +kernel
theorem dX7_isDigit_16 : decode cX7_isDigit 16 = .ok (.iconst 0, 1) := by decide +kernel
theorem dX7_isDigit_17 : decode cX7_isDigit 17 = .ok (.ireturn, 1) := by decide +kernel
def X7_isDigit (x0 : Int32) (h : Mm) : Option Bool := (if x0 < (48 : Int32) then (some false) else (if (57 : Int32) < x0 then (some false) else (some true)))
set_option maxRecDepth 100000 in
set_option maxHeartbeats 4000000 in
theorem s_X7_isDigit {X : WX} {o : Mm} {x0 : Int32} {rv : Bool} {h : Mm} (hF : X7_isDigit x0 h = some rv) : Sat X yX7_isDigit cX7_isDigit 1 (some .boolean) 1 [.int x0] true o h (some (.int (b2i rv))) h := by
  unfold X7_isDigit at hF
  refine Sat.mk (own := RX7) rfl (by decide +kernel) (Nat.le_of_ble_eq_true rfl) (fun G => ?_)
  refine V.sub (lv2 := [(0, _)]) [0] rfl ?_
  refine V.iload_n 0 dX7_isDigit_0 rfl rfl ?_
  refine V.bipush (v := 48) dX7_isDigit_1 (by decide) ?_
  refine V.icmp_lt (tgt := 16) dX7_isDigit_3 rfl (fun c => ?_) (fun c => ?_)
  · replace hF := ip c hF
    refine V.iconst (v := 0) dX7_isDigit_16 rfl ?_
    cases hF
    exact V.bret dX7_isDigit_17
  · replace hF := iq c hF
    refine V.iload_n 0 dX7_isDigit_6 rfl rfl ?_
    refine V.bipush (v := 57) dX7_isDigit_7 (by decide) ?_
    refine V.icmp_gt (tgt := 16) dX7_isDigit_9 rfl (fun c => ?_) (fun c => ?_)
    · replace hF := ip c hF
      refine V.iconst (v := 0) dX7_isDigit_16 rfl ?_
      cases hF
      exact V.bret dX7_isDigit_17
    · replace hF := iq c hF
      refine V.iconst (v := 1) dX7_isDigit_12 rfl ?_
      refine V.goto (tgt := 17) dX7_isDigit_13 rfl ?_
      cases hF
      exact V.bret dX7_isDigit_17
/-! MonsterCot$Tape.touching -/
theorem dX7_touching_0 : decode cX7_touching 0 = .ok (.aload_n 0, 1) := by decide +kernel
theorem dX7_touching_1 : decode cX7_touching 1 = .ok (.getfield 27, 3) := by decide +kernel
theorem dX7_touching_4 : decode cX7_touching 4 = .ok (.ifCond .lt 38, 3) := by decide +kernel
theorem dX7_touching_7 : decode cX7_touching 7 = .ok (.aload_n 0, 1) := by decide +kernel
theorem dX7_touching_8 : decode cX7_touching 8 = .ok (.getfield 27, 3) := by decide +kernel
theorem dX7_touching_11 : decode cX7_touching 11 = .ok (.aload_n 0, 1) := by decide +kernel
theorem dX7_touching_12 : decode cX7_touching 12 = .ok (.getfield 15, 3) := by decide +kernel
theorem dX7_touching_15 : decode cX7_touching 15 = .ok (.if_icmp .ge 27, 3) := by decide +kernel
theorem dX7_touching_18 : decode cX7_touching 18 = .ok (.aload_n 0, 1) := by decide +kernel
theorem dX7_touching_19 : decode cX7_touching 19 = .ok (.getfield 27, 3) := by decide +kernel
theorem dX7_touching_22 : decode cX7_touching 22 = .ok (.aload_n 0, 1) := by decide +kernel
theorem dX7_touching_23 : decode cX7_touching 23 = .ok (.getfield 9, 3) := by decide +kernel
theorem dX7_touching_26 : decode cX7_touching 26 = .ok (.arraylength, 1) := by decide +kernel
theorem dX7_touching_27 : decode cX7_touching 27 = .ok (.if_icmp .ge 15, 3) := by decide +kernel
theorem dX7_touching_30 : decode cX7_touching 30 = .ok (.aload_n 0, 1) := by decide +kernel
theorem dX7_touching_31 : decode cX7_touching 31 = .ok (.getfield 9, 3) := by decide +kernel
theorem dX7_touching_34 : decode cX7_touching 34 = .ok (.aload_n 0, 1) := by decide +kernel
theorem dX7_touching_35 : decode cX7_touching 35 = .ok (.getfield 27, 3) := by decide +kernel
theorem dX7_touching_38 : decode cX7_touching 38 = .ok (.caload, 1) := by decide +kernel
theorem dX7_touching_39 : decode cX7_touching 39 = .ok (.goto 4, 3) := by decide +kernel
theorem dX7_touching_42 : decode cX7_touching 42 = .ok (.iconst 0, 1) := by decide +kernel
theorem dX7_touching_43 : decode cX7_touching 43 = .ok (.ireturn, 1) := by decide +kernel
def X7_touching (h : Mm) : Option Int32 := (if (h.1 1 2) < 0 then (some (0 : Int32)) else (if (h.1 1 1) ≤ (h.1 1 2) then (some (0 : Int32)) else (if (240 : Int32) ≤ (h.1 1 2) then (some (0 : Int32)) else (if inB (h.1 1 2) (aln 2) then (if vp_nar .char (h.1 2 (h.1 1 2).toNatClampNeg) = (h.1 2 (h.1 1 2).toNatClampNeg) then (some (h.1 2 (h.1 1 2).toNatClampNeg)) else none) else none))))
set_option maxRecDepth 100000 in
set_option maxHeartbeats 4000000 in
theorem s_X7_touching {X : WX} {o : Mm} {rv : Int32} {h : Mm} (hF : X7_touching h = some rv) : Sat X yX7_touching cX7_touching 1 (some .char) 1 [.ref (xa X 1)] true o h (some (.int rv)) h := by
  unfold X7_touching at hF
  refine Sat.mk (own := RX7) rfl (by decide +kernel) (Nat.le_of_ble_eq_true rfl) (fun G => ?_)
  refine V.sub (lv2 := [(0, _)]) [0] rfl ?_
  refine V.aload_n 0 dX7_touching_0 rfl rfl ?_
  refine V.getI fl_X7_27 sh_1 rfl km_1 dX7_touching_1 ?_
  refine V.if_lt (tgt := 42) dX7_touching_4 rfl (fun c => ?_) (fun c => ?_)
  · replace hF := ip c hF
    refine V.iconst (v := 0) dX7_touching_42 rfl ?_
    cases hF
    exact V.zret (by decide) dX7_touching_43
  · replace hF := iq c hF
    refine V.aload_n 0 dX7_touching_7 rfl rfl ?_
    refine V.getI fl_X7_27 sh_1 rfl km_1 dX7_touching_8 ?_
    refine V.aload_n 0 dX7_touching_11 rfl rfl ?_
    refine V.getI fl_X7_15 sh_1 rfl km_1 dX7_touching_12 ?_
    refine V.icmp_ge (tgt := 42) dX7_touching_15 rfl (fun c => ?_) (fun c => ?_)
    · replace hF := ip c hF
      refine V.iconst (v := 0) dX7_touching_42 rfl ?_
      cases hF
      exact V.zret (by decide) dX7_touching_43
    · replace hF := iq c hF
      refine V.aload_n 0 dX7_touching_18 rfl rfl ?_
      refine V.getI fl_X7_27 sh_1 rfl km_1 dX7_touching_19 ?_
      refine V.aload_n 0 dX7_touching_22 rfl rfl ?_
      refine V.getR (v := 2) fl_X7_9 sh_1 rfl fx_1_0 (by decide) dX7_touching_23 ?_
      refine V.alen (v := 240) sh_2 (by decide) rfl dX7_touching_26 ?_
      refine V.icmp_ge (tgt := 42) dX7_touching_27 rfl (fun c => ?_) (fun c => ?_)
      · replace hF := ip c hF
        refine V.iconst (v := 0) dX7_touching_42 rfl ?_
        cases hF
        exact V.zret (by decide) dX7_touching_43
      · replace hF := iq c hF
        refine V.aload_n 0 dX7_touching_30 rfl rfl ?_
        refine V.getR (v := 2) fl_X7_9 sh_1 rfl fx_1_0 (by decide) dX7_touching_31 ?_
        refine V.aload_n 0 dX7_touching_34 rfl rfl ?_
        refine V.getI fl_X7_27 sh_1 rfl km_1 dX7_touching_35 ?_
        obtain ⟨hk, hF⟩ := ck hF
        refine V.cald io_2 hk dX7_touching_38 ?_
        refine V.goto (tgt := 43) dX7_touching_39 rfl ?_
        obtain ⟨hk, hF⟩ := ck hF
        cases hF
        exact V.zret (nar_c hk) dX7_touching_43
/-! MonsterCot$Tape.takeNumber -/
theorem dX7_takeNumber_0 : decode cX7_takeNumber 0 = .ok (.aload_n 0, 1) := by decide +kernel
theorem dX7_takeNumber_1 : decode cX7_takeNumber 1 = .ok (.invokevirtual 30, 3) := by decide +kernel
theorem dX7_takeNumber_4 : decode cX7_takeNumber 4 = .ok (.invokestatic 39, 3) := by decide +kernel
theorem dX7_takeNumber_7 : decode cX7_takeNumber 7 = .ok (.ifCond .ne 5, 3) := by decide +kernel
theorem dX7_takeNumber_10 : decode cX7_takeNumber 10 = .ok (.iconst (-1), 1) := by decide +kernel
theorem dX7_takeNumber_11 : decode cX7_takeNumber 11 = .ok (.ireturn, 1) := by decide +kernel
theorem dX7_takeNumber_12 : decode cX7_takeNumber 12 = .ok (.iconst 0, 1) := by decide +kernel
theorem dX7_takeNumber_13 : decode cX7_takeNumber 13 = .ok (.istore_n 2, 1) := by decide +kernel
theorem dX7_takeNumber_14 : decode cX7_takeNumber 14 = .ok (.iconst 0, 1) := by decide +kernel
theorem dX7_takeNumber_15 : decode cX7_takeNumber 15 = .ok (.istore_n 3, 1) := by decide +kernel
theorem dX7_takeNumber_16 : decode cX7_takeNumber 16 = .ok (.iload_n 3, 1) := by decide +kernel
theorem dX7_takeNumber_17 : decode cX7_takeNumber 17 = .ok (.iload_n 1, 1) := by decide +kernel
theorem dX7_takeNumber_18 : decode cX7_takeNumber 18 = .ok (.if_icmp .ge 42, 3) := by decide +kernel
theorem dX7_takeNumber_21 : decode cX7_takeNumber 21 = .ok (.aload_n 0, 1) := by decide +kernel
theorem dX7_takeNumber_22 : decode cX7_takeNumber 22 = .ok (.invokevirtual 43, 3) := by decide +kernel
theorem dX7_takeNumber_25 : decode cX7_takeNumber 25 = .ok (.invokestatic 39, 3) := by decide +kernel
theorem dX7_takeNumber_28 : decode cX7_takeNumber 28 = .ok (.ifCond .eq 32, 3) := by decide +kernel
theorem dX7_takeNumber_31 : decode cX7_takeNumber 31 = .ok (.iload_n 2, 1) := by decide +kernel
theorem dX7_takeNumber_32 : decode cX7_takeNumber 32 = .ok (.bipush 10, 2) := by decide +kernel
theorem dX7_takeNumber_34 : decode cX7_takeNumber 34 = .ok (.imul, 1) := by decide +kernel
theorem dX7_takeNumber_35 : decode cX7_takeNumber 35 = .ok (.aload_n 0, 1) := by decide +kernel
theorem dX7_takeNumber_36 : decode cX7_takeNumber 36 = .ok (.invokevirtual 43, 3) := by decide +kernel
theorem dX7_takeNumber_39 : decode cX7_takeNumber 39 = .ok (.bipush 48, 2) := by decide +kernel
theorem dX7_takeNumber_41 : decode cX7_takeNumber 41 = .ok (.isub, 1) := by decide +kernel
theorem dX7_takeNumber_42 : decode cX7_takeNumber 42 = .ok (.iadd, 1) := by decide +kernel
theorem dX7_takeNumber_43 : decode cX7_takeNumber 43 = .ok (.istore_n 2, 1) := by decide +kernel
theorem dX7_takeNumber_44 : decode cX7_takeNumber 44 = .ok (.aload_n 0, 1) := by decide +kernel
theorem dX7_takeNumber_45 : decode cX7_takeNumber 45 = .ok (.dup, 1) := by decide +kernel
theorem dX7_takeNumber_46 : decode cX7_takeNumber 46 = .ok (.getfield 27, 3) := by decide +kernel
theorem dX7_takeNumber_49 : decode cX7_takeNumber 49 = .ok (.iconst 1, 1) := by decide +kernel
theorem dX7_takeNumber_50 : decode cX7_takeNumber 50 = .ok (.iadd, 1) := by decide +kernel
theorem dX7_takeNumber_51 : decode cX7_takeNumber 51 = .ok (.putfield 27, 3) := by decide +kernel
theorem dX7_takeNumber_54 : decode cX7_takeNumber 54 = .ok (.iinc 3 1, 3) := by decide +kernel
theorem dX7_takeNumber_57 : decode cX7_takeNumber 57 = .ok (.goto (-41), 3) := by decide +kernel
theorem dX7_takeNumber_60 : decode cX7_takeNumber 60 = .ok (.aload_n 0, 1) := by decide +kernel
theorem dX7_takeNumber_61 : decode cX7_takeNumber 61 = .ok (.invokevirtual 43, 3) := by decide +kernel
theorem dX7_takeNumber_64 : decode cX7_takeNumber 64 = .ok (.invokestatic 39, 3) := by decide +kernel
theorem dX7_takeNumber_67 : decode cX7_takeNumber 67 = .ok (.ifCond .eq 7, 3) := by decide +kernel
theorem dX7_takeNumber_70 : decode cX7_takeNumber 70 = .ok (.iconst (-1), 1) := by decide +kernel
theorem dX7_takeNumber_71 : decode cX7_takeNumber 71 = .ok (.goto 4, 3) := by decide +kernel
theorem dX7_takeNumber_74 : decode cX7_takeNumber 74 = .ok (.iload_n 2, 1) := by decide +kernel
theorem dX7_takeNumber_75 : decode cX7_takeNumber 75 = .ok (.ireturn, 1) := by decide +kernel
def X7_takeNumber_60 (n : Nat) (x2 : Int32) (h : Mm) : Option (Int32 × Mm) := (bp (X7_touching h) (fun r42 => (bp (X7_isDigit r42 h) (fun r44 => (if r44 = true then (some ((-1 : Int32), h)) else (some (x2, h)))))))
set_option maxRecDepth 100000 in
set_option maxHeartbeats 4000000 in
theorem v_X7_takeNumber_60 {X : WX} {G : GX} {o : Mm} {n : Nat} {rv : Int32} {hz : Mm} {x2 : Int32} {h : Mm} (hF : X7_takeNumber_60 n x2 h = some (rv, hz)) : V X G RX7 cX7_takeNumber 4 (some .int) 2 0 0 (QR X G true o (some (.int rv)) hz) true o 60 [(0, .ref (xa X 1)), (2, .int x2)] [] h := by
  unfold X7_takeNumber_60 at hF
  refine V.aload_n 0 dX7_takeNumber_60 rfl rfl ?_
  obtain ⟨r42, hc43, hF⟩ := bp_s hF
  refine V.callVi mf_X7_touching ml_X7_43 sh_1 (s_X7_touching hc43) (by decide) rfl rfl (Nat.le_of_ble_eq_true rfl) dX7_takeNumber_61 ?_
  obtain ⟨r44, hc45, hF⟩ := bp_s hF
  refine V.callSi mf_X7_isDigit ml_X7_39 (s_X7_isDigit hc45) (by decide) rfl rfl (Nat.le_of_ble_eq_true rfl) dX7_takeNumber_64 ?_
  refine V.ifz_eq (tgt := 74) dX7_takeNumber_67 rfl (fun c => ?_) (fun c => ?_)
  · replace hF := iq c hF
    refine V.iload_n 1 dX7_takeNumber_74 rfl rfl ?_
    cases hF
    exact V.iret dX7_takeNumber_75
  · replace hF := ip c hF
    refine V.iconst (v := -1) dX7_takeNumber_70 rfl ?_
    refine V.goto (tgt := 75) dX7_takeNumber_71 rfl ?_
    cases hF
    exact V.iret dX7_takeNumber_75
def X7_takeNumber_16 (n : Nat) : Nat → Int32 → Int32 → Int32 → Mm → Option (Int32 × Mm)
  | 0, _, _, _, _ => none
  | f + 1, x1, x2, x3, h => (if x1 ≤ x3 then (X7_takeNumber_60 n x2 h) else (bp (X7_touching h) (fun r46 => (bp (X7_isDigit r46 h) (fun r48 => (if r48 = true then (bp (X7_touching h) (fun r50 => ((X7_takeNumber_16 n f) x1 ((x2 * (10 : Int32)) + (r50 - (48 : Int32))) (x3 + (1)) (wI h 1 2 ((h.1 1 2) + (1 : Int32)))))) else (X7_takeNumber_60 n x2 h)))))))
set_option maxRecDepth 100000 in
set_option maxHeartbeats 4000000 in
theorem v_X7_takeNumber_16 {X : WX} {G : GX} {o : Mm} {n : Nat} {rv : Int32} {hz : Mm} : ∀ (f : Nat) (x1 : Int32) (x2 : Int32) (x3 : Int32) (h : Mm), X7_takeNumber_16 n f x1 x2 x3 h = some (rv, hz) → V X G RX7 cX7_takeNumber 4 (some .int) 2 0 0 (QR X G true o (some (.int rv)) hz) true o 16 [(0, .ref (xa X 1)), (1, .int x1), (2, .int x2), (3, .int x3)] [] h := by
  intro f
  induction f with
  | zero => intro x1 x2 x3 h hF; exact nomatch (show (none : Option (Int32 × Mm)) = some (rv, hz) from hF)
  | succ f ih =>
    intro x1 x2 x3 h hF
    unfold X7_takeNumber_16 at hF
    refine V.iload_n 3 dX7_takeNumber_16 rfl rfl ?_
    refine V.iload_n 1 dX7_takeNumber_17 rfl rfl ?_
    refine V.icmp_ge (tgt := 60) dX7_takeNumber_18 rfl (fun c => ?_) (fun c => ?_)
    · replace hF := ip c hF
      exact V.sub [0, 2] rfl (v_X7_takeNumber_60 hF)
    · replace hF := iq c hF
      refine V.aload_n 0 dX7_takeNumber_21 rfl rfl ?_
      obtain ⟨r46, hc47, hF⟩ := bp_s hF
      refine V.callVi mf_X7_touching ml_X7_43 sh_1 (s_X7_touching hc47) (by decide) rfl rfl (Nat.le_of_ble_eq_true rfl) dX7_takeNumber_22 ?_
      obtain ⟨r48, hc49, hF⟩ := bp_s hF
      refine V.callSi mf_X7_isDigit ml_X7_39 (s_X7_isDigit hc49) (by decide) rfl rfl (Nat.le_of_ble_eq_true rfl) dX7_takeNumber_25 ?_
      refine V.ifz_eq (tgt := 60) dX7_takeNumber_28 rfl (fun c => ?_) (fun c => ?_)
      · replace hF := iq c hF
        exact V.sub [0, 2] rfl (v_X7_takeNumber_60 hF)
      · replace hF := ip c hF
        refine V.iload_n 2 dX7_takeNumber_31 rfl rfl ?_
        refine V.bipush (v := 10) dX7_takeNumber_32 (by decide) ?_
        refine V.imul dX7_takeNumber_34 ?_
        refine V.aload_n 0 dX7_takeNumber_35 rfl rfl ?_
        obtain ⟨r50, hc51, hF⟩ := bp_s hF
        refine V.callVi mf_X7_touching ml_X7_43 sh_1 (s_X7_touching hc51) (by decide) rfl rfl (Nat.le_of_ble_eq_true rfl) dX7_takeNumber_36 ?_
        refine V.bipush (v := 48) dX7_takeNumber_39 (by decide) ?_
        refine V.isub dX7_takeNumber_41 ?_
        refine V.iadd dX7_takeNumber_42 ?_
        refine V.istore_n [(2, _), (0, _), (1, _), (3, _)] dX7_takeNumber_43 rfl (by decide) rfl ?_
        refine V.aload_n 1 dX7_takeNumber_44 rfl rfl ?_
        refine V.dup dX7_takeNumber_45 rfl ?_
        refine V.getI fl_X7_27 sh_1 rfl km_1 dX7_takeNumber_46 ?_
        refine V.iconst (v := 1) dX7_takeNumber_49 rfl ?_
        refine V.iadd dX7_takeNumber_50 ?_
        refine V.putI fl_X7_27 rfl (tyX7_ok 2 (by decide)) rfl rfl sh_1 rfl km_1 dX7_takeNumber_51 ?_
        refine V.iinc (v := (x3 + (1))) 3 [(3, _), (2, _), (0, _), (1, _)] dX7_takeNumber_54 rfl rfl (by decide) rfl ?_
        refine V.goto (tgt := 16) dX7_takeNumber_57 rfl ?_
        exact V.sub [2, 3, 1, 0] rfl (ih _ _ _ _ hF)
def X7_takeNumber (n : Nat) (x1 : Int32) (h : Mm) : Option (Int32 × Mm) := (bd (X7_sign n h) (fun r52 h54 => (bp (X7_isDigit r52 h54) (fun r55 => (if r55 = true then (X7_takeNumber_16 n n x1 (0 : Int32) (0 : Int32) h54) else (some ((-1 : Int32), h54)))))))
set_option maxRecDepth 100000 in
set_option maxHeartbeats 4000000 in
theorem s_X7_takeNumber {X : WX} {o : Mm} {n : Nat} {x1 : Int32} {rv : Int32} {hz : Mm} {h : Mm} (hF : X7_takeNumber n x1 h = some (rv, hz)) : Sat X yX7_takeNumber cX7_takeNumber 4 (some .int) 2 [.ref (xa X 1), .int x1] true o h (some (.int rv)) hz := by
  unfold X7_takeNumber at hF
  refine Sat.mk (own := RX7) rfl (by decide +kernel) (Nat.le_of_ble_eq_true rfl) (fun G => ?_)
  refine V.sub (lv2 := [(0, _), (1, _)]) [0, 1] rfl ?_
  refine V.aload_n 0 dX7_takeNumber_0 rfl rfl ?_
  obtain ⟨r52, h54, hc53, hF⟩ := bd_s hF
  refine V.callVi mf_X7_sign ml_X7_30 sh_1 (s_X7_sign hc53) (by decide) rfl rfl (Nat.le_of_ble_eq_true rfl) dX7_takeNumber_1 ?_
  obtain ⟨r55, hc56, hF⟩ := bp_s hF
  refine V.callSi mf_X7_isDigit ml_X7_39 (s_X7_isDigit hc56) (by decide) rfl rfl (Nat.le_of_ble_eq_true rfl) dX7_takeNumber_4 ?_
  refine V.ifz_ne (tgt := 12) dX7_takeNumber_7 rfl (fun c => ?_) (fun c => ?_)
  · replace hF := ip c hF
    refine V.iconst (v := 0) dX7_takeNumber_12 rfl ?_
    refine V.istore_n [(2, _), (0, _), (1, _)] dX7_takeNumber_13 rfl (by decide) rfl ?_
    refine V.iconst (v := 0) dX7_takeNumber_14 rfl ?_
    refine V.istore_n [(3, _), (2, _), (0, _), (1, _)] dX7_takeNumber_15 rfl (by decide) rfl ?_
    exact V.sub [2, 3, 1, 0] rfl (v_X7_takeNumber_16 n _ _ _ _ hF)
  · replace hF := iq c hF
    refine V.iconst (v := -1) dX7_takeNumber_10 rfl ?_
    cases hF
    exact V.iret dX7_takeNumber_11
/-! MonsterCot$LandingText.takeItem -/
theorem dX2_takeItem_0 : decode cX2_takeItem 0 = .ok (.aload_n 0, 1) := by decide +kernel
theorem dX2_takeItem_1 : decode cX2_takeItem 1 = .ok (.getfield 18, 3) := by decide +kernel
theorem dX2_takeItem_4 : decode cX2_takeItem 4 = .ok (.iconst 2, 1) := by decide +kernel
theorem dX2_takeItem_5 : decode cX2_takeItem 5 = .ok (.invokevirtual 74, 3) := by decide +kernel
theorem dX2_takeItem_8 : decode cX2_takeItem 8 = .ok (.istore 4, 2) := by decide +kernel
theorem dX2_takeItem_10 : decode cX2_takeItem 10 = .ok (.iload 4, 2) := by decide +kernel
theorem dX2_takeItem_12 : decode cX2_takeItem 12 = .ok (.ifCond .ge 5, 3) := by decide +kernel
theorem dX2_takeItem_15 : decode cX2_takeItem 15 = .ok (.iconst 0, 1) := by decide +kernel
theorem dX2_takeItem_16 : decode cX2_takeItem 16 = .ok (.ireturn, 1) := by decide +kernel
theorem dX2_takeItem_17 : decode cX2_takeItem 17 = .ok (.iload_n 1, 1) := by decide +kernel
theorem dX2_takeItem_18 : decode cX2_takeItem 18 = .ok (.iconst 3, 1) := by decide +kernel
theorem dX2_takeItem_19 : decode cX2_takeItem 19 = .ok (.imul, 1) := by decide +kernel
theorem dX2_takeItem_20 : decode cX2_takeItem 20 = .ok (.iload_n 3, 1) := by decide +kernel
theorem dX2_takeItem_21 : decode cX2_takeItem 21 = .ok (.iadd, 1) := by decide +kernel
theorem dX2_takeItem_22 : decode cX2_takeItem 22 = .ok (.istore 5, 2) := by decide +kernel
theorem dX2_takeItem_24 : decode cX2_takeItem 24 = .ok (.iload 4, 2) := by decide +kernel
theorem dX2_takeItem_26 : decode cX2_takeItem 26 = .ok (.getstatic 77, 3) := by decide +kernel
theorem dX2_takeItem_29 : decode cX2_takeItem 29 = .ok (.iload 5, 2) := by decide +kernel
theorem dX2_takeItem_31 : decode cX2_takeItem 31 = .ok (.invokestatic 81, 3) := by decide +kernel
theorem dX2_takeItem_34 : decode cX2_takeItem 34 = .ok (.if_icmp .lt 16, 3) := by decide +kernel
theorem dX2_takeItem_37 : decode cX2_takeItem 37 = .ok (.iload 4, 2) := by decide +kernel
theorem dX2_takeItem_39 : decode cX2_takeItem 39 = .ok (.getstatic 85, 3) := by decide +kernel
theorem dX2_takeItem_42 : decode cX2_takeItem 42 = .ok (.iload 5, 2) := by decide +kernel
theorem dX2_takeItem_44 : decode cX2_takeItem 44 = .ok (.invokestatic 81, 3) := by decide +kernel
theorem dX2_takeItem_47 : decode cX2_takeItem 47 = .ok (.if_icmp .le 18, 3) := by decide +kernel
theorem dX2_takeItem_50 : decode cX2_takeItem 50 = .ok (.aload_n 0, 1) := by decide +kernel
theorem dX2_takeItem_51 : decode cX2_takeItem 51 = .ok (.getfield 18, 3) := by decide +kernel
theorem dX2_takeItem_54 : decode cX2_takeItem 54 = .ok (.dup, 1) := by decide +kernel
theorem dX2_takeItem_55 : decode cX2_takeItem 55 = .ok (.getfield 22, 3) := by decide +kernel
theorem dX2_takeItem_58 : decode cX2_takeItem 58 = .ok (.iconst 1, 1) := by decide +kernel
theorem dX2_takeItem_59 : decode cX2_takeItem 59 = .ok (.isub, 1) := by decide +kernel
theorem dX2_takeItem_60 : decode cX2_takeItem 60 = .ok (.putfield 22, 3) := by decide +kernel
theorem dX2_takeItem_63 : decode cX2_takeItem 63 = .ok (.iconst 0, 1) := by decide +kernel
theorem dX2_takeItem_64 : decode cX2_takeItem 64 = .ok (.ireturn, 1) := by decide +kernel
theorem dX2_takeItem_65 : decode cX2_takeItem 65 = .ok (.aload_n 0, 1) := by decide +kernel
theorem dX2_takeItem_66 : decode cX2_takeItem 66 = .ok (.getfield 12, 3) := by decide +kernel
theorem dX2_takeItem_69 : decode cX2_takeItem 69 = .ok (.iload_n 1, 1) := by decide +kernel
theorem dX2_takeItem_70 : decode cX2_takeItem 70 = .ok (.iload_n 2, 1) := by decide +kernel
theorem dX2_takeItem_71 : decode cX2_takeItem 71 = .ok (.iload_n 3, 1) := by decide +kernel
theorem dX2_takeItem_72 : decode cX2_takeItem 72 = .ok (.iload 4, 2) := by decide +kernel
theorem dX2_takeItem_74 : decode cX2_takeItem 74 = .ok (.invokevirtual 88, 3) := by decide +kernel
theorem dX2_takeItem_77 : decode cX2_takeItem 77 = .ok (.iconst 1, 1) := by decide +kernel
theorem dX2_takeItem_78 : decode cX2_takeItem 78 = .ok (.ireturn, 1) := by decide +kernel
def X2_takeItem_50 (n : Nat) (h : Mm) : Option (Bool × Mm) := (some (false, (wI h 1 2 ((h.1 1 2) - (1 : Int32)))))
set_option maxRecDepth 100000 in
set_option maxHeartbeats 4000000 in
theorem v_X2_takeItem_50 {X : WX} {G : GX} {o : Mm} {n : Nat} {rv : Bool} {hz : Mm} {h : Mm} (hF : X2_takeItem_50 n h = some (rv, hz)) : V X G RX2 cX2_takeItem 6 (some .boolean) 3 0 0 (QR X G true o (some (.int (b2i rv))) hz) true o 50 [(0, .ref (xa X 3))] [] h := by
  unfold X2_takeItem_50 at hF
  refine V.aload_n 0 dX2_takeItem_50 rfl rfl ?_
  refine V.getR (v := 1) fl_X2_18 sh_3 rfl fx_3_0 (by decide) dX2_takeItem_51 ?_
  refine V.dup dX2_takeItem_54 rfl ?_
  refine V.getI fl_X2_22 sh_1 rfl km_1 dX2_takeItem_55 ?_
  refine V.iconst (v := 1) dX2_takeItem_58 rfl ?_
  refine V.isub dX2_takeItem_59 ?_
  refine V.putI fl_X2_22 rfl (tyX7_ok 2 (by decide)) rfl rfl sh_1 rfl km_1 dX2_takeItem_60 ?_
  refine V.iconst (v := 0) dX2_takeItem_63 rfl ?_
  cases hF
  exact V.bret dX2_takeItem_64
def X2_takeItem (n : Nat) (x1 : Int32) (x2 : Int32) (x3 : Int32) (h : Mm) : Option (Bool × Mm) := (bd (X7_takeNumber n (2 : Int32) h) (fun r21 h23 => (if 0 ≤ r21 then (bp (X11_at 1004 ((x1 * (3 : Int32)) + x3) h23) (fun r24 => (if r21 < r24 then (X2_takeItem_50 n h23) else (bp (X11_at 1005 ((x1 * (3 : Int32)) + x3) h23) (fun r26 => (if r21 ≤ r26 then (bd (X1_tell 4 x1 x2 x3 r21 h23) (fun _ h30 => (some (true, h30)))) else (X2_takeItem_50 n h23))))))) else (some (false, h23)))))
set_option maxRecDepth 100000 in
set_option maxHeartbeats 4000000 in
theorem s_X2_takeItem {X : WX} {o : Mm} {n : Nat} {x1 : Int32} {x2 : Int32} {x3 : Int32} {rv : Bool} {hz : Mm} {h : Mm} (hF : X2_takeItem n x1 x2 x3 h = some (rv, hz)) : Sat X yX2_takeItem cX2_takeItem 6 (some .boolean) 3 [.ref (xa X 3), .int x1, .int x2, .int x3] true o h (some (.int (b2i rv))) hz := by
  unfold X2_takeItem at hF
  refine Sat.mk (own := RX2) rfl (by decide +kernel) (Nat.le_of_ble_eq_true rfl) (fun G => ?_)
  refine V.sub (lv2 := [(0, _), (1, _), (2, _), (3, _)]) [0, 1, 2, 3] rfl ?_
  refine V.aload_n 0 dX2_takeItem_0 rfl rfl ?_
  refine V.getR (v := 1) fl_X2_18 sh_3 rfl fx_3_0 (by decide) dX2_takeItem_1 ?_
  refine V.iconst (v := 2) dX2_takeItem_4 rfl ?_
  obtain ⟨r21, h23, hc22, hF⟩ := bd_s hF
  refine V.callVi mf_X7_takeNumber ml_X2_74 sh_1 (s_X7_takeNumber hc22) (by decide) rfl rfl (Nat.le_of_ble_eq_true rfl) dX2_takeItem_5 ?_
  refine V.istore [(4, _), (0, _), (1, _), (2, _), (3, _)] dX2_takeItem_8 (by decide) rfl ?_
  refine V.iload 0 dX2_takeItem_10 rfl ?_
  refine V.if_ge (tgt := 17) dX2_takeItem_12 rfl (fun c => ?_) (fun c => ?_)
  · replace hF := ip c hF
    refine V.iload_n 2 dX2_takeItem_17 rfl rfl ?_
    refine V.iconst (v := 3) dX2_takeItem_18 rfl ?_
    refine V.imul dX2_takeItem_19 ?_
    refine V.iload_n 4 dX2_takeItem_20 rfl rfl ?_
    refine V.iadd dX2_takeItem_21 ?_
    refine V.istore [(5, _), (4, _), (0, _), (1, _), (2, _), (3, _)] dX2_takeItem_22 (by decide) rfl ?_
    refine V.iload 1 dX2_takeItem_24 rfl ?_
    refine V.gets zm_1004 sl_X2_77 dX2_takeItem_26 ?_
    refine V.iload 0 dX2_takeItem_29 rfl ?_
    obtain ⟨r24, hc25, hF⟩ := bp_s hF
    refine V.callNi mf_X11_at ml_X2_81 (s_X11_at (Or.inr ⟨by decide, by decide⟩) hc25) (by decide) rfl rfl (Nat.le_of_ble_eq_true rfl) dX2_takeItem_31 ?_
    refine V.icmp_lt (tgt := 50) dX2_takeItem_34 rfl (fun c => ?_) (fun c => ?_)
    · replace hF := ip c hF
      exact V.sub [2] rfl (v_X2_takeItem_50 hF)
    · replace hF := iq c hF
      refine V.iload 1 dX2_takeItem_37 rfl ?_
      refine V.gets zm_1005 sl_X2_85 dX2_takeItem_39 ?_
      refine V.iload 0 dX2_takeItem_42 rfl ?_
      obtain ⟨r26, hc27, hF⟩ := bp_s hF
      refine V.callNi mf_X11_at ml_X2_81 (s_X11_at (Or.inr ⟨by decide, by decide⟩) hc27) (by decide) rfl rfl (Nat.le_of_ble_eq_true rfl) dX2_takeItem_44 ?_
      refine V.icmp_le (tgt := 65) dX2_takeItem_47 rfl (fun c => ?_) (fun c => ?_)
      · replace hF := ip c hF
        refine V.aload_n 2 dX2_takeItem_65 rfl rfl ?_
        refine V.getR (v := 4) fl_X2_12 sh_3 rfl fx_3_1 (by decide) dX2_takeItem_66 ?_
        refine V.iload_n 3 dX2_takeItem_69 rfl rfl ?_
        refine V.iload_n 4 dX2_takeItem_70 rfl rfl ?_
        refine V.iload_n 5 dX2_takeItem_71 rfl rfl ?_
        refine V.iload 1 dX2_takeItem_72 rfl ?_
        obtain ⟨r28, h30, hc29, hF⟩ := bd_s hF
        refine V.callVv mf_X1_tell ml_X2_88 sh_4 (s_X1_tell (Or.inl rfl) hc29) (by decide) rfl rfl (Nat.le_of_ble_eq_true rfl) dX2_takeItem_74 ?_
        refine V.iconst (v := 1) dX2_takeItem_77 rfl ?_
        cases hF
        exact V.bret dX2_takeItem_78
      · replace hF := iq c hF
        exact V.sub [2] rfl (v_X2_takeItem_50 hF)
  · replace hF := iq c hF
    refine V.iconst (v := 0) dX2_takeItem_15 rfl ?_
    cases hF
    exact V.bret dX2_takeItem_16
/-! MonsterCot$LandingText.takeClause -/
theorem dX2_takeClause_0 : decode cX2_takeClause 0 = .ok (.ldc 49, 2) := by decide +kernel
theorem dX2_takeClause_2 : decode cX2_takeClause 2 = .ok (.aload_n 0, 1) := by decide +kernel
theorem dX2_takeClause_3 : decode cX2_takeClause 3 = .ok (.getfield 18, 3) := by decide +kernel
theorem dX2_takeClause_6 : decode cX2_takeClause 6 = .ok (.invokevirtual 51, 3) := by decide +kernel
theorem dX2_takeClause_9 : decode cX2_takeClause 9 = .ok (.invokevirtual 55, 3) := by decide +kernel
theorem dX2_takeClause_12 : decode cX2_takeClause 12 = .ok (.istore_n 1, 1) := by decide +kernel
theorem dX2_takeClause_13 : decode cX2_takeClause 13 = .ok (.iload_n 1, 1) := by decide +kernel
theorem dX2_takeClause_14 : decode cX2_takeClause 14 = .ok (.ifCond .ge 7, 3) := by decide +kernel
theorem dX2_takeClause_17 : decode cX2_takeClause 17 = .ok (.iconst (-1), 1) := by decide +kernel
theorem dX2_takeClause_18 : decode cX2_takeClause 18 = .ok (.goto 11, 3) := by decide +kernel
theorem dX2_takeClause_21 : decode cX2_takeClause 21 = .ok (.aload_n 0, 1) := by decide +kernel
theorem dX2_takeClause_22 : decode cX2_takeClause 22 = .ok (.getfield 12, 3) := by decide +kernel
theorem dX2_takeClause_25 : decode cX2_takeClause 25 = .ok (.iload_n 1, 1) := by decide +kernel
theorem dX2_takeClause_26 : decode cX2_takeClause 26 = .ok (.invokevirtual 61, 3) := by decide +kernel
theorem dX2_takeClause_29 : decode cX2_takeClause 29 = .ok (.istore_n 2, 1) := by decide +kernel
theorem dX2_takeClause_30 : decode cX2_takeClause 30 = .ok (.iload_n 2, 1) := by decide +kernel
theorem dX2_takeClause_31 : decode cX2_takeClause 31 = .ok (.ifCond .ge 5, 3) := by decide +kernel
theorem dX2_takeClause_34 : decode cX2_takeClause 34 = .ok (.iconst 0, 1) := by decide +kernel
theorem dX2_takeClause_35 : decode cX2_takeClause 35 = .ok (.ireturn, 1) := by decide +kernel
theorem dX2_takeClause_36 : decode cX2_takeClause 36 = .ok (.aload_n 0, 1) := by decide +kernel
theorem dX2_takeClause_37 : decode cX2_takeClause 37 = .ok (.getfield 18, 3) := by decide +kernel
theorem dX2_takeClause_40 : decode cX2_takeClause 40 = .ok (.dup, 1) := by decide +kernel
theorem dX2_takeClause_41 : decode cX2_takeClause 41 = .ok (.getfield 22, 3) := by decide +kernel
theorem dX2_takeClause_44 : decode cX2_takeClause 44 = .ok (.iconst 1, 1) := by decide +kernel
theorem dX2_takeClause_45 : decode cX2_takeClause 45 = .ok (.iadd, 1) := by decide +kernel
theorem dX2_takeClause_46 : decode cX2_takeClause 46 = .ok (.putfield 22, 3) := by decide +kernel
theorem dX2_takeClause_49 : decode cX2_takeClause 49 = .ok (.iload_n 1, 1) := by decide +kernel
theorem dX2_takeClause_50 : decode cX2_takeClause 50 = .ok (.ifCond .ne 8, 3) := by decide +kernel
theorem dX2_takeClause_53 : decode cX2_takeClause 53 = .ok (.ldc 64, 2) := by decide +kernel
theorem dX2_takeClause_55 : decode cX2_takeClause 55 = .ok (.goto 15, 3) := by decide +kernel
theorem dX2_takeClause_58 : decode cX2_takeClause 58 = .ok (.iload_n 1, 1) := by decide +kernel
theorem dX2_takeClause_59 : decode cX2_takeClause 59 = .ok (.iconst 1, 1) := by decide +kernel
theorem dX2_takeClause_60 : decode cX2_takeClause 60 = .ok (.if_icmp .ne 8, 3) := by decide +kernel
theorem dX2_takeClause_63 : decode cX2_takeClause 63 = .ok (.ldc 66, 2) := by decide +kernel
theorem dX2_takeClause_65 : decode cX2_takeClause 65 = .ok (.goto 5, 3) := by decide +kernel
theorem dX2_takeClause_68 : decode cX2_takeClause 68 = .ok (.ldc 68, 2) := by decide +kernel
theorem dX2_takeClause_70 : decode cX2_takeClause 70 = .ok (.astore_n 3, 1) := by decide +kernel
theorem dX2_takeClause_71 : decode cX2_takeClause 71 = .ok (.iconst 0, 1) := by decide +kernel
theorem dX2_takeClause_72 : decode cX2_takeClause 72 = .ok (.istore 4, 2) := by decide +kernel
theorem dX2_takeClause_74 : decode cX2_takeClause 74 = .ok (.iconst 0, 1) := by decide +kernel
theorem dX2_takeClause_75 : decode cX2_takeClause 75 = .ok (.istore 5, 2) := by decide +kernel
theorem dX2_takeClause_77 : decode cX2_takeClause 77 = .ok (.iload 5, 2) := by decide +kernel
theorem dX2_takeClause_79 : decode cX2_takeClause 79 = .ok (.iconst 3, 1) := by decide +kernel
theorem dX2_takeClause_80 : decode cX2_takeClause 80 = .ok (.if_icmp .ge 74, 3) := by decide +kernel
theorem dX2_takeClause_83 : decode cX2_takeClause 83 = .ok (.aload_n 3, 1) := by decide +kernel
theorem dX2_takeClause_84 : decode cX2_takeClause 84 = .ok (.aload_n 0, 1) := by decide +kernel
theorem dX2_takeClause_85 : decode cX2_takeClause 85 = .ok (.getfield 18, 3) := by decide +kernel
theorem dX2_takeClause_88 : decode cX2_takeClause 88 = .ok (.invokevirtual 51, 3) := by decide +kernel
theorem dX2_takeClause_91 : decode cX2_takeClause 91 = .ok (.invokevirtual 55, 3) := by decide +kernel
theorem dX2_takeClause_94 : decode cX2_takeClause 94 = .ok (.istore 6, 2) := by decide +kernel
theorem dX2_takeClause_96 : decode cX2_takeClause 96 = .ok (.iload 6, 2) := by decide +kernel
theorem dX2_takeClause_98 : decode cX2_takeClause 98 = .ok (.ifCond .lt 13, 3) := by decide +kernel
theorem dX2_takeClause_101 : decode cX2_takeClause 101 = .ok (.iload 4, 2) := by decide +kernel
theorem dX2_takeClause_103 : decode cX2_takeClause 103 = .ok (.iload 6, 2) := by decide +kernel
theorem dX2_takeClause_105 : decode cX2_takeClause 105 = .ok (.ishr, 1) := by decide +kernel
theorem dX2_takeClause_106 : decode cX2_takeClause 106 = .ok (.iconst 1, 1) := by decide +kernel
theorem dX2_takeClause_107 : decode cX2_takeClause 107 = .ok (.iand, 1) := by decide +kernel
theorem dX2_takeClause_108 : decode cX2_takeClause 108 = .ok (.ifCond .eq 5, 3) := by decide +kernel
theorem dX2_takeClause_111 : decode cX2_takeClause 111 = .ok (.iconst 1, 1) := by decide +kernel
theorem dX2_takeClause_112 : decode cX2_takeClause 112 = .ok (.ireturn, 1) := by decide +kernel
theorem dX2_takeClause_113 : decode cX2_takeClause 113 = .ok (.iload 4, 2) := by decide +kernel
theorem dX2_takeClause_115 : decode cX2_takeClause 115 = .ok (.iconst 1, 1) := by decide +kernel
theorem dX2_takeClause_116 : decode cX2_takeClause 116 = .ok (.iload 6, 2) := by decide +kernel
theorem dX2_takeClause_118 : decode cX2_takeClause 118 = .ok (.ishl, 1) := by decide +kernel
theorem dX2_takeClause_119 : decode cX2_takeClause 119 = .ok (.ior, 1) := by decide +kernel
theorem dX2_takeClause_120 : decode cX2_takeClause 120 = .ok (.istore 4, 2) := by decide +kernel
theorem dX2_takeClause_122 : decode cX2_takeClause 122 = .ok (.aload_n 0, 1) := by decide +kernel
theorem dX2_takeClause_123 : decode cX2_takeClause 123 = .ok (.getfield 18, 3) := by decide +kernel
theorem dX2_takeClause_126 : decode cX2_takeClause 126 = .ok (.dup, 1) := by decide +kernel
theorem dX2_takeClause_127 : decode cX2_takeClause 127 = .ok (.getfield 22, 3) := by decide +kernel
theorem dX2_takeClause_130 : decode cX2_takeClause 130 = .ok (.iconst 1, 1) := by decide +kernel
theorem dX2_takeClause_131 : decode cX2_takeClause 131 = .ok (.iadd, 1) := by decide +kernel
theorem dX2_takeClause_132 : decode cX2_takeClause 132 = .ok (.putfield 22, 3) := by decide +kernel
theorem dX2_takeClause_135 : decode cX2_takeClause 135 = .ok (.aload_n 0, 1) := by decide +kernel
theorem dX2_takeClause_136 : decode cX2_takeClause 136 = .ok (.iload_n 1, 1) := by decide +kernel
theorem dX2_takeClause_137 : decode cX2_takeClause 137 = .ok (.iload_n 2, 1) := by decide +kernel
theorem dX2_takeClause_138 : decode cX2_takeClause 138 = .ok (.iload 6, 2) := by decide +kernel
theorem dX2_takeClause_140 : decode cX2_takeClause 140 = .ok (.invokevirtual 70, 3) := by decide +kernel
theorem dX2_takeClause_143 : decode cX2_takeClause 143 = .ok (.ifCond .ne 5, 3) := by decide +kernel
theorem dX2_takeClause_146 : decode cX2_takeClause 146 = .ok (.iconst 0, 1) := by decide +kernel
theorem dX2_takeClause_147 : decode cX2_takeClause 147 = .ok (.ireturn, 1) := by decide +kernel
theorem dX2_takeClause_148 : decode cX2_takeClause 148 = .ok (.iinc 5 1, 3) := by decide +kernel
theorem dX2_takeClause_151 : decode cX2_takeClause 151 = .ok (.goto (-74), 3) := by decide +kernel
theorem dX2_takeClause_154 : decode cX2_takeClause 154 = .ok (.iconst 1, 1) := by decide +kernel
theorem dX2_takeClause_155 : decode cX2_takeClause 155 = .ok (.ireturn, 1) := by decide +kernel
def X2_takeClause_77 (n : Nat) : Nat → Int32 → Int32 → Nat → Int32 → Int32 → Mm → Option (Bool × Mm)
  | 0, _, _, _, _, _, _ => none
  | f + 1, x1, x2, x3, x4, x5, h => (if (3 : Int32) ≤ x5 then (some (true, h)) else (bd (X7_sign n h) (fun r49 h51 => (bp (J0_indexOf_0f7a4 n x3 r49 h51) (fun r52 => (if r52 < 0 then (some (true, h51)) else (if ((x4 >>> (r52 &&& 31)) &&& (1 : Int32)) = 0 then (bd (X2_takeItem n x1 x2 r52 (wI h51 1 2 ((h51.1 1 2) + (1 : Int32)))) (fun r54 h56 => (if r54 = true then ((X2_takeClause_77 n f) x1 x2 x3 (x4 ||| ((1 : Int32) <<< (r52 &&& 31))) (x5 + (1)) h56) else (some (false, h56))))) else (some (true, h51)))))))))
set_option maxRecDepth 100000 in
set_option maxHeartbeats 4000000 in
theorem v_X2_takeClause_77 {X : WX} {G : GX} {o : Mm} {n : Nat} {rv : Bool} {hz : Mm} : ∀ (f : Nat) (x1 : Int32) (x2 : Int32) (x3 : Nat) (x4 : Int32) (x5 : Int32) (h : Mm), isS x3 → X2_takeClause_77 n f x1 x2 x3 x4 x5 h = some (rv, hz) → V X G RX2 cX2_takeClause 7 (some .boolean) 5 0 0 (QR X G true o (some (.int (b2i rv))) hz) true o 77 [(0, .ref (xa X 3)), (1, .int x1), (2, .int x2), (3, .ref (xa X x3)), (4, .int x4), (5, .int x5)] [] h := by
  intro f
  induction f with
  | zero => intro x1 x2 x3 x4 x5 h hx3 hF; exact nomatch (show (none : Option (Bool × Mm)) = some (rv, hz) from hF)
  | succ f ih =>
    intro x1 x2 x3 x4 x5 h hx3 hF
    unfold X2_takeClause_77 at hF
    refine V.iload 5 dX2_takeClause_77 rfl ?_
    refine V.iconst (v := 3) dX2_takeClause_79 rfl ?_
    refine V.icmp_ge (tgt := 154) dX2_takeClause_80 rfl (fun c => ?_) (fun c => ?_)
    · replace hF := ip c hF
      refine V.iconst (v := 1) dX2_takeClause_154 rfl ?_
      cases hF
      exact V.bret dX2_takeClause_155
    · replace hF := iq c hF
      refine V.aload_n 3 dX2_takeClause_83 rfl rfl ?_
      refine V.aload_n 0 dX2_takeClause_84 rfl rfl ?_
      refine V.getR (v := 1) fl_X2_18 sh_3 rfl fx_3_0 (by decide) dX2_takeClause_85 ?_
      obtain ⟨r49, h51, hc50, hF⟩ := bd_s hF
      refine V.callVi mf_X7_sign ml_X2_51 sh_1 (s_X7_sign hc50) (by decide) rfl rfl (Nat.le_of_ble_eq_true rfl) dX2_takeClause_88 ?_
      obtain ⟨r52, hc53, hF⟩ := bp_s hF
      refine V.callTi mf_J0_indexOf_0f7a4 ml_X2_55 hx3 (s_J0_indexOf_0f7a4 hx3 hc53) (by decide) rfl rfl (Nat.le_of_ble_eq_true rfl) dX2_takeClause_91 ?_
      refine V.istore [(6, _), (0, _), (1, _), (2, _), (3, _), (4, _), (5, _)] dX2_takeClause_94 (by decide) rfl ?_
      refine V.iload 0 dX2_takeClause_96 rfl ?_
      refine V.if_lt (tgt := 111) dX2_takeClause_98 rfl (fun c => ?_) (fun c => ?_)
      · replace hF := ip c hF
        refine V.iconst (v := 1) dX2_takeClause_111 rfl ?_
        cases hF
        exact V.bret dX2_takeClause_112
      · replace hF := iq c hF
        refine V.iload 5 dX2_takeClause_101 rfl ?_
        refine V.iload 0 dX2_takeClause_103 rfl ?_
        refine V.ishr dX2_takeClause_105 ?_
        refine V.iconst (v := 1) dX2_takeClause_106 rfl ?_
        refine V.iand dX2_takeClause_107 ?_
        refine V.if_eq (tgt := 113) dX2_takeClause_108 rfl (fun c => ?_) (fun c => ?_)
        · replace hF := ip c hF
          refine V.iload 5 dX2_takeClause_113 rfl ?_
          refine V.iconst (v := 1) dX2_takeClause_115 rfl ?_
          refine V.iload 0 dX2_takeClause_116 rfl ?_
          refine V.ishl dX2_takeClause_118 ?_
          refine V.ior dX2_takeClause_119 ?_
          refine V.istore [(4, _), (6, _), (0, _), (1, _), (2, _), (3, _), (5, _)] dX2_takeClause_120 (by decide) rfl ?_
          refine V.aload_n 2 dX2_takeClause_122 rfl rfl ?_
          refine V.getR (v := 1) fl_X2_18 sh_3 rfl fx_3_0 (by decide) dX2_takeClause_123 ?_
          refine V.dup dX2_takeClause_126 rfl ?_
          refine V.getI fl_X2_22 sh_1 rfl km_1 dX2_takeClause_127 ?_
          refine V.iconst (v := 1) dX2_takeClause_130 rfl ?_
          refine V.iadd dX2_takeClause_131 ?_
          refine V.putI fl_X2_22 rfl (tyX7_ok 2 (by decide)) rfl rfl sh_1 rfl km_1 dX2_takeClause_132 ?_
          refine V.aload_n 2 dX2_takeClause_135 rfl rfl ?_
          refine V.iload_n 3 dX2_takeClause_136 rfl rfl ?_
          refine V.iload_n 4 dX2_takeClause_137 rfl rfl ?_
          refine V.iload 1 dX2_takeClause_138 rfl ?_
          obtain ⟨r54, h56, hc55, hF⟩ := bd_s hF
          refine V.callVi mf_X2_takeItem ml_X2_70 sh_3 (s_X2_takeItem hc55) (by decide) rfl rfl (Nat.le_of_ble_eq_true rfl) dX2_takeClause_140 ?_
          refine V.ifz_ne (tgt := 148) dX2_takeClause_143 rfl (fun c => ?_) (fun c => ?_)
          · replace hF := ip c hF
            refine V.iinc (v := (x5 + (1))) 6 [(5, _), (4, _), (6, _), (0, _), (1, _), (2, _), (3, _)] dX2_takeClause_148 rfl rfl (by decide) rfl ?_
            refine V.goto (tgt := 77) dX2_takeClause_151 rfl ?_
            exact V.sub [3, 4, 5, 6, 1, 0] rfl (ih _ _ _ _ _ _ hx3 hF)
          · replace hF := iq c hF
            refine V.iconst (v := 0) dX2_takeClause_146 rfl ?_
            cases hF
            exact V.bret dX2_takeClause_147
        · replace hF := iq c hF
          refine V.iconst (v := 1) dX2_takeClause_111 rfl ?_
          cases hF
          exact V.bret dX2_takeClause_112
def X2_takeClause_70 (n : Nat) (x1 : Int32) (x2 : Int32) (s0 : Nat) (h : Mm) : Option (Bool × Mm) := (X2_takeClause_77 n n x1 x2 s0 (0 : Int32) (0 : Int32) h)
set_option maxRecDepth 100000 in
set_option maxHeartbeats 4000000 in
theorem v_X2_takeClause_70 {X : WX} {G : GX} {o : Mm} {n : Nat} {rv : Bool} {hz : Mm} {x1 : Int32} {x2 : Int32} {s0 : Nat} (hs0 : isS s0) {h : Mm} (hF : X2_takeClause_70 n x1 x2 s0 h = some (rv, hz)) : V X G RX2 cX2_takeClause 7 (some .boolean) 5 0 0 (QR X G true o (some (.int (b2i rv))) hz) true o 70 [(0, .ref (xa X 3)), (1, .int x1), (2, .int x2)] [.ref (xa X s0)] h := by
  unfold X2_takeClause_70 at hF
  refine V.astore_n [(3, _), (0, _), (1, _), (2, _)] dX2_takeClause_70 rfl (by decide) rfl ?_
  refine V.iconst (v := 0) dX2_takeClause_71 rfl ?_
  refine V.istore [(4, _), (3, _), (0, _), (1, _), (2, _)] dX2_takeClause_72 (by decide) rfl ?_
  refine V.iconst (v := 0) dX2_takeClause_74 rfl ?_
  refine V.istore [(5, _), (4, _), (3, _), (0, _), (1, _), (2, _)] dX2_takeClause_75 (by decide) rfl ?_
  exact V.sub [3, 4, 5, 2, 1, 0] rfl (v_X2_takeClause_77 n _ _ _ _ _ _ hs0 hF)
def X2_takeClause_29 (n : Nat) (x1 : Int32) (s0 : Int32) (h : Mm) : Option (Bool × Mm) := (if 0 ≤ s0 then (if x1 = 0 then (X2_takeClause_70 n x1 s0 1021 (wI h 1 2 ((h.1 1 2) + (1 : Int32)))) else (if x1 = (1 : Int32) then (X2_takeClause_70 n x1 s0 1022 (wI h 1 2 ((h.1 1 2) + (1 : Int32)))) else (X2_takeClause_70 n x1 s0 1023 (wI h 1 2 ((h.1 1 2) + (1 : Int32)))))) else (some (false, h)))
set_option maxRecDepth 100000 in
set_option maxHeartbeats 4000000 in
theorem v_X2_takeClause_29 {X : WX} {G : GX} {o : Mm} {n : Nat} {rv : Bool} {hz : Mm} {x1 : Int32} {s0 : Int32} {h : Mm} (hF : X2_takeClause_29 n x1 s0 h = some (rv, hz)) : V X G RX2 cX2_takeClause 7 (some .boolean) 5 0 0 (QR X G true o (some (.int (b2i rv))) hz) true o 29 [(0, .ref (xa X 3)), (1, .int x1)] [.int s0] h := by
  unfold X2_takeClause_29 at hF
  refine V.istore_n [(2, _), (0, _), (1, _)] dX2_takeClause_29 rfl (by decide) rfl ?_
  refine V.iload_n 0 dX2_takeClause_30 rfl rfl ?_
  refine V.if_ge (tgt := 36) dX2_takeClause_31 rfl (fun c => ?_) (fun c => ?_)
  · replace hF := ip c hF
    refine V.aload_n 1 dX2_takeClause_36 rfl rfl ?_
    refine V.getR (v := 1) fl_X2_18 sh_3 rfl fx_3_0 (by decide) dX2_takeClause_37 ?_
    refine V.dup dX2_takeClause_40 rfl ?_
    refine V.getI fl_X2_22 sh_1 rfl km_1 dX2_takeClause_41 ?_
    refine V.iconst (v := 1) dX2_takeClause_44 rfl ?_
    refine V.iadd dX2_takeClause_45 ?_
    refine V.putI fl_X2_22 rfl (tyX7_ok 2 (by decide)) rfl rfl sh_1 rfl km_1 dX2_takeClause_46 ?_
    refine V.iload_n 2 dX2_takeClause_49 rfl rfl ?_
    refine V.if_ne (tgt := 58) dX2_takeClause_50 rfl (fun c => ?_) (fun c => ?_)
    · replace hF := iq c hF
      refine V.iload_n 2 dX2_takeClause_58 rfl rfl ?_
      refine V.iconst (v := 1) dX2_takeClause_59 rfl ?_
      refine V.icmp_ne (tgt := 68) dX2_takeClause_60 rfl (fun c => ?_) (fun c => ?_)
      · replace hF := iq c hF
        refine V.ldcS sc_1023 rfl rfl dX2_takeClause_68 ?_
        exact V.sub [1, 2, 0] rfl (v_X2_takeClause_70 ⟨by decide, by decide⟩ hF)
      · replace hF := ip c hF
        refine V.ldcS sc_1022 rfl rfl dX2_takeClause_63 ?_
        refine V.goto (tgt := 70) dX2_takeClause_65 rfl ?_
        exact V.sub [1, 2, 0] rfl (v_X2_takeClause_70 ⟨by decide, by decide⟩ hF)
    · replace hF := ip c hF
      refine V.ldcS sc_1021 rfl rfl dX2_takeClause_53 ?_
      refine V.goto (tgt := 70) dX2_takeClause_55 rfl ?_
      exact V.sub [1, 2, 0] rfl (v_X2_takeClause_70 ⟨by decide, by decide⟩ hF)
  · replace hF := iq c hF
    refine V.iconst (v := 0) dX2_takeClause_34 rfl ?_
    cases hF
    exact V.bret dX2_takeClause_35
def X2_takeClause (n : Nat) (h : Mm) : Option (Bool × Mm) := (bd (X7_sign n h) (fun r57 h59 => (bp (J0_indexOf_0f7a4 n 1020 r57 h59) (fun r60 => (if 0 ≤ r60 then (bd (X1_open n 4 r60 h59) (fun r62 h64 => (X2_takeClause_29 n r60 r62 h64))) else (X2_takeClause_29 n r60 (-1 : Int32) h59))))))
set_option maxRecDepth 100000 in
set_option maxHeartbeats 4000000 in
theorem s_X2_takeClause {X : WX} {o : Mm} {n : Nat} {rv : Bool} {hz : Mm} {h : Mm} (hF : X2_takeClause n h = some (rv, hz)) : Sat X yX2_takeClause cX2_takeClause 7 (some .boolean) 5 [.ref (xa X 3)] true o h (some (.int (b2i rv))) hz := by
  unfold X2_takeClause at hF
  refine Sat.mk (own := RX2) rfl (by decide +kernel) (Nat.le_of_ble_eq_true rfl) (fun G => ?_)
  refine V.sub (lv2 := [(0, _)]) [0] rfl ?_
  refine V.ldcS sc_1020 rfl rfl dX2_takeClause_0 ?_
  refine V.aload_n 0 dX2_takeClause_2 rfl rfl ?_
  refine V.getR (v := 1) fl_X2_18 sh_3 rfl fx_3_0 (by decide) dX2_takeClause_3 ?_
  obtain ⟨r57, h59, hc58, hF⟩ := bd_s hF
  refine V.callVi mf_X7_sign ml_X2_51 sh_1 (s_X7_sign hc58) (by decide) rfl rfl (Nat.le_of_ble_eq_true rfl) dX2_takeClause_6 ?_
  obtain ⟨r60, hc61, hF⟩ := bp_s hF
  refine V.callTi mf_J0_indexOf_0f7a4 ml_X2_55 ⟨by decide, by decide⟩ (s_J0_indexOf_0f7a4 ⟨by decide, by decide⟩ hc61) (by decide) rfl rfl (Nat.le_of_ble_eq_true rfl) dX2_takeClause_9 ?_
  refine V.istore_n [(1, _), (0, _)] dX2_takeClause_12 rfl (by decide) rfl ?_
  refine V.iload_n 0 dX2_takeClause_13 rfl rfl ?_
  refine V.if_ge (tgt := 21) dX2_takeClause_14 rfl (fun c => ?_) (fun c => ?_)
  · replace hF := ip c hF
    refine V.aload_n 1 dX2_takeClause_21 rfl rfl ?_
    refine V.getR (v := 4) fl_X2_12 sh_3 rfl fx_3_1 (by decide) dX2_takeClause_22 ?_
    refine V.iload_n 0 dX2_takeClause_25 rfl rfl ?_
    obtain ⟨r62, h64, hc63, hF⟩ := bd_s hF
    refine V.callVi mf_X1_open ml_X2_61 sh_4 (s_X1_open (Or.inl rfl) hc63) (by decide) rfl rfl (Nat.le_of_ble_eq_true rfl) dX2_takeClause_26 ?_
    exact V.sub [1, 0] rfl (v_X2_takeClause_29 hF)
  · replace hF := iq c hF
    refine V.iconst (v := -1) dX2_takeClause_17 rfl ?_
    refine V.goto (tgt := 29) dX2_takeClause_18 rfl ?_
    exact V.sub [1, 0] rfl (v_X2_takeClause_29 hF)
/-! MonsterCot$Tape.isAtEnd -/
theorem dX7_isAtEnd_0 : decode cX7_isAtEnd 0 = .ok (.aload_n 0, 1) := by decide +kernel
theorem dX7_isAtEnd_1 : decode cX7_isAtEnd 1 = .ok (.invokevirtual 30, 3) := by decide +kernel
theorem dX7_isAtEnd_4 : decode cX7_isAtEnd 4 = .ok (.ifCond .ne 7, 3) := by decide +kernel
theorem dX7_isAtEnd_7 : decode cX7_isAtEnd 7 = .ok (.iconst 1, 1) := by decide +kernel
theorem dX7_isAtEnd_8 : decode cX7_isAtEnd 8 = .ok (.goto 4, 3) := by decide +kernel
theorem dX7_isAtEnd_11 : decode cX7_isAtEnd 11 = .ok (.iconst 0, 1) := by decide +kernel
theorem dX7_isAtEnd_12 : decode cX7_isAtEnd 12 = .ok (.ireturn, 1) := by decide +kernel
def X7_isAtEnd (n : Nat) (h : Mm) : Option (Bool × Mm) := (bd (X7_sign n h) (fun r4 h6 => (if r4 = 0 then (some (true, h6)) else (some (false, h6)))))
set_option maxRecDepth 100000 in
set_option maxHeartbeats 4000000 in
theorem s_X7_isAtEnd {X : WX} {o : Mm} {n : Nat} {rv : Bool} {hz : Mm} {h : Mm} (hF : X7_isAtEnd n h = some (rv, hz)) : Sat X yX7_isAtEnd cX7_isAtEnd 1 (some .boolean) 2 [.ref (xa X 1)] true o h (some (.int (b2i rv))) hz := by
  unfold X7_isAtEnd at hF
  refine Sat.mk (own := RX7) rfl (by decide +kernel) (Nat.le_of_ble_eq_true rfl) (fun G => ?_)
  refine V.sub (lv2 := [(0, _)]) [0] rfl ?_
  refine V.aload_n 0 dX7_isAtEnd_0 rfl rfl ?_
  obtain ⟨r4, h6, hc5, hF⟩ := bd_s hF
  refine V.callVi mf_X7_sign ml_X7_30 sh_1 (s_X7_sign hc5) (by decide) rfl rfl (Nat.le_of_ble_eq_true rfl) dX7_isAtEnd_1 ?_
  refine V.if_ne (tgt := 11) dX7_isAtEnd_4 rfl (fun c => ?_) (fun c => ?_)
  · replace hF := iq c hF
    refine V.iconst (v := 0) dX7_isAtEnd_11 rfl ?_
    cases hF
    exact V.bret dX7_isAtEnd_12
  · replace hF := ip c hF
    refine V.iconst (v := 1) dX7_isAtEnd_7 rfl ?_
    refine V.goto (tgt := 12) dX7_isAtEnd_8 rfl ?_
    cases hF
    exact V.bret dX7_isAtEnd_12
