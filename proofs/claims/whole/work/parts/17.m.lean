/-! MonsterCot.count -/
theorem dX11_count_0 : decode cX11_count 0 = .ok (.iload_n 1, 1) := by decide +kernel
theorem dX11_count_1 : decode cX11_count 1 = .ok (.tableswitch 87 0 5 #[39, 47, 55, 63, 71, 79], 39) := by decide +kernel
theorem dX11_count_40 : decode cX11_count 40 = .ok (.aload_n 0, 1) := by decide +kernel
theorem dX11_count_41 : decode cX11_count 41 = .ok (.getfield 42, 3) := by decide +kernel
theorem dX11_count_44 : decode cX11_count 44 = .ok (.invokevirtual 379, 3) := by decide +kernel
theorem dX11_count_47 : decode cX11_count 47 = .ok (.ireturn, 1) := by decide +kernel
theorem dX11_count_48 : decode cX11_count 48 = .ok (.aload_n 0, 1) := by decide +kernel
theorem dX11_count_49 : decode cX11_count 49 = .ok (.getfield 42, 3) := by decide +kernel
theorem dX11_count_52 : decode cX11_count 52 = .ok (.invokevirtual 309, 3) := by decide +kernel
theorem dX11_count_55 : decode cX11_count 55 = .ok (.ireturn, 1) := by decide +kernel
theorem dX11_count_56 : decode cX11_count 56 = .ok (.aload_n 0, 1) := by decide +kernel
theorem dX11_count_57 : decode cX11_count 57 = .ok (.getfield 49, 3) := by decide +kernel
theorem dX11_count_60 : decode cX11_count 60 = .ok (.getfield 382, 3) := by decide +kernel
theorem dX11_count_63 : decode cX11_count 63 = .ok (.ireturn, 1) := by decide +kernel
theorem dX11_count_64 : decode cX11_count 64 = .ok (.aload_n 0, 1) := by decide +kernel
theorem dX11_count_65 : decode cX11_count 65 = .ok (.getfield 35, 3) := by decide +kernel
theorem dX11_count_68 : decode cX11_count 68 = .ok (.getfield 383, 3) := by decide +kernel
theorem dX11_count_71 : decode cX11_count 71 = .ok (.ireturn, 1) := by decide +kernel
theorem dX11_count_72 : decode cX11_count 72 = .ok (.aload_n 0, 1) := by decide +kernel
theorem dX11_count_73 : decode cX11_count 73 = .ok (.getfield 10, 3) := by decide +kernel
theorem dX11_count_76 : decode cX11_count 76 = .ok (.getfield 99, 3) := by decide +kernel
theorem dX11_count_79 : decode cX11_count 79 = .ok (.ireturn, 1) := by decide +kernel
theorem dX11_count_80 : decode cX11_count 80 = .ok (.aload_n 0, 1) := by decide +kernel
theorem dX11_count_81 : decode cX11_count 81 = .ok (.getfield 49, 3) := by decide +kernel
theorem dX11_count_84 : decode cX11_count 84 = .ok (.getfield 384, 3) := by decide +kernel
theorem dX11_count_87 : decode cX11_count 87 = .ok (.ireturn, 1) := by decide +kernel
theorem dX11_count_88 : decode cX11_count 88 = .ok (.aload_n 0, 1) := by decide +kernel
theorem dX11_count_89 : decode cX11_count 89 = .ok (.iload_n 1, 1) := by decide +kernel
theorem dX11_count_90 : decode cX11_count 90 = .ok (.invokevirtual 387, 3) := by decide +kernel
theorem dX11_count_93 : decode cX11_count 93 = .ok (.ireturn, 1) := by decide +kernel
def X11_count (x1 : Int32) (h : Mm) : Option Int32 := (if x1 = 0 then (bp (X1_houses 13 h) (fun r7 => (some r7))) else (if x1 = 1 then (bp (X1_books 13 h) (fun r9 => (some r9))) else (if x1 = 2 then (some (h.1 16 5)) else (if x1 = 3 then (some (h.1 9 5)) else (if x1 = 4 then (some (h.1 1 1)) else (if x1 = 5 then (some (h.1 16 6)) else (bp (X11_countOfNow x1 h) (fun r11 => (some r11)))))))))
set_option maxRecDepth 100000 in
set_option maxHeartbeats 4000000 in
theorem s_X11_count {X : WX} {o : Mm} {x1 : Int32} {rv : Int32} {h : Mm} (hF : X11_count x1 h = some rv) : Sat X yX11_count cX11_count 2 (some .int) 4 [.ref (xa X 0), .int x1] true o h (some (.int rv)) h := by
  unfold X11_count at hF
  refine Sat.mk (own := RX11) rfl (by decide +kernel) (Nat.le_of_ble_eq_true rfl) (fun G => ?_)
  refine V.sub (lv2 := [(0, _), (1, _)]) [0, 1] rfl ?_
  refine V.iload_n 1 dX11_count_0 rfl rfl ?_
  by_cases c0 : x1 = 0
  · replace hF := (if_pos c0).symm.trans hF
    refine V.tswIn (tgt := 40) c0 dX11_count_1 (by decide) (by decide) rfl rfl ?_
    refine V.aload_n 0 dX11_count_40 rfl rfl ?_
    refine V.getR (v := 13) fl_X11_42 sh_0 rfl fx_0_4 (by decide) dX11_count_41 ?_
    obtain ⟨r7, hc8, hF⟩ := bp_s hF
    refine V.callVi mf_X1_houses ml_X11_379 sh_13 (s_X1_houses (Or.inr rfl) hc8) (by decide) rfl rfl (Nat.le_of_ble_eq_true rfl) dX11_count_44 ?_
    cases hF
    exact V.iret dX11_count_47
  replace hF := (if_neg c0).symm.trans hF
  by_cases c1 : x1 = 1
  · replace hF := (if_pos c1).symm.trans hF
    refine V.tswIn (tgt := 48) c1 dX11_count_1 (by decide) (by decide) rfl rfl ?_
    refine V.aload_n 0 dX11_count_48 rfl rfl ?_
    refine V.getR (v := 13) fl_X11_42 sh_0 rfl fx_0_4 (by decide) dX11_count_49 ?_
    obtain ⟨r9, hc10, hF⟩ := bp_s hF
    refine V.callVi mf_X1_books ml_X11_309 sh_13 (s_X1_books (Or.inr rfl) hc10) (by decide) rfl rfl (Nat.le_of_ble_eq_true rfl) dX11_count_52 ?_
    cases hF
    exact V.iret dX11_count_55
  replace hF := (if_neg c1).symm.trans hF
  by_cases c2 : x1 = 2
  · replace hF := (if_pos c2).symm.trans hF
    refine V.tswIn (tgt := 56) c2 dX11_count_1 (by decide) (by decide) rfl rfl ?_
    refine V.aload_n 0 dX11_count_56 rfl rfl ?_
    refine V.getR (v := 16) fl_X11_49 sh_0 rfl fx_0_5 (by decide) dX11_count_57 ?_
    refine V.getI fl_X11_382 sh_16 rfl km_16 dX11_count_60 ?_
    cases hF
    exact V.iret dX11_count_63
  replace hF := (if_neg c2).symm.trans hF
  by_cases c3 : x1 = 3
  · replace hF := (if_pos c3).symm.trans hF
    refine V.tswIn (tgt := 64) c3 dX11_count_1 (by decide) (by decide) rfl rfl ?_
    refine V.aload_n 0 dX11_count_64 rfl rfl ?_
    refine V.getR (v := 9) fl_X11_35 sh_0 rfl fx_0_3 (by decide) dX11_count_65 ?_
    refine V.getI fl_X11_383 sh_9 rfl km_9 dX11_count_68 ?_
    cases hF
    exact V.iret dX11_count_71
  replace hF := (if_neg c3).symm.trans hF
  by_cases c4 : x1 = 4
  · replace hF := (if_pos c4).symm.trans hF
    refine V.tswIn (tgt := 72) c4 dX11_count_1 (by decide) (by decide) rfl rfl ?_
    refine V.aload_n 0 dX11_count_72 rfl rfl ?_
    refine V.getR (v := 1) fl_X11_10 sh_0 rfl fx_0_0 (by decide) dX11_count_73 ?_
    refine V.getI fl_X11_99 sh_1 rfl km_1 dX11_count_76 ?_
    cases hF
    exact V.iret dX11_count_79
  replace hF := (if_neg c4).symm.trans hF
  by_cases c5 : x1 = 5
  · replace hF := (if_pos c5).symm.trans hF
    refine V.tswIn (tgt := 80) c5 dX11_count_1 (by decide) (by decide) rfl rfl ?_
    refine V.aload_n 0 dX11_count_80 rfl rfl ?_
    refine V.getR (v := 16) fl_X11_49 sh_0 rfl fx_0_5 (by decide) dX11_count_81 ?_
    refine V.getI fl_X11_384 sh_16 rfl km_16 dX11_count_84 ?_
    cases hF
    exact V.iret dX11_count_87
  replace hF := (if_neg c5).symm.trans hF
  refine V.tswOut (tgt := 88) dX11_count_1 (tsw_out (by decide) (by decide) [0, 1, 2, 3, 4, 5] rfl (fun v hv => ?_)) rfl ?_
  · simp only [List.mem_cons, List.not_mem_nil, or_false] at hv
    rcases hv with rfl | rfl | rfl | rfl | rfl | rfl <;> assumption
  refine V.aload_n 0 dX11_count_88 rfl rfl ?_
  refine V.iload_n 1 dX11_count_89 rfl rfl ?_
  obtain ⟨r11, hc12, hF⟩ := bp_s hF
  refine V.callVi mf_X11_countOfNow ml_X11_387 sh_0 (s_X11_countOfNow hc12) (by decide) rfl rfl (Nat.le_of_ble_eq_true rfl) dX11_count_90 ?_
  cases hF
  exact V.iret dX11_count_93
/-! MonsterCotModel.thrown -/
theorem dX12_thrown_0 : decode cX12_thrown 0 = .ok (.aload_n 0, 1) := by decide +kernel
theorem dX12_thrown_1 : decode cX12_thrown 1 = .ok (.getfield 93, 3) := by decide +kernel
theorem dX12_thrown_4 : decode cX12_thrown 4 = .ok (.ireturn, 1) := by decide +kernel
def X12_thrown (h : Mm) : Option Int32 := (some (h.1 251 0))
set_option maxRecDepth 100000 in
set_option maxHeartbeats 4000000 in
theorem s_X12_thrown {X : WX} {o : Mm} {rv : Int32} {h : Mm} (hF : X12_thrown h = some rv) : Sat X yX12_thrown cX12_thrown 1 (some .int) 1 [.ref (xa X 251)] false o h (some (.int rv)) h := by
  unfold X12_thrown at hF
  refine Sat.mk (own := RX12) rfl (by decide +kernel) (Nat.le_of_ble_eq_true rfl) (fun G => ?_)
  refine V.sub (lv2 := [(0, _)]) [0] rfl ?_
  refine V.aload_n 0 dX12_thrown_0 rfl rfl ?_
  refine V.getI fl_X12_93 sh_251 rfl km_251 dX12_thrown_1 ?_
  cases hF
  exact V.iret dX12_thrown_4
/-! MonsterCotModel.isIn -/
theorem dX12_isIn_0 : decode cX12_isIn 0 = .ok (.lload_n 0, 1) := by decide +kernel
theorem dX12_isIn_1 : decode cX12_isIn 1 = .ok (.lload_n 2, 1) := by decide +kernel
theorem dX12_isIn_2 : decode cX12_isIn 2 = .ok (.lcmp, 1) := by decide +kernel
theorem dX12_isIn_3 : decode cX12_isIn 3 = .ok (.ifCond .lt 14, 3) := by decide +kernel
theorem dX12_isIn_6 : decode cX12_isIn 6 = .ok (.lload_n 0, 1) := by decide +kernel
theorem dX12_isIn_7 : decode cX12_isIn 7 = .ok (.lload 4, 2) := by decide +kernel
theorem dX12_isIn_9 : decode cX12_isIn 9 = .ok (.lcmp, 1) := by decide +kernel
theorem dX12_isIn_10 : decode cX12_isIn 10 = .ok (.ifCond .gt 7, 3) := by decide +kernel
theorem dX12_isIn_13 : decode cX12_isIn 13 = .ok (.iconst 1, 1) := by decide +kernel
theorem dX12_isIn_14 : decode cX12_isIn 14 = .ok (.goto 4, 3) := by decide +kernel
theorem dX12_isIn_17 : decode cX12_isIn 17 = .ok (.iconst 0, 1) := by decide +kernel
theorem dX12_isIn_18 : decode cX12_isIn 18 = .ok (.ireturn, 1) := by decide +kernel
def X12_isIn (x0 : Int64) (x2 : Int64) (x4 : Int64) (h : Mm) : Option Bool := (if (lg_cmp x0 x2) < 0 then (some false) else (if 0 < (lg_cmp x0 x4) then (some false) else (some true)))
set_option maxRecDepth 100000 in
set_option maxHeartbeats 4000000 in
theorem s_X12_isIn {X : WX} {o : Mm} {x0 : Int64} {x2 : Int64} {x4 : Int64} {rv : Bool} {h : Mm} (hF : X12_isIn x0 x2 x4 h = some rv) : Sat X yX12_isIn cX12_isIn 6 (some .boolean) 1 [.long x0, .long x2, .long x4] false o h (some (.int (b2i rv))) h := by
  unfold X12_isIn at hF
  refine Sat.mk (own := RX12) rfl (by decide +kernel) (Nat.le_of_ble_eq_true rfl) (fun G => ?_)
  refine V.sub (lv2 := [(0, _), (2, _), (4, _)]) [0, 1, 2] rfl ?_
  refine V.lload_n 0 dX12_isIn_0 rfl rfl ?_
  refine V.lload_n 1 dX12_isIn_1 rfl rfl ?_
  refine V.lcmp dX12_isIn_2 ?_
  refine V.if_lt (tgt := 17) dX12_isIn_3 rfl (fun c => ?_) (fun c => ?_)
  · replace hF := (if_pos c).symm.trans hF
    refine V.iconst (v := 0) dX12_isIn_17 rfl ?_
    cases hF
    exact V.bret dX12_isIn_18
  · replace hF := (if_neg c).symm.trans hF
    refine V.lload_n 0 dX12_isIn_6 rfl rfl ?_
    refine V.lload 2 dX12_isIn_7 rfl ?_
    refine V.lcmp dX12_isIn_9 ?_
    refine V.if_gt (tgt := 17) dX12_isIn_10 rfl (fun c => ?_) (fun c => ?_)
    · replace hF := (if_pos c).symm.trans hF
      refine V.iconst (v := 0) dX12_isIn_17 rfl ?_
      cases hF
      exact V.bret dX12_isIn_18
    · replace hF := (if_neg c).symm.trans hF
      refine V.iconst (v := 1) dX12_isIn_13 rfl ?_
      refine V.goto (tgt := 18) dX12_isIn_14 rfl ?_
      cases hF
      exact V.bret dX12_isIn_18
/-! MonsterCotModel.has -/
theorem dX12_has_0 : decode cX12_has 0 = .ok (.iload_n 0, 1) := by decide +kernel
theorem dX12_has_1 : decode cX12_has 1 = .ok (.iload_n 1, 1) := by decide +kernel
theorem dX12_has_2 : decode cX12_has 2 = .ok (.ishr, 1) := by decide +kernel
theorem dX12_has_3 : decode cX12_has 3 = .ok (.iconst 1, 1) := by decide +kernel
theorem dX12_has_4 : decode cX12_has 4 = .ok (.iand, 1) := by decide +kernel
theorem dX12_has_5 : decode cX12_has 5 = .ok (.iconst 1, 1) := by decide +kernel
theorem dX12_has_6 : decode cX12_has 6 = .ok (.if_icmp .ne 7, 3) := by decide +kernel
theorem dX12_has_9 : decode cX12_has 9 = .ok (.iconst 1, 1) := by decide +kernel
theorem dX12_has_10 : decode cX12_has 10 = .ok (.goto 4, 3) := by decide +kernel
theorem dX12_has_13 : decode cX12_has 13 = .ok (.iconst 0, 1) := by decide +kernel
theorem dX12_has_14 : decode cX12_has 14 = .ok (.ireturn, 1) := by decide +kernel
def X12_has (x0 : Int32) (x1 : Int32) (h : Mm) : Option Bool := (if ((x0 >>> (x1 &&& 31)) &&& (1)) = (1) then (some true) else (some false))
set_option maxRecDepth 100000 in
set_option maxHeartbeats 4000000 in
theorem s_X12_has {X : WX} {o : Mm} {x0 : Int32} {x1 : Int32} {rv : Bool} {h : Mm} (hF : X12_has x0 x1 h = some rv) : Sat X yX12_has cX12_has 2 (some .boolean) 1 [.int x0, .int x1] false o h (some (.int (b2i rv))) h := by
  unfold X12_has at hF
  refine Sat.mk (own := RX12) rfl (by decide +kernel) (Nat.le_of_ble_eq_true rfl) (fun G => ?_)
  refine V.sub (lv2 := [(0, _), (1, _)]) [0, 1] rfl ?_
  refine V.iload_n 0 dX12_has_0 rfl rfl ?_
  refine V.iload_n 1 dX12_has_1 rfl rfl ?_
  refine V.ishr dX12_has_2 ?_
  refine V.iconst (v := 1) dX12_has_3 rfl ?_
  refine V.iand dX12_has_4 ?_
  refine V.iconst (v := 1) dX12_has_5 rfl ?_
  refine V.icmp_ne (tgt := 13) dX12_has_6 rfl (fun c => ?_) (fun c => ?_)
  · replace hF := (if_neg c).symm.trans hF
    refine V.iconst (v := 0) dX12_has_13 rfl ?_
    cases hF
    exact V.bret dX12_has_14
  · replace hF := (if_pos c).symm.trans hF
    refine V.iconst (v := 1) dX12_has_9 rfl ?_
    refine V.goto (tgt := 14) dX12_has_10 rfl ?_
    cases hF
    exact V.bret dX12_has_14
/-! MonsterCotModel.isAmong -/
theorem dX12_isAmong_0 : decode cX12_isAmong 0 = .ok (.iconst 0, 1) := by decide +kernel
theorem dX12_isAmong_1 : decode cX12_isAmong 1 = .ok (.istore_n 2, 1) := by decide +kernel
theorem dX12_isAmong_2 : decode cX12_isAmong 2 = .ok (.iload_n 2, 1) := by decide +kernel
theorem dX12_isAmong_3 : decode cX12_isAmong 3 = .ok (.aload_n 0, 1) := by decide +kernel
theorem dX12_isAmong_4 : decode cX12_isAmong 4 = .ok (.invokevirtual 96, 3) := by decide +kernel
theorem dX12_isAmong_7 : decode cX12_isAmong 7 = .ok (.if_icmp .ge 20, 3) := by decide +kernel
theorem dX12_isAmong_10 : decode cX12_isAmong 10 = .ok (.aload_n 0, 1) := by decide +kernel
theorem dX12_isAmong_11 : decode cX12_isAmong 11 = .ok (.iload_n 2, 1) := by decide +kernel
theorem dX12_isAmong_12 : decode cX12_isAmong 12 = .ok (.invokevirtual 102, 3) := by decide +kernel
theorem dX12_isAmong_15 : decode cX12_isAmong 15 = .ok (.iload_n 1, 1) := by decide +kernel
theorem dX12_isAmong_16 : decode cX12_isAmong 16 = .ok (.if_icmp .ne 5, 3) := by decide +kernel
theorem dX12_isAmong_19 : decode cX12_isAmong 19 = .ok (.iconst 1, 1) := by decide +kernel
theorem dX12_isAmong_20 : decode cX12_isAmong 20 = .ok (.ireturn, 1) := by decide +kernel
theorem dX12_isAmong_21 : decode cX12_isAmong 21 = .ok (.iinc 2 1, 3) := by decide +kernel
theorem dX12_isAmong_24 : decode cX12_isAmong 24 = .ok (.goto (-22), 3) := by decide +kernel
theorem dX12_isAmong_27 : decode cX12_isAmong 27 = .ok (.iconst 0, 1) := by decide +kernel
theorem dX12_isAmong_28 : decode cX12_isAmong 28 = .ok (.ireturn, 1) := by decide +kernel
def X12_isAmong_2 (n : Nat) (a0 : Nat) : Nat → Int32 → Int32 → Mm → Option Bool
  | 0, _, _, _ => none
  | f + 1, x1, x2, h => (bp (J0_length_8abf5 a0  h) (fun r9 => (if r9 ≤ x2 then (some false) else (bp (J0_charAt_5068e a0 x2 h) (fun r11 => (if r11 = x1 then (some true) else ((X12_isAmong_2 n a0 f) x1 (x2 + (1)) h)))))))
set_option maxRecDepth 100000 in
set_option maxHeartbeats 4000000 in
theorem v_X12_isAmong_2 {X : WX} {G : GX} {o : Mm} {n : Nat} {a0 : Nat} {rv : Bool} {h : Mm} (ha0 : isS a0) : ∀ (f : Nat) (x1 : Int32) (x2 : Int32), X12_isAmong_2 n a0 f x1 x2 h = some rv → V X G RX12 cX12_isAmong 3 (some .boolean) 5 0 0 (QR X G false o (some (.int (b2i rv))) h) false o 2 [(0, .ref (xa X a0)), (1, .int x1), (2, .int x2)] [] h := by
  intro f
  induction f with
  | zero => intro x1 x2 hF; exact nomatch (show (none : Option Bool) = some rv from hF)
  | succ f ih =>
    intro x1 x2 hF
    unfold X12_isAmong_2 at hF
    refine V.iload_n 2 dX12_isAmong_2 rfl rfl ?_
    refine V.aload_n 0 dX12_isAmong_3 rfl rfl ?_
    obtain ⟨r9, hc10, hF⟩ := bp_s hF
    refine V.callTi mf_J0_length_8abf5 ml_X12_96 ha0 (s_J0_length_8abf5 ha0 hc10) (by decide) rfl rfl (Nat.le_of_ble_eq_true rfl) dX12_isAmong_4 ?_
    refine V.icmp_ge (tgt := 27) dX12_isAmong_7 rfl (fun c => ?_) (fun c => ?_)
    · replace hF := (if_pos c).symm.trans hF
      refine V.iconst (v := 0) dX12_isAmong_27 rfl ?_
      cases hF
      exact V.bret dX12_isAmong_28
    · replace hF := (if_neg c).symm.trans hF
      refine V.aload_n 0 dX12_isAmong_10 rfl rfl ?_
      refine V.iload_n 2 dX12_isAmong_11 rfl rfl ?_
      obtain ⟨r11, hc12, hF⟩ := bp_s hF
      refine V.callTi mf_J0_charAt_5068e ml_X12_102 ha0 (s_J0_charAt_5068e ha0 hc12) (by decide) rfl rfl (Nat.le_of_ble_eq_true rfl) dX12_isAmong_12 ?_
      refine V.iload_n 1 dX12_isAmong_15 rfl rfl ?_
      refine V.icmp_ne (tgt := 21) dX12_isAmong_16 rfl (fun c => ?_) (fun c => ?_)
      · replace hF := (if_neg c).symm.trans hF
        refine V.iinc (v := (x2 + (1))) 2 [(2, _), (0, _), (1, _)] dX12_isAmong_21 rfl rfl (by decide) rfl ?_
        refine V.goto (tgt := 2) dX12_isAmong_24 rfl ?_
        exact V.sub [1, 2, 0] rfl (ih _ _ hF)
      · replace hF := (if_pos c).symm.trans hF
        refine V.iconst (v := 1) dX12_isAmong_19 rfl ?_
        cases hF
        exact V.bret dX12_isAmong_20
def X12_isAmong (n : Nat) (a0 : Nat) (x1 : Int32) (h : Mm) : Option Bool := (X12_isAmong_2 n a0 n x1 (0) h)
set_option maxRecDepth 100000 in
set_option maxHeartbeats 4000000 in
theorem s_X12_isAmong {X : WX} {o : Mm} {n : Nat} {a0 : Nat} {x1 : Int32} {rv : Bool} {h : Mm} (ha0 : isS a0) (hF : X12_isAmong n a0 x1 h = some rv) : Sat X yX12_isAmong cX12_isAmong 3 (some .boolean) 5 [.ref (xa X a0), .int x1] false o h (some (.int (b2i rv))) h := by
  unfold X12_isAmong at hF
  refine Sat.mk (own := RX12) rfl (by decide +kernel) (Nat.le_of_ble_eq_true rfl) (fun G => ?_)
  refine V.sub (lv2 := [(0, _), (1, _)]) [0, 1] rfl ?_
  refine V.iconst (v := 0) dX12_isAmong_0 rfl ?_
  refine V.istore_n [(2, _), (0, _), (1, _)] dX12_isAmong_1 rfl (by decide) rfl ?_
  exact V.sub [1, 2, 0] rfl (v_X12_isAmong_2 ha0 n _ _ hF)
/-! MonsterCotModel.bytesIn -/
theorem dX12_bytesIn_0 : decode cX12_bytesIn 0 = .ok (.iconst 0, 1) := by decide +kernel
theorem dX12_bytesIn_1 : decode cX12_bytesIn 1 = .ok (.istore_n 1, 1) := by decide +kernel
theorem dX12_bytesIn_2 : decode cX12_bytesIn 2 = .ok (.bipush 24, 2) := by decide +kernel
theorem dX12_bytesIn_4 : decode cX12_bytesIn 4 = .ok (.istore_n 2, 1) := by decide +kernel
theorem dX12_bytesIn_5 : decode cX12_bytesIn 5 = .ok (.iload_n 2, 1) := by decide +kernel
theorem dX12_bytesIn_6 : decode cX12_bytesIn 6 = .ok (.ifCond .lt 27, 3) := by decide +kernel
theorem dX12_bytesIn_9 : decode cX12_bytesIn 9 = .ok (.iload_n 1, 1) := by decide +kernel
theorem dX12_bytesIn_10 : decode cX12_bytesIn 10 = .ok (.iload_n 0, 1) := by decide +kernel
theorem dX12_bytesIn_11 : decode cX12_bytesIn 11 = .ok (.iload_n 2, 1) := by decide +kernel
theorem dX12_bytesIn_12 : decode cX12_bytesIn 12 = .ok (.ishr, 1) := by decide +kernel
theorem dX12_bytesIn_13 : decode cX12_bytesIn 13 = .ok (.sipush 255, 3) := by decide +kernel
theorem dX12_bytesIn_16 : decode cX12_bytesIn 16 = .ok (.iand, 1) := by decide +kernel
theorem dX12_bytesIn_17 : decode cX12_bytesIn 17 = .ok (.ifCond .eq 7, 3) := by decide +kernel
theorem dX12_bytesIn_20 : decode cX12_bytesIn 20 = .ok (.iconst 1, 1) := by decide +kernel
theorem dX12_bytesIn_21 : decode cX12_bytesIn 21 = .ok (.goto 4, 3) := by decide +kernel
theorem dX12_bytesIn_24 : decode cX12_bytesIn 24 = .ok (.iconst 0, 1) := by decide +kernel
theorem dX12_bytesIn_25 : decode cX12_bytesIn 25 = .ok (.iadd, 1) := by decide +kernel
theorem dX12_bytesIn_26 : decode cX12_bytesIn 26 = .ok (.istore_n 1, 1) := by decide +kernel
theorem dX12_bytesIn_27 : decode cX12_bytesIn 27 = .ok (.iinc 2 (-8), 3) := by decide +kernel
theorem dX12_bytesIn_30 : decode cX12_bytesIn 30 = .ok (.goto (-25), 3) := by decide +kernel
theorem dX12_bytesIn_33 : decode cX12_bytesIn 33 = .ok (.iload_n 1, 1) := by decide +kernel
theorem dX12_bytesIn_34 : decode cX12_bytesIn 34 = .ok (.ireturn, 1) := by decide +kernel
def X12_bytesIn_25 (n : Nat) (K5 : Int32 → Int32 → Int32 → Mm → Option Int32) (x0 : Int32) (x2 : Int32) (s0 : Int32) (s1 : Bool) (h : Mm) : Option Int32 := (K5 x0 (s0 + (b2i s1)) (x2 + (-8)) h)
set_option maxRecDepth 100000 in
set_option maxHeartbeats 4000000 in
theorem v_X12_bytesIn_25 {X : WX} {G : GX} {o : Mm} {n : Nat} {K5 : Int32 → Int32 → Int32 → Mm → Option Int32} {rv : Int32} {h : Mm} (hK5 : ∀ (x0 : Int32) (x1 : Int32) (x2 : Int32), K5 x0 x1 x2 h = some rv → V X G RX12 cX12_bytesIn 3 (some .int) 1 0 0 (QR X G false o (some (.int rv)) h) false o 5 [(0, .int x0), (1, .int x1), (2, .int x2)] [] h) {x0 : Int32} {x2 : Int32} {s0 : Int32} {s1 : Bool} (hF : X12_bytesIn_25 n K5 x0 x2 s0 s1 h = some rv) : V X G RX12 cX12_bytesIn 3 (some .int) 1 0 0 (QR X G false o (some (.int rv)) h) false o 25 [(0, .int x0), (2, .int x2)] [.int (b2i s1), .int s0] h := by
  unfold X12_bytesIn_25 at hF
  refine V.iadd dX12_bytesIn_25 ?_
  refine V.istore_n [(1, _), (0, _), (2, _)] dX12_bytesIn_26 rfl (by decide) rfl ?_
  refine V.iinc (v := (x2 + (-8))) 2 [(2, _), (1, _), (0, _)] dX12_bytesIn_27 rfl rfl (by decide) rfl ?_
  refine V.goto (tgt := 5) dX12_bytesIn_30 rfl ?_
  exact V.sub [2, 1, 0] rfl (hK5 _ _ _ hF)
def X12_bytesIn_5 (n : Nat) : Nat → Int32 → Int32 → Int32 → Mm → Option Int32
  | 0, _, _, _, _ => none
  | f + 1, x0, x1, x2, h => (if x2 < 0 then (some x1) else (if ((x0 >>> (x2 &&& 31)) &&& (255)) = 0 then (X12_bytesIn_25 n (X12_bytesIn_5 n f) x0 x2 x1 false h) else (X12_bytesIn_25 n (X12_bytesIn_5 n f) x0 x2 x1 true h)))
set_option maxRecDepth 100000 in
set_option maxHeartbeats 4000000 in
theorem v_X12_bytesIn_5 {X : WX} {G : GX} {o : Mm} {n : Nat} {rv : Int32} {h : Mm} : ∀ (f : Nat) (x0 : Int32) (x1 : Int32) (x2 : Int32), X12_bytesIn_5 n f x0 x1 x2 h = some rv → V X G RX12 cX12_bytesIn 3 (some .int) 1 0 0 (QR X G false o (some (.int rv)) h) false o 5 [(0, .int x0), (1, .int x1), (2, .int x2)] [] h := by
  intro f
  induction f with
  | zero => intro x0 x1 x2 hF; exact nomatch (show (none : Option Int32) = some rv from hF)
  | succ f ih =>
    intro x0 x1 x2 hF
    unfold X12_bytesIn_5 at hF
    refine V.iload_n 2 dX12_bytesIn_5 rfl rfl ?_
    refine V.if_lt (tgt := 33) dX12_bytesIn_6 rfl (fun c => ?_) (fun c => ?_)
    · replace hF := (if_pos c).symm.trans hF
      refine V.iload_n 1 dX12_bytesIn_33 rfl rfl ?_
      cases hF
      exact V.iret dX12_bytesIn_34
    · replace hF := (if_neg c).symm.trans hF
      refine V.iload_n 1 dX12_bytesIn_9 rfl rfl ?_
      refine V.iload_n 0 dX12_bytesIn_10 rfl rfl ?_
      refine V.iload_n 2 dX12_bytesIn_11 rfl rfl ?_
      refine V.ishr dX12_bytesIn_12 ?_
      refine V.sipush (v := 255) dX12_bytesIn_13 (by decide) ?_
      refine V.iand dX12_bytesIn_16 ?_
      refine V.if_eq (tgt := 24) dX12_bytesIn_17 rfl (fun c => ?_) (fun c => ?_)
      · replace hF := (if_pos c).symm.trans hF
        refine V.iconst (v := 0) dX12_bytesIn_24 rfl ?_
        exact V.sub [0, 2] rfl (v_X12_bytesIn_25 ih hF)
      · replace hF := (if_neg c).symm.trans hF
        refine V.iconst (v := 1) dX12_bytesIn_20 rfl ?_
        refine V.goto (tgt := 25) dX12_bytesIn_21 rfl ?_
        exact V.sub [0, 2] rfl (v_X12_bytesIn_25 ih hF)
def X12_bytesIn (n : Nat) (x0 : Int32) (h : Mm) : Option Int32 := (X12_bytesIn_5 n n x0 (0) (24) h)
set_option maxRecDepth 100000 in
set_option maxHeartbeats 4000000 in
theorem s_X12_bytesIn {X : WX} {o : Mm} {n : Nat} {x0 : Int32} {rv : Int32} {h : Mm} (hF : X12_bytesIn n x0 h = some rv) : Sat X yX12_bytesIn cX12_bytesIn 3 (some .int) 1 [.int x0] false o h (some (.int rv)) h := by
  unfold X12_bytesIn at hF
  refine Sat.mk (own := RX12) rfl (by decide +kernel) (Nat.le_of_ble_eq_true rfl) (fun G => ?_)
  refine V.sub (lv2 := [(0, _)]) [0] rfl ?_
  refine V.iconst (v := 0) dX12_bytesIn_0 rfl ?_
  refine V.istore_n [(1, _), (0, _)] dX12_bytesIn_1 rfl (by decide) rfl ?_
  refine V.bipush (v := 24) dX12_bytesIn_2 (by decide) ?_
  refine V.istore_n [(2, _), (1, _), (0, _)] dX12_bytesIn_4 rfl (by decide) rfl ?_
  exact V.sub [2, 1, 0] rfl (v_X12_bytesIn_5 n _ _ _ hF)
/-! MonsterCotModel.put -/
theorem dX12_put_0 : decode cX12_put 0 = .ok (.bipush 24, 2) := by decide +kernel
theorem dX12_put_2 : decode cX12_put 2 = .ok (.istore_n 2, 1) := by decide +kernel
theorem dX12_put_3 : decode cX12_put 3 = .ok (.iload_n 2, 1) := by decide +kernel
theorem dX12_put_4 : decode cX12_put 4 = .ok (.ifCond .lt 45, 3) := by decide +kernel
theorem dX12_put_7 : decode cX12_put 7 = .ok (.iload_n 1, 1) := by decide +kernel
theorem dX12_put_8 : decode cX12_put 8 = .ok (.iload_n 2, 1) := by decide +kernel
theorem dX12_put_9 : decode cX12_put 9 = .ok (.ishr, 1) := by decide +kernel
theorem dX12_put_10 : decode cX12_put 10 = .ok (.sipush 255, 3) := by decide +kernel
theorem dX12_put_13 : decode cX12_put 13 = .ok (.iand, 1) := by decide +kernel
theorem dX12_put_14 : decode cX12_put 14 = .ok (.ifCond .ne 6, 3) := by decide +kernel
theorem dX12_put_17 : decode cX12_put 17 = .ok (.goto 26, 3) := by decide +kernel
theorem dX12_put_20 : decode cX12_put 20 = .ok (.aload_n 0, 1) := by decide +kernel
theorem dX12_put_21 : decode cX12_put 21 = .ok (.getfield 9, 3) := by decide +kernel
theorem dX12_put_24 : decode cX12_put 24 = .ok (.aload_n 0, 1) := by decide +kernel
theorem dX12_put_25 : decode cX12_put 25 = .ok (.getfield 106, 3) := by decide +kernel
theorem dX12_put_28 : decode cX12_put 28 = .ok (.iload_n 1, 1) := by decide +kernel
theorem dX12_put_29 : decode cX12_put 29 = .ok (.iload_n 2, 1) := by decide +kernel
theorem dX12_put_30 : decode cX12_put 30 = .ok (.ishr, 1) := by decide +kernel
theorem dX12_put_31 : decode cX12_put 31 = .ok (.i2b, 1) := by decide +kernel
theorem dX12_put_32 : decode cX12_put 32 = .ok (.bastore, 1) := by decide +kernel
theorem dX12_put_33 : decode cX12_put 33 = .ok (.aload_n 0, 1) := by decide +kernel
theorem dX12_put_34 : decode cX12_put 34 = .ok (.dup, 1) := by decide +kernel
theorem dX12_put_35 : decode cX12_put 35 = .ok (.getfield 106, 3) := by decide +kernel
theorem dX12_put_38 : decode cX12_put 38 = .ok (.iconst 1, 1) := by decide +kernel
theorem dX12_put_39 : decode cX12_put 39 = .ok (.iadd, 1) := by decide +kernel
theorem dX12_put_40 : decode cX12_put 40 = .ok (.putfield 106, 3) := by decide +kernel
theorem dX12_put_43 : decode cX12_put 43 = .ok (.iinc 2 (-8), 3) := by decide +kernel
theorem dX12_put_46 : decode cX12_put 46 = .ok (.goto (-43), 3) := by decide +kernel
theorem dX12_put_49 : decode cX12_put 49 = .ok (.return_, 1) := by decide +kernel
def X12_put_43 (n : Nat) (K3 : Int32 → Int32 → Mm → Option (Unit × Mm)) (x1 : Int32) (x2 : Int32) (h : Mm) : Option (Unit × Mm) := (K3 x1 (x2 + (-8)) h)
set_option maxRecDepth 100000 in
set_option maxHeartbeats 4000000 in
theorem v_X12_put_43 {X : WX} {G : GX} {o : Mm} {n : Nat} {K3 : Int32 → Int32 → Mm → Option (Unit × Mm)} {rv : Unit} {hz : Mm} (hK3 : ∀ (x1 : Int32) (x2 : Int32) (h : Mm), K3 x1 x2 h = some (rv, hz) → V X G RX12 cX12_put 3 (none) 1 0 0 (QR X G false o none hz) false o 3 [(0, .ref (xa X 251)), (1, .int x1), (2, .int x2)] [] h) {x1 : Int32} {x2 : Int32} {h : Mm} (hF : X12_put_43 n K3 x1 x2 h = some (rv, hz)) : V X G RX12 cX12_put 3 (none) 1 0 0 (QR X G false o none hz) false o 43 [(0, .ref (xa X 251)), (1, .int x1), (2, .int x2)] [] h := by
  unfold X12_put_43 at hF
  refine V.iinc (v := (x2 + (-8))) 2 [(2, _), (0, _), (1, _)] dX12_put_43 rfl rfl (by decide) rfl ?_
  refine V.goto (tgt := 3) dX12_put_46 rfl ?_
  exact V.sub [1, 2, 0] rfl (hK3 _ _ _ hF)
def X12_put_3 (n : Nat) : Nat → Int32 → Int32 → Mm → Option (Unit × Mm)
  | 0, _, _, _ => none
  | f + 1, x1, x2, h => (if x2 < 0 then (some ((), h)) else (if ((x1 >>> (x2 &&& 31)) &&& (255)) = 0 then (X12_put_43 n (X12_put_3 n f) x1 x2 h) else (if inB (h.1 251 6) (aln 252) then (X12_put_43 n (X12_put_3 n f) x1 x2 (wI (wI h 252 (h.1 251 6).toNatClampNeg (vp_nar .byte (x1 >>> (x2 &&& 31)).toInt8.toInt32)) 251 6 (((wI h 252 (h.1 251 6).toNatClampNeg (vp_nar .byte (x1 >>> (x2 &&& 31)).toInt8.toInt32)).1 251 6) + (1)))) else none)))
set_option maxRecDepth 100000 in
set_option maxHeartbeats 4000000 in
theorem v_X12_put_3 {X : WX} {G : GX} {o : Mm} {n : Nat} {rv : Unit} {hz : Mm} : ∀ (f : Nat) (x1 : Int32) (x2 : Int32) (h : Mm), X12_put_3 n f x1 x2 h = some (rv, hz) → V X G RX12 cX12_put 3 (none) 1 0 0 (QR X G false o none hz) false o 3 [(0, .ref (xa X 251)), (1, .int x1), (2, .int x2)] [] h := by
  intro f
  induction f with
  | zero => intro x1 x2 h hF; exact nomatch (show (none : Option (Unit × Mm)) = some (rv, hz) from hF)
  | succ f ih =>
    intro x1 x2 h hF
    unfold X12_put_3 at hF
    refine V.iload_n 2 dX12_put_3 rfl rfl ?_
    refine V.if_lt (tgt := 49) dX12_put_4 rfl (fun c => ?_) (fun c => ?_)
    · replace hF := (if_pos c).symm.trans hF
      cases hF
      exact V.vret dX12_put_49
    · replace hF := (if_neg c).symm.trans hF
      refine V.iload_n 1 dX12_put_7 rfl rfl ?_
      refine V.iload_n 2 dX12_put_8 rfl rfl ?_
      refine V.ishr dX12_put_9 ?_
      refine V.sipush (v := 255) dX12_put_10 (by decide) ?_
      refine V.iand dX12_put_13 ?_
      refine V.if_ne (tgt := 20) dX12_put_14 rfl (fun c => ?_) (fun c => ?_)
      · replace hF := (if_neg c).symm.trans hF
        refine V.aload_n 0 dX12_put_20 rfl rfl ?_
        refine V.getR (v := 252) fl_X12_9 sh_251 rfl fx_251_1 (by decide) dX12_put_21 ?_
        refine V.aload_n 0 dX12_put_24 rfl rfl ?_
        refine V.getI fl_X12_106 sh_251 rfl km_251 dX12_put_25 ?_
        refine V.iload_n 1 dX12_put_28 rfl rfl ?_
        refine V.iload_n 2 dX12_put_29 rfl rfl ?_
        refine V.ishr dX12_put_30 ?_
        refine V.i2b dX12_put_31 ?_
        obtain ⟨hk, hF⟩ := ck hF
        refine V.bast io_252 hk dX12_put_32 ?_
        refine V.aload_n 0 dX12_put_33 rfl rfl ?_
        refine V.dup dX12_put_34 rfl ?_
        refine V.getI fl_X12_106 sh_251 rfl km_251 dX12_put_35 ?_
        refine V.iconst (v := 1) dX12_put_38 rfl ?_
        refine V.iadd dX12_put_39 ?_
        refine V.putI fl_X12_106 rfl (tyX12_ok 6 (by decide)) rfl rfl sh_251 rfl km_251 dX12_put_40 ?_
        exact (v_X12_put_43 ih hF)
      · replace hF := (if_pos c).symm.trans hF
        refine V.goto (tgt := 43) dX12_put_17 rfl ?_
        exact (v_X12_put_43 ih hF)
def X12_put (n : Nat) (x1 : Int32) (h : Mm) : Option (Unit × Mm) := (X12_put_3 n n x1 (24) h)
set_option maxRecDepth 100000 in
set_option maxHeartbeats 4000000 in
theorem s_X12_put {X : WX} {o : Mm} {n : Nat} {x1 : Int32} {rv : Unit} {hz : Mm} {h : Mm} (hF : X12_put n x1 h = some (rv, hz)) : Sat X yX12_put cX12_put 3 (none) 1 [.ref (xa X 251), .int x1] false o h none hz := by
  unfold X12_put at hF
  refine Sat.mk (own := RX12) rfl (by decide +kernel) (Nat.le_of_ble_eq_true rfl) (fun G => ?_)
  refine V.sub (lv2 := [(0, _), (1, _)]) [0, 1] rfl ?_
  refine V.bipush (v := 24) dX12_put_0 (by decide) ?_
  refine V.istore_n [(2, _), (0, _), (1, _)] dX12_put_2 rfl (by decide) rfl ?_
  exact V.sub [1, 2, 0] rfl (v_X12_put_3 n _ _ _ hF)
/-! MonsterCotModel.feed -/
theorem dX12_feed_0 : decode cX12_feed 0 = .ok (.aload_n 0, 1) := by decide +kernel
theorem dX12_feed_1 : decode cX12_feed 1 = .ok (.iconst 0, 1) := by decide +kernel
theorem dX12_feed_2 : decode cX12_feed 2 = .ok (.putfield 93, 3) := by decide +kernel
theorem dX12_feed_5 : decode cX12_feed 5 = .ok (.aload_n 0, 1) := by decide +kernel
theorem dX12_feed_6 : decode cX12_feed 6 = .ok (.getfield 106, 3) := by decide +kernel
theorem dX12_feed_9 : decode cX12_feed 9 = .ok (.iload_n 1, 1) := by decide +kernel
theorem dX12_feed_10 : decode cX12_feed 10 = .ok (.invokestatic 108, 3) := by decide +kernel
theorem dX12_feed_13 : decode cX12_feed 13 = .ok (.iadd, 1) := by decide +kernel
theorem dX12_feed_14 : decode cX12_feed 14 = .ok (.iload_n 2, 1) := by decide +kernel
theorem dX12_feed_15 : decode cX12_feed 15 = .ok (.invokestatic 108, 3) := by decide +kernel
theorem dX12_feed_18 : decode cX12_feed 18 = .ok (.iadd, 1) := by decide +kernel
theorem dX12_feed_19 : decode cX12_feed 19 = .ok (.iload_n 3, 1) := by decide +kernel
theorem dX12_feed_20 : decode cX12_feed 20 = .ok (.invokestatic 108, 3) := by decide +kernel
theorem dX12_feed_23 : decode cX12_feed 23 = .ok (.iadd, 1) := by decide +kernel
theorem dX12_feed_24 : decode cX12_feed 24 = .ok (.iload 4, 2) := by decide +kernel
theorem dX12_feed_26 : decode cX12_feed 26 = .ok (.invokestatic 108, 3) := by decide +kernel
theorem dX12_feed_29 : decode cX12_feed 29 = .ok (.iadd, 1) := by decide +kernel
theorem dX12_feed_30 : decode cX12_feed 30 = .ok (.iload 5, 2) := by decide +kernel
theorem dX12_feed_32 : decode cX12_feed 32 = .ok (.invokestatic 108, 3) := by decide +kernel
theorem dX12_feed_35 : decode cX12_feed 35 = .ok (.iadd, 1) := by decide +kernel
theorem dX12_feed_36 : decode cX12_feed 36 = .ok (.sipush 240, 3) := by decide +kernel
theorem dX12_feed_39 : decode cX12_feed 39 = .ok (.if_icmp .le 5, 3) := by decide +kernel
theorem dX12_feed_42 : decode cX12_feed 42 = .ok (.iconst (-1), 1) := by decide +kernel
theorem dX12_feed_43 : decode cX12_feed 43 = .ok (.ireturn, 1) := by decide +kernel
theorem dX12_feed_44 : decode cX12_feed 44 = .ok (.aload_n 0, 1) := by decide +kernel
theorem dX12_feed_45 : decode cX12_feed 45 = .ok (.iload_n 1, 1) := by decide +kernel
theorem dX12_feed_46 : decode cX12_feed 46 = .ok (.invokevirtual 112, 3) := by decide +kernel
theorem dX12_feed_49 : decode cX12_feed 49 = .ok (.aload_n 0, 1) := by decide +kernel
theorem dX12_feed_50 : decode cX12_feed 50 = .ok (.iload_n 2, 1) := by decide +kernel
theorem dX12_feed_51 : decode cX12_feed 51 = .ok (.invokevirtual 112, 3) := by decide +kernel
theorem dX12_feed_54 : decode cX12_feed 54 = .ok (.aload_n 0, 1) := by decide +kernel
theorem dX12_feed_55 : decode cX12_feed 55 = .ok (.iload_n 3, 1) := by decide +kernel
theorem dX12_feed_56 : decode cX12_feed 56 = .ok (.invokevirtual 112, 3) := by decide +kernel
theorem dX12_feed_59 : decode cX12_feed 59 = .ok (.aload_n 0, 1) := by decide +kernel
theorem dX12_feed_60 : decode cX12_feed 60 = .ok (.iload 4, 2) := by decide +kernel
theorem dX12_feed_62 : decode cX12_feed 62 = .ok (.invokevirtual 112, 3) := by decide +kernel
theorem dX12_feed_65 : decode cX12_feed 65 = .ok (.aload_n 0, 1) := by decide +kernel
theorem dX12_feed_66 : decode cX12_feed 66 = .ok (.iload 5, 2) := by decide +kernel
theorem dX12_feed_68 : decode cX12_feed 68 = .ok (.invokevirtual 112, 3) := by decide +kernel
theorem dX12_feed_71 : decode cX12_feed 71 = .ok (.aload_n 0, 1) := by decide +kernel
theorem dX12_feed_72 : decode cX12_feed 72 = .ok (.getfield 106, 3) := by decide +kernel
theorem dX12_feed_75 : decode cX12_feed 75 = .ok (.ireturn, 1) := by decide +kernel
def X12_feed (n : Nat) (x1 : Int32) (x2 : Int32) (x3 : Int32) (x4 : Int32) (x5 : Int32) (h : Mm) : Option (Int32 × Mm) := (bp (X12_bytesIn n x1 (wI h 251 0 (0))) (fun r26 => (bp (X12_bytesIn n x2 (wI h 251 0 (0))) (fun r28 => (bp (X12_bytesIn n x3 (wI h 251 0 (0))) (fun r30 => (bp (X12_bytesIn n x4 (wI h 251 0 (0))) (fun r32 => (bp (X12_bytesIn n x5 (wI h 251 0 (0))) (fun r34 => (if (((((((wI h 251 0 (0)).1 251 6) + r26) + r28) + r30) + r32) + r34) ≤ (240) then (bd (X12_put n x1 (wI h 251 0 (0))) (fun _ h38 => (bd (X12_put n x2 h38) (fun _ h41 => (bd (X12_put n x3 h41) (fun _ h44 => (bd (X12_put n x4 h44) (fun _ h47 => (bd (X12_put n x5 h47) (fun _ h50 => (some ((h50.1 251 6), h50)))))))))))) else (some ((-1), (wI h 251 0 (0)))))))))))))))
set_option maxRecDepth 100000 in
set_option maxHeartbeats 4000000 in
theorem s_X12_feed {X : WX} {o : Mm} {n : Nat} {x1 : Int32} {x2 : Int32} {x3 : Int32} {x4 : Int32} {x5 : Int32} {rv : Int32} {hz : Mm} {h : Mm} (hF : X12_feed n x1 x2 x3 x4 x5 h = some (rv, hz)) : Sat X yX12_feed cX12_feed 6 (some .int) 2 [.ref (xa X 251), .int x1, .int x2, .int x3, .int x4, .int x5] false o h (some (.int rv)) hz := by
  unfold X12_feed at hF
  refine Sat.mk (own := RX12) rfl (by decide +kernel) (Nat.le_of_ble_eq_true rfl) (fun G => ?_)
  refine V.sub (lv2 := [(0, _), (1, _), (2, _), (3, _), (4, _), (5, _)]) [0, 1, 2, 3, 4, 5] rfl ?_
  refine V.aload_n 0 dX12_feed_0 rfl rfl ?_
  refine V.iconst (v := 0) dX12_feed_1 rfl ?_
  refine V.putI fl_X12_93 rfl (tyX12_ok 0 (by decide)) rfl rfl sh_251 rfl km_251 dX12_feed_2 ?_
  refine V.aload_n 0 dX12_feed_5 rfl rfl ?_
  refine V.getI fl_X12_106 sh_251 rfl km_251 dX12_feed_6 ?_
  refine V.iload_n 1 dX12_feed_9 rfl rfl ?_
  obtain ⟨r26, hc27, hF⟩ := bp_s hF
  refine V.callSi mf_X12_bytesIn ml_X12_108 (s_X12_bytesIn hc27) (by decide) rfl rfl (Nat.le_of_ble_eq_true rfl) dX12_feed_10 ?_
  refine V.iadd dX12_feed_13 ?_
  refine V.iload_n 2 dX12_feed_14 rfl rfl ?_
  obtain ⟨r28, hc29, hF⟩ := bp_s hF
  refine V.callSi mf_X12_bytesIn ml_X12_108 (s_X12_bytesIn hc29) (by decide) rfl rfl (Nat.le_of_ble_eq_true rfl) dX12_feed_15 ?_
  refine V.iadd dX12_feed_18 ?_
  refine V.iload_n 3 dX12_feed_19 rfl rfl ?_
  obtain ⟨r30, hc31, hF⟩ := bp_s hF
  refine V.callSi mf_X12_bytesIn ml_X12_108 (s_X12_bytesIn hc31) (by decide) rfl rfl (Nat.le_of_ble_eq_true rfl) dX12_feed_20 ?_
  refine V.iadd dX12_feed_23 ?_
  refine V.iload 4 dX12_feed_24 rfl ?_
  obtain ⟨r32, hc33, hF⟩ := bp_s hF
  refine V.callSi mf_X12_bytesIn ml_X12_108 (s_X12_bytesIn hc33) (by decide) rfl rfl (Nat.le_of_ble_eq_true rfl) dX12_feed_26 ?_
  refine V.iadd dX12_feed_29 ?_
  refine V.iload 5 dX12_feed_30 rfl ?_
  obtain ⟨r34, hc35, hF⟩ := bp_s hF
  refine V.callSi mf_X12_bytesIn ml_X12_108 (s_X12_bytesIn hc35) (by decide) rfl rfl (Nat.le_of_ble_eq_true rfl) dX12_feed_32 ?_
  refine V.iadd dX12_feed_35 ?_
  refine V.sipush (v := 240) dX12_feed_36 (by decide) ?_
  refine V.icmp_le (tgt := 44) dX12_feed_39 rfl (fun c => ?_) (fun c => ?_)
  · replace hF := (if_pos c).symm.trans hF
    refine V.aload_n 0 dX12_feed_44 rfl rfl ?_
    refine V.iload_n 1 dX12_feed_45 rfl rfl ?_
    obtain ⟨r36, h38, hc37, hF⟩ := bd_s hF
    refine V.callVv mf_X12_put ml_X12_112 sh_251 (s_X12_put hc37) (by decide) rfl rfl (Nat.le_of_ble_eq_true rfl) dX12_feed_46 ?_
    refine V.aload_n 0 dX12_feed_49 rfl rfl ?_
    refine V.iload_n 2 dX12_feed_50 rfl rfl ?_
    obtain ⟨r39, h41, hc40, hF⟩ := bd_s hF
    refine V.callVv mf_X12_put ml_X12_112 sh_251 (s_X12_put hc40) (by decide) rfl rfl (Nat.le_of_ble_eq_true rfl) dX12_feed_51 ?_
    refine V.aload_n 0 dX12_feed_54 rfl rfl ?_
    refine V.iload_n 3 dX12_feed_55 rfl rfl ?_
    obtain ⟨r42, h44, hc43, hF⟩ := bd_s hF
    refine V.callVv mf_X12_put ml_X12_112 sh_251 (s_X12_put hc43) (by decide) rfl rfl (Nat.le_of_ble_eq_true rfl) dX12_feed_56 ?_
    refine V.aload_n 0 dX12_feed_59 rfl rfl ?_
    refine V.iload 4 dX12_feed_60 rfl ?_
    obtain ⟨r45, h47, hc46, hF⟩ := bd_s hF
    refine V.callVv mf_X12_put ml_X12_112 sh_251 (s_X12_put hc46) (by decide) rfl rfl (Nat.le_of_ble_eq_true rfl) dX12_feed_62 ?_
    refine V.aload_n 0 dX12_feed_65 rfl rfl ?_
    refine V.iload 5 dX12_feed_66 rfl ?_
    obtain ⟨r48, h50, hc49, hF⟩ := bd_s hF
    refine V.callVv mf_X12_put ml_X12_112 sh_251 (s_X12_put hc49) (by decide) rfl rfl (Nat.le_of_ble_eq_true rfl) dX12_feed_68 ?_
    refine V.aload_n 0 dX12_feed_71 rfl rfl ?_
    refine V.getI fl_X12_106 sh_251 rfl km_251 dX12_feed_72 ?_
    cases hF
    exact V.iret dX12_feed_75
  · replace hF := (if_neg c).symm.trans hF
    refine V.iconst (v := -1) dX12_feed_42 rfl ?_
    cases hF
    exact V.iret dX12_feed_43
/-! MonsterCotModel.end -/
theorem dX12_end_0 : decode cX12_end 0 = .ok (.aload_n 0, 1) := by decide +kernel
theorem dX12_end_1 : decode cX12_end 1 = .ok (.iconst 0, 1) := by decide +kernel
theorem dX12_end_2 : decode cX12_end 2 = .ok (.putfield 93, 3) := by decide +kernel
theorem dX12_end_5 : decode cX12_end 5 = .ok (.iload_n 1, 1) := by decide +kernel
theorem dX12_end_6 : decode cX12_end 6 = .ok (.ifCond .lt 11, 3) := by decide +kernel
theorem dX12_end_9 : decode cX12_end 9 = .ok (.iload_n 1, 1) := by decide +kernel
theorem dX12_end_10 : decode cX12_end 10 = .ok (.aload_n 0, 1) := by decide +kernel
theorem dX12_end_11 : decode cX12_end 11 = .ok (.getfield 106, 3) := by decide +kernel
theorem dX12_end_14 : decode cX12_end 14 = .ok (.if_icmp .le 5, 3) := by decide +kernel
theorem dX12_end_17 : decode cX12_end 17 = .ok (.iconst 0, 1) := by decide +kernel
theorem dX12_end_18 : decode cX12_end 18 = .ok (.ireturn, 1) := by decide +kernel
theorem dX12_end_19 : decode cX12_end 19 = .ok (.aload_n 0, 1) := by decide +kernel
theorem dX12_end_20 : decode cX12_end 20 = .ok (.iload_n 1, 1) := by decide +kernel
theorem dX12_end_21 : decode cX12_end 21 = .ok (.putfield 106, 3) := by decide +kernel
theorem dX12_end_24 : decode cX12_end 24 = .ok (.iconst 1, 1) := by decide +kernel
theorem dX12_end_25 : decode cX12_end 25 = .ok (.ireturn, 1) := by decide +kernel
def X12_end (x1 : Int32) (h : Mm) : Option (Bool × Mm) := (if x1 < 0 then (some (false, (wI h 251 0 (0)))) else (if x1 ≤ ((wI h 251 0 (0)).1 251 6) then (some (true, (wI (wI h 251 0 (0)) 251 6 x1))) else (some (false, (wI h 251 0 (0))))))
set_option maxRecDepth 100000 in
set_option maxHeartbeats 4000000 in
theorem s_X12_end {X : WX} {o : Mm} {x1 : Int32} {rv : Bool} {hz : Mm} {h : Mm} (hF : X12_end x1 h = some (rv, hz)) : Sat X yX12_end cX12_end 2 (some .boolean) 1 [.ref (xa X 251), .int x1] false o h (some (.int (b2i rv))) hz := by
  unfold X12_end at hF
  refine Sat.mk (own := RX12) rfl (by decide +kernel) (Nat.le_of_ble_eq_true rfl) (fun G => ?_)
  refine V.sub (lv2 := [(0, _), (1, _)]) [0, 1] rfl ?_
  refine V.aload_n 0 dX12_end_0 rfl rfl ?_
  refine V.iconst (v := 0) dX12_end_1 rfl ?_
  refine V.putI fl_X12_93 rfl (tyX12_ok 0 (by decide)) rfl rfl sh_251 rfl km_251 dX12_end_2 ?_
  refine V.iload_n 1 dX12_end_5 rfl rfl ?_
  refine V.if_lt (tgt := 17) dX12_end_6 rfl (fun c => ?_) (fun c => ?_)
  · replace hF := (if_pos c).symm.trans hF
    refine V.iconst (v := 0) dX12_end_17 rfl ?_
    cases hF
    exact V.bret dX12_end_18
  · replace hF := (if_neg c).symm.trans hF
    refine V.iload_n 1 dX12_end_9 rfl rfl ?_
    refine V.aload_n 0 dX12_end_10 rfl rfl ?_
    refine V.getI fl_X12_106 sh_251 rfl km_251 dX12_end_11 ?_
    refine V.icmp_le (tgt := 19) dX12_end_14 rfl (fun c => ?_) (fun c => ?_)
    · replace hF := (if_pos c).symm.trans hF
      refine V.aload_n 0 dX12_end_19 rfl rfl ?_
      refine V.iload_n 1 dX12_end_20 rfl rfl ?_
      refine V.putI fl_X12_106 rfl (tyX12_ok 6 (by decide)) rfl rfl sh_251 rfl km_251 dX12_end_21 ?_
      refine V.iconst (v := 1) dX12_end_24 rfl ?_
      cases hF
      exact V.bret dX12_end_25
    · replace hF := (if_neg c).symm.trans hF
      refine V.iconst (v := 0) dX12_end_17 rfl ?_
      cases hF
      exact V.bret dX12_end_18
/-! MonsterCotModel.look -/
theorem dX12_look_0 : decode cX12_look 0 = .ok (.aload_n 0, 1) := by decide +kernel
theorem dX12_look_1 : decode cX12_look 1 = .ok (.getfield 116, 3) := by decide +kernel
theorem dX12_look_4 : decode cX12_look 4 = .ok (.aload_n 0, 1) := by decide +kernel
theorem dX12_look_5 : decode cX12_look 5 = .ok (.getfield 119, 3) := by decide +kernel
theorem dX12_look_8 : decode cX12_look 8 = .ok (.if_icmp .ge 35, 3) := by decide +kernel
theorem dX12_look_11 : decode cX12_look 11 = .ok (.aload_n 0, 1) := by decide +kernel
theorem dX12_look_12 : decode cX12_look 12 = .ok (.getfield 23, 3) := by decide +kernel
theorem dX12_look_15 : decode cX12_look 15 = .ok (.aload_n 0, 1) := by decide +kernel
theorem dX12_look_16 : decode cX12_look 16 = .ok (.getfield 122, 3) := by decide +kernel
theorem dX12_look_19 : decode cX12_look 19 = .ok (.aload_n 0, 1) := by decide +kernel
theorem dX12_look_20 : decode cX12_look 20 = .ok (.getfield 116, 3) := by decide +kernel
theorem dX12_look_23 : decode cX12_look 23 = .ok (.iadd, 1) := by decide +kernel
theorem dX12_look_24 : decode cX12_look 24 = .ok (.baload, 1) := by decide +kernel
theorem dX12_look_25 : decode cX12_look 25 = .ok (.bipush 32, 2) := by decide +kernel
theorem dX12_look_27 : decode cX12_look 27 = .ok (.if_icmp .ne 16, 3) := by decide +kernel
theorem dX12_look_30 : decode cX12_look 30 = .ok (.aload_n 0, 1) := by decide +kernel
theorem dX12_look_31 : decode cX12_look 31 = .ok (.dup, 1) := by decide +kernel
theorem dX12_look_32 : decode cX12_look 32 = .ok (.getfield 116, 3) := by decide +kernel
theorem dX12_look_35 : decode cX12_look 35 = .ok (.iconst 1, 1) := by decide +kernel
theorem dX12_look_36 : decode cX12_look 36 = .ok (.iadd, 1) := by decide +kernel
theorem dX12_look_37 : decode cX12_look 37 = .ok (.putfield 116, 3) := by decide +kernel
theorem dX12_look_40 : decode cX12_look 40 = .ok (.goto (-40), 3) := by decide +kernel
theorem dX12_look_43 : decode cX12_look 43 = .ok (.aload_n 0, 1) := by decide +kernel
theorem dX12_look_44 : decode cX12_look 44 = .ok (.getfield 116, 3) := by decide +kernel
theorem dX12_look_47 : decode cX12_look 47 = .ok (.aload_n 0, 1) := by decide +kernel
theorem dX12_look_48 : decode cX12_look 48 = .ok (.getfield 119, 3) := by decide +kernel
theorem dX12_look_51 : decode cX12_look 51 = .ok (.if_icmp .ge 24, 3) := by decide +kernel
theorem dX12_look_54 : decode cX12_look 54 = .ok (.aload_n 0, 1) := by decide +kernel
theorem dX12_look_55 : decode cX12_look 55 = .ok (.getfield 23, 3) := by decide +kernel
theorem dX12_look_58 : decode cX12_look 58 = .ok (.aload_n 0, 1) := by decide +kernel
theorem dX12_look_59 : decode cX12_look 59 = .ok (.getfield 122, 3) := by decide +kernel
theorem dX12_look_62 : decode cX12_look 62 = .ok (.aload_n 0, 1) := by decide +kernel
theorem dX12_look_63 : decode cX12_look 63 = .ok (.getfield 116, 3) := by decide +kernel
theorem dX12_look_66 : decode cX12_look 66 = .ok (.iadd, 1) := by decide +kernel
theorem dX12_look_67 : decode cX12_look 67 = .ok (.baload, 1) := by decide +kernel
theorem dX12_look_68 : decode cX12_look 68 = .ok (.sipush 255, 3) := by decide +kernel
theorem dX12_look_71 : decode cX12_look 71 = .ok (.iand, 1) := by decide +kernel
theorem dX12_look_72 : decode cX12_look 72 = .ok (.goto 4, 3) := by decide +kernel
theorem dX12_look_75 : decode cX12_look 75 = .ok (.iconst (-1), 1) := by decide +kernel
theorem dX12_look_76 : decode cX12_look 76 = .ok (.ireturn, 1) := by decide +kernel
def X12_look_43 (n : Nat) (h : Mm) : Option (Int32 × Mm) := (if (h.1 251 9) ≤ (h.1 251 10) then (some ((-1), h)) else (bp (txt (h.1 251 5)) (fun t4 => (if inB ((h.1 251 8) + (h.1 251 10)) (aln t4) then (some (((h.1 t4 ((h.1 251 8) + (h.1 251 10)).toNatClampNeg) &&& (255)), h)) else none))))
set_option maxRecDepth 100000 in
set_option maxHeartbeats 4000000 in
theorem v_X12_look_43 {X : WX} {G : GX} {o : Mm} {n : Nat} {rv : Int32} {hz : Mm} {h : Mm} (hF : X12_look_43 n h = some (rv, hz)) : V X G RX12 cX12_look 1 (some .int) 1 0 0 (QR X G false o (some (.int rv)) hz) false o 43 [(0, .ref (xa X 251))] [] h := by
  unfold X12_look_43 at hF
  refine V.aload_n 0 dX12_look_43 rfl rfl ?_
  refine V.getI fl_X12_116 sh_251 rfl km_251 dX12_look_44 ?_
  refine V.aload_n 0 dX12_look_47 rfl rfl ?_
  refine V.getI fl_X12_119 sh_251 rfl km_251 dX12_look_48 ?_
  refine V.icmp_ge (tgt := 75) dX12_look_51 rfl (fun c => ?_) (fun c => ?_)
  · replace hF := (if_pos c).symm.trans hF
    refine V.iconst (v := -1) dX12_look_75 rfl ?_
    cases hF
    exact V.iret dX12_look_76
  · replace hF := (if_neg c).symm.trans hF
    refine V.aload_n 0 dX12_look_54 rfl rfl ?_
    obtain ⟨t4, htt4, hF⟩ := bp_s hF
    refine V.getN fl_X12_23 sh_251 rfl km_251 t4 (txt_s htt4).1 (txt_s htt4).2.lt2 dX12_look_55 ?_
    refine V.aload_n 0 dX12_look_58 rfl rfl ?_
    refine V.getI fl_X12_122 sh_251 rfl km_251 dX12_look_59 ?_
    refine V.aload_n 0 dX12_look_62 rfl rfl ?_
    refine V.getI fl_X12_116 sh_251 rfl km_251 dX12_look_63 ?_
    refine V.iadd dX12_look_66 ?_
    obtain ⟨hk, hF⟩ := ck hF
    refine V.bald (txt_s htt4).2 hk dX12_look_67 ?_
    refine V.sipush (v := 255) dX12_look_68 (by decide) ?_
    refine V.iand dX12_look_71 ?_
    refine V.goto (tgt := 76) dX12_look_72 rfl ?_
    cases hF
    exact V.iret dX12_look_76
def X12_look_0 (n : Nat) : Nat → Mm → Option (Int32 × Mm)
  | 0, _ => none
  | f + 1, h => (if (h.1 251 9) ≤ (h.1 251 10) then (X12_look_43 n h) else (bp (txt (h.1 251 5)) (fun t5 => (if inB ((h.1 251 8) + (h.1 251 10)) (aln t5) then (if (h.1 t5 ((h.1 251 8) + (h.1 251 10)).toNatClampNeg) = (32) then ((X12_look_0 n f) (wI h 251 10 ((h.1 251 10) + (1)))) else (X12_look_43 n h)) else none))))
set_option maxRecDepth 100000 in
set_option maxHeartbeats 4000000 in
theorem v_X12_look_0 {X : WX} {G : GX} {o : Mm} {n : Nat} {rv : Int32} {hz : Mm} : ∀ (f : Nat) (h : Mm), X12_look_0 n f  h = some (rv, hz) → V X G RX12 cX12_look 1 (some .int) 1 0 0 (QR X G false o (some (.int rv)) hz) false o 0 [(0, .ref (xa X 251))] [] h := by
  intro f
  induction f with
  | zero => intro  h hF; exact nomatch (show (none : Option (Int32 × Mm)) = some (rv, hz) from hF)
  | succ f ih =>
    intro  h hF
    unfold X12_look_0 at hF
    refine V.aload_n 0 dX12_look_0 rfl rfl ?_
    refine V.getI fl_X12_116 sh_251 rfl km_251 dX12_look_1 ?_
    refine V.aload_n 0 dX12_look_4 rfl rfl ?_
    refine V.getI fl_X12_119 sh_251 rfl km_251 dX12_look_5 ?_
    refine V.icmp_ge (tgt := 43) dX12_look_8 rfl (fun c => ?_) (fun c => ?_)
    · replace hF := (if_pos c).symm.trans hF
      exact (v_X12_look_43 hF)
    · replace hF := (if_neg c).symm.trans hF
      refine V.aload_n 0 dX12_look_11 rfl rfl ?_
      obtain ⟨t5, htt5, hF⟩ := bp_s hF
      refine V.getN fl_X12_23 sh_251 rfl km_251 t5 (txt_s htt5).1 (txt_s htt5).2.lt2 dX12_look_12 ?_
      refine V.aload_n 0 dX12_look_15 rfl rfl ?_
      refine V.getI fl_X12_122 sh_251 rfl km_251 dX12_look_16 ?_
      refine V.aload_n 0 dX12_look_19 rfl rfl ?_
      refine V.getI fl_X12_116 sh_251 rfl km_251 dX12_look_20 ?_
      refine V.iadd dX12_look_23 ?_
      obtain ⟨hk, hF⟩ := ck hF
      refine V.bald (txt_s htt5).2 hk dX12_look_24 ?_
      refine V.bipush (v := 32) dX12_look_25 (by decide) ?_
      refine V.icmp_ne (tgt := 43) dX12_look_27 rfl (fun c => ?_) (fun c => ?_)
      · replace hF := (if_neg c).symm.trans hF
        exact (v_X12_look_43 hF)
      · replace hF := (if_pos c).symm.trans hF
        refine V.aload_n 0 dX12_look_30 rfl rfl ?_
        refine V.dup dX12_look_31 rfl ?_
        refine V.getI fl_X12_116 sh_251 rfl km_251 dX12_look_32 ?_
        refine V.iconst (v := 1) dX12_look_35 rfl ?_
        refine V.iadd dX12_look_36 ?_
        refine V.putI fl_X12_116 rfl (tyX12_ok 10 (by decide)) rfl rfl sh_251 rfl km_251 dX12_look_37 ?_
        refine V.goto (tgt := 0) dX12_look_40 rfl ?_
        exact ih _ hF
def X12_look (n : Nat) (h : Mm) : Option (Int32 × Mm) := (X12_look_0 n n h)
set_option maxRecDepth 100000 in
set_option maxHeartbeats 4000000 in
theorem s_X12_look {X : WX} {o : Mm} {n : Nat} {rv : Int32} {hz : Mm} {h : Mm} (hF : X12_look n h = some (rv, hz)) : Sat X yX12_look cX12_look 1 (some .int) 1 [.ref (xa X 251)] false o h (some (.int rv)) hz := by
  unfold X12_look at hF
  refine Sat.mk (own := RX12) rfl (by decide +kernel) (Nat.le_of_ble_eq_true rfl) (fun G => ?_)
  refine V.sub (lv2 := [(0, _)]) [0] rfl ?_
  exact (v_X12_look_0 n _ hF)
/-! MonsterCotModel.fails -/
theorem dX12_fails_0 : decode cX12_fails 0 = .ok (.aload_n 0, 1) := by decide +kernel
theorem dX12_fails_1 : decode cX12_fails 1 = .ok (.getfield 125, 3) := by decide +kernel
theorem dX12_fails_4 : decode cX12_fails 4 = .ok (.iconst (-1), 1) := by decide +kernel
theorem dX12_fails_5 : decode cX12_fails 5 = .ok (.if_icmp .ne 11, 3) := by decide +kernel
theorem dX12_fails_8 : decode cX12_fails 8 = .ok (.aload_n 0, 1) := by decide +kernel
theorem dX12_fails_9 : decode cX12_fails 9 = .ok (.aload_n 0, 1) := by decide +kernel
theorem dX12_fails_10 : decode cX12_fails 10 = .ok (.getfield 116, 3) := by decide +kernel
theorem dX12_fails_13 : decode cX12_fails 13 = .ok (.putfield 125, 3) := by decide +kernel
theorem dX12_fails_16 : decode cX12_fails 16 = .ok (.iconst 0, 1) := by decide +kernel
theorem dX12_fails_17 : decode cX12_fails 17 = .ok (.ireturn, 1) := by decide +kernel
def X12_fails (h : Mm) : Option (Bool × Mm) := (if (h.1 251 11) = (-1) then (some (false, (wI h 251 11 (h.1 251 10)))) else (some (false, h)))
set_option maxRecDepth 100000 in
set_option maxHeartbeats 4000000 in
theorem s_X12_fails {X : WX} {o : Mm} {rv : Bool} {hz : Mm} {h : Mm} (hF : X12_fails h = some (rv, hz)) : Sat X yX12_fails cX12_fails 1 (some .boolean) 1 [.ref (xa X 251)] false o h (some (.int (b2i rv))) hz := by
  unfold X12_fails at hF
  refine Sat.mk (own := RX12) rfl (by decide +kernel) (Nat.le_of_ble_eq_true rfl) (fun G => ?_)
  refine V.sub (lv2 := [(0, _)]) [0] rfl ?_
  refine V.aload_n 0 dX12_fails_0 rfl rfl ?_
  refine V.getI fl_X12_125 sh_251 rfl km_251 dX12_fails_1 ?_
  refine V.iconst (v := -1) dX12_fails_4 rfl ?_
  refine V.icmp_ne (tgt := 16) dX12_fails_5 rfl (fun c => ?_) (fun c => ?_)
  · replace hF := (if_neg c).symm.trans hF
    refine V.iconst (v := 0) dX12_fails_16 rfl ?_
    cases hF
    exact V.bret dX12_fails_17
  · replace hF := (if_pos c).symm.trans hF
    refine V.aload_n 0 dX12_fails_8 rfl rfl ?_
    refine V.aload_n 0 dX12_fails_9 rfl rfl ?_
    refine V.getI fl_X12_116 sh_251 rfl km_251 dX12_fails_10 ?_
    refine V.putI fl_X12_125 rfl (tyX12_ok 11 (by decide)) rfl rfl sh_251 rfl km_251 dX12_fails_13 ?_
    refine V.iconst (v := 0) dX12_fails_16 rfl ?_
    cases hF
    exact V.bret dX12_fails_17
/-! MonsterCotModel.goesIn -/
theorem dX12_goesIn_0 : decode cX12_goesIn 0 = .ok (.aload_n 0, 1) := by decide +kernel
theorem dX12_goesIn_1 : decode cX12_goesIn 1 = .ok (.getfield 128, 3) := by decide +kernel
theorem dX12_goesIn_4 : decode cX12_goesIn 4 = .ok (.bipush 6, 2) := by decide +kernel
theorem dX12_goesIn_6 : decode cX12_goesIn 6 = .ok (.if_icmp .ne 8, 3) := by decide +kernel
theorem dX12_goesIn_9 : decode cX12_goesIn 9 = .ok (.aload_n 0, 1) := by decide +kernel
theorem dX12_goesIn_10 : decode cX12_goesIn 10 = .ok (.invokevirtual 131, 3) := by decide +kernel
theorem dX12_goesIn_13 : decode cX12_goesIn 13 = .ok (.ireturn, 1) := by decide +kernel
theorem dX12_goesIn_14 : decode cX12_goesIn 14 = .ok (.aload_n 0, 1) := by decide +kernel
theorem dX12_goesIn_15 : decode cX12_goesIn 15 = .ok (.dup, 1) := by decide +kernel
theorem dX12_goesIn_16 : decode cX12_goesIn 16 = .ok (.getfield 128, 3) := by decide +kernel
theorem dX12_goesIn_19 : decode cX12_goesIn 19 = .ok (.iconst 1, 1) := by decide +kernel
theorem dX12_goesIn_20 : decode cX12_goesIn 20 = .ok (.iadd, 1) := by decide +kernel
theorem dX12_goesIn_21 : decode cX12_goesIn 21 = .ok (.putfield 128, 3) := by decide +kernel
theorem dX12_goesIn_24 : decode cX12_goesIn 24 = .ok (.aload_n 0, 1) := by decide +kernel
theorem dX12_goesIn_25 : decode cX12_goesIn 25 = .ok (.dup, 1) := by decide +kernel
theorem dX12_goesIn_26 : decode cX12_goesIn 26 = .ok (.getfield 116, 3) := by decide +kernel
theorem dX12_goesIn_29 : decode cX12_goesIn 29 = .ok (.iconst 1, 1) := by decide +kernel
theorem dX12_goesIn_30 : decode cX12_goesIn 30 = .ok (.iadd, 1) := by decide +kernel
theorem dX12_goesIn_31 : decode cX12_goesIn 31 = .ok (.putfield 116, 3) := by decide +kernel
theorem dX12_goesIn_34 : decode cX12_goesIn 34 = .ok (.iconst 1, 1) := by decide +kernel
theorem dX12_goesIn_35 : decode cX12_goesIn 35 = .ok (.ireturn, 1) := by decide +kernel
def X12_goesIn (h : Mm) : Option (Bool × Mm) := (if (h.1 251 12) = (6) then (bd (X12_fails h) (fun r4 h6 => (some (r4, h6)))) else (some (true, (wI (wI h 251 12 ((h.1 251 12) + (1))) 251 10 (((wI h 251 12 ((h.1 251 12) + (1))).1 251 10) + (1))))))
set_option maxRecDepth 100000 in
set_option maxHeartbeats 4000000 in
theorem s_X12_goesIn {X : WX} {o : Mm} {rv : Bool} {hz : Mm} {h : Mm} (hF : X12_goesIn h = some (rv, hz)) : Sat X yX12_goesIn cX12_goesIn 1 (some .boolean) 2 [.ref (xa X 251)] false o h (some (.int (b2i rv))) hz := by
  unfold X12_goesIn at hF
  refine Sat.mk (own := RX12) rfl (by decide +kernel) (Nat.le_of_ble_eq_true rfl) (fun G => ?_)
  refine V.sub (lv2 := [(0, _)]) [0] rfl ?_
  refine V.aload_n 0 dX12_goesIn_0 rfl rfl ?_
  refine V.getI fl_X12_128 sh_251 rfl km_251 dX12_goesIn_1 ?_
  refine V.bipush (v := 6) dX12_goesIn_4 (by decide) ?_
  refine V.icmp_ne (tgt := 14) dX12_goesIn_6 rfl (fun c => ?_) (fun c => ?_)
  · replace hF := (if_neg c).symm.trans hF
    refine V.aload_n 0 dX12_goesIn_14 rfl rfl ?_
    refine V.dup dX12_goesIn_15 rfl ?_
    refine V.getI fl_X12_128 sh_251 rfl km_251 dX12_goesIn_16 ?_
    refine V.iconst (v := 1) dX12_goesIn_19 rfl ?_
    refine V.iadd dX12_goesIn_20 ?_
    refine V.putI fl_X12_128 rfl (tyX12_ok 12 (by decide)) rfl rfl sh_251 rfl km_251 dX12_goesIn_21 ?_
    refine V.aload_n 0 dX12_goesIn_24 rfl rfl ?_
    refine V.dup dX12_goesIn_25 rfl ?_
    refine V.getI fl_X12_116 sh_251 rfl km_251 dX12_goesIn_26 ?_
    refine V.iconst (v := 1) dX12_goesIn_29 rfl ?_
    refine V.iadd dX12_goesIn_30 ?_
    refine V.putI fl_X12_116 rfl (tyX12_ok 10 (by decide)) rfl rfl sh_251 rfl km_251 dX12_goesIn_31 ?_
    refine V.iconst (v := 1) dX12_goesIn_34 rfl ?_
    cases hF
    exact V.bret dX12_goesIn_35
  · replace hF := (if_pos c).symm.trans hF
    refine V.aload_n 0 dX12_goesIn_9 rfl rfl ?_
    obtain ⟨r4, h6, hc5, hF⟩ := bd_s hF
    refine V.callVi mf_X12_fails ml_X12_131 sh_251 (s_X12_fails hc5) (by decide) rfl rfl (Nat.le_of_ble_eq_true rfl) dX12_goesIn_10 ?_
    cases hF
    exact V.bret dX12_goesIn_13
/-! MonsterCotModel.takes -/
theorem dX12_takes_0 : decode cX12_takes 0 = .ok (.aload_n 0, 1) := by decide +kernel
theorem dX12_takes_1 : decode cX12_takes 1 = .ok (.getfield 125, 3) := by decide +kernel
theorem dX12_takes_4 : decode cX12_takes 4 = .ok (.iconst (-1), 1) := by decide +kernel
theorem dX12_takes_5 : decode cX12_takes 5 = .ok (.if_icmp .ne 11, 3) := by decide +kernel
theorem dX12_takes_8 : decode cX12_takes 8 = .ok (.aload_n 0, 1) := by decide +kernel
theorem dX12_takes_9 : decode cX12_takes 9 = .ok (.invokevirtual 135, 3) := by decide +kernel
theorem dX12_takes_12 : decode cX12_takes 12 = .ok (.iload_n 1, 1) := by decide +kernel
theorem dX12_takes_13 : decode cX12_takes 13 = .ok (.if_icmp .eq 8, 3) := by decide +kernel
theorem dX12_takes_16 : decode cX12_takes 16 = .ok (.aload_n 0, 1) := by decide +kernel
theorem dX12_takes_17 : decode cX12_takes 17 = .ok (.invokevirtual 131, 3) := by decide +kernel
theorem dX12_takes_20 : decode cX12_takes 20 = .ok (.ireturn, 1) := by decide +kernel
theorem dX12_takes_21 : decode cX12_takes 21 = .ok (.aload_n 0, 1) := by decide +kernel
theorem dX12_takes_22 : decode cX12_takes 22 = .ok (.dup, 1) := by decide +kernel
theorem dX12_takes_23 : decode cX12_takes 23 = .ok (.getfield 116, 3) := by decide +kernel
theorem dX12_takes_26 : decode cX12_takes 26 = .ok (.iconst 1, 1) := by decide +kernel
theorem dX12_takes_27 : decode cX12_takes 27 = .ok (.iadd, 1) := by decide +kernel
theorem dX12_takes_28 : decode cX12_takes 28 = .ok (.putfield 116, 3) := by decide +kernel
theorem dX12_takes_31 : decode cX12_takes 31 = .ok (.iconst 1, 1) := by decide +kernel
theorem dX12_takes_32 : decode cX12_takes 32 = .ok (.ireturn, 1) := by decide +kernel
def X12_takes_16 (n : Nat) (h : Mm) : Option (Bool × Mm) := (bd (X12_fails h) (fun r13 h15 => (some (r13, h15))))
set_option maxRecDepth 100000 in
set_option maxHeartbeats 4000000 in
theorem v_X12_takes_16 {X : WX} {G : GX} {o : Mm} {n : Nat} {rv : Bool} {hz : Mm} {h : Mm} (hF : X12_takes_16 n h = some (rv, hz)) : V X G RX12 cX12_takes 2 (some .boolean) 2 0 0 (QR X G false o (some (.int (b2i rv))) hz) false o 16 [(0, .ref (xa X 251))] [] h := by
  unfold X12_takes_16 at hF
  refine V.aload_n 0 dX12_takes_16 rfl rfl ?_
  obtain ⟨r13, h15, hc14, hF⟩ := bd_s hF
  refine V.callVi mf_X12_fails ml_X12_131 sh_251 (s_X12_fails hc14) (by decide) rfl rfl (Nat.le_of_ble_eq_true rfl) dX12_takes_17 ?_
  cases hF
  exact V.bret dX12_takes_20
def X12_takes (n : Nat) (x1 : Int32) (h : Mm) : Option (Bool × Mm) := (if (h.1 251 11) = (-1) then (bd (X12_look n h) (fun r16 h18 => (if r16 = x1 then (some (true, (wI h18 251 10 ((h18.1 251 10) + (1))))) else (X12_takes_16 n h18)))) else (X12_takes_16 n h))
set_option maxRecDepth 100000 in
set_option maxHeartbeats 4000000 in
theorem s_X12_takes {X : WX} {o : Mm} {n : Nat} {x1 : Int32} {rv : Bool} {hz : Mm} {h : Mm} (hF : X12_takes n x1 h = some (rv, hz)) : Sat X yX12_takes cX12_takes 2 (some .boolean) 2 [.ref (xa X 251), .int x1] false o h (some (.int (b2i rv))) hz := by
  unfold X12_takes at hF
  refine Sat.mk (own := RX12) rfl (by decide +kernel) (Nat.le_of_ble_eq_true rfl) (fun G => ?_)
  refine V.sub (lv2 := [(0, _), (1, _)]) [0, 1] rfl ?_
  refine V.aload_n 0 dX12_takes_0 rfl rfl ?_
  refine V.getI fl_X12_125 sh_251 rfl km_251 dX12_takes_1 ?_
  refine V.iconst (v := -1) dX12_takes_4 rfl ?_
  refine V.icmp_ne (tgt := 16) dX12_takes_5 rfl (fun c => ?_) (fun c => ?_)
  · replace hF := (if_neg c).symm.trans hF
    exact V.sub [0] rfl (v_X12_takes_16 hF)
  · replace hF := (if_pos c).symm.trans hF
    refine V.aload_n 0 dX12_takes_8 rfl rfl ?_
    obtain ⟨r16, h18, hc17, hF⟩ := bd_s hF
    refine V.callVi mf_X12_look ml_X12_135 sh_251 (s_X12_look hc17) (by decide) rfl rfl (Nat.le_of_ble_eq_true rfl) dX12_takes_9 ?_
    refine V.iload_n 1 dX12_takes_12 rfl rfl ?_
    refine V.icmp_eq (tgt := 21) dX12_takes_13 rfl (fun c => ?_) (fun c => ?_)
    · replace hF := (if_pos c).symm.trans hF
      refine V.aload_n 0 dX12_takes_21 rfl rfl ?_
      refine V.dup dX12_takes_22 rfl ?_
      refine V.getI fl_X12_116 sh_251 rfl km_251 dX12_takes_23 ?_
      refine V.iconst (v := 1) dX12_takes_26 rfl ?_
      refine V.iadd dX12_takes_27 ?_
      refine V.putI fl_X12_116 rfl (tyX12_ok 10 (by decide)) rfl rfl sh_251 rfl km_251 dX12_takes_28 ?_
      refine V.iconst (v := 1) dX12_takes_31 rfl ?_
      cases hF
      exact V.bret dX12_takes_32
    · replace hF := (if_neg c).symm.trans hF
      exact V.sub [0] rfl (v_X12_takes_16 hF)
/-! MonsterCotModel.isDigit -/
theorem dX12_isDigit_0 : decode cX12_isDigit 0 = .ok (.aload_n 0, 1) := by decide +kernel
theorem dX12_isDigit_1 : decode cX12_isDigit 1 = .ok (.getfield 116, 3) := by decide +kernel
theorem dX12_isDigit_4 : decode cX12_isDigit 4 = .ok (.aload_n 0, 1) := by decide +kernel
theorem dX12_isDigit_5 : decode cX12_isDigit 5 = .ok (.getfield 119, 3) := by decide +kernel
theorem dX12_isDigit_8 : decode cX12_isDigit 8 = .ok (.if_icmp .ge 45, 3) := by decide +kernel
theorem dX12_isDigit_11 : decode cX12_isDigit 11 = .ok (.aload_n 0, 1) := by decide +kernel
theorem dX12_isDigit_12 : decode cX12_isDigit 12 = .ok (.getfield 23, 3) := by decide +kernel
theorem dX12_isDigit_15 : decode cX12_isDigit 15 = .ok (.aload_n 0, 1) := by decide +kernel
theorem dX12_isDigit_16 : decode cX12_isDigit 16 = .ok (.getfield 122, 3) := by decide +kernel
theorem dX12_isDigit_19 : decode cX12_isDigit 19 = .ok (.aload_n 0, 1) := by decide +kernel
theorem dX12_isDigit_20 : decode cX12_isDigit 20 = .ok (.getfield 116, 3) := by decide +kernel
theorem dX12_isDigit_23 : decode cX12_isDigit 23 = .ok (.iadd, 1) := by decide +kernel
theorem dX12_isDigit_24 : decode cX12_isDigit 24 = .ok (.baload, 1) := by decide +kernel
theorem dX12_isDigit_25 : decode cX12_isDigit 25 = .ok (.bipush 48, 2) := by decide +kernel
theorem dX12_isDigit_27 : decode cX12_isDigit 27 = .ok (.if_icmp .lt 26, 3) := by decide +kernel
theorem dX12_isDigit_30 : decode cX12_isDigit 30 = .ok (.aload_n 0, 1) := by decide +kernel
theorem dX12_isDigit_31 : decode cX12_isDigit 31 = .ok (.getfield 23, 3) := by decide +kernel
theorem dX12_isDigit_34 : decode cX12_isDigit 34 = .ok (.aload_n 0, 1) := by decide +kernel
theorem dX12_isDigit_35 : decode cX12_isDigit 35 = .ok (.getfield 122, 3) := by decide +kernel
theorem dX12_isDigit_38 : decode cX12_isDigit 38 = .ok (.aload_n 0, 1) := by decide +kernel
theorem dX12_isDigit_39 : decode cX12_isDigit 39 = .ok (.getfield 116, 3) := by decide +kernel
theorem dX12_isDigit_42 : decode cX12_isDigit 42 = .ok (.iadd, 1) := by decide +kernel
theorem dX12_isDigit_43 : decode cX12_isDigit 43 = .ok (.baload, 1) := by decide +kernel
theorem dX12_isDigit_44 : decode cX12_isDigit 44 = .ok (.bipush 57, 2) := by decide +kernel
theorem dX12_isDigit_46 : decode cX12_isDigit 46 = .ok (.if_icmp .gt 7, 3) := by decide +kernel
theorem dX12_isDigit_49 : decode cX12_isDigit 49 = .ok (.iconst 1, 1) := by decide +kernel
theorem dX12_isDigit_50 : decode cX12_isDigit 50 = .ok (.goto 4, 3) := by decide +kernel
theorem dX12_isDigit_53 : decode cX12_isDigit 53 = .ok (.iconst 0, 1) := by decide +kernel
theorem dX12_isDigit_54 : decode cX12_isDigit 54 = .ok (.ireturn, 1) := by decide +kernel
def X12_isDigit (h : Mm) : Option Bool := (if (h.1 251 9) ≤ (h.1 251 10) then (some false) else (bp (txt (h.1 251 5)) (fun t3 => (if inB ((h.1 251 8) + (h.1 251 10)) (aln t3) then (if (h.1 t3 ((h.1 251 8) + (h.1 251 10)).toNatClampNeg) < (48) then (some false) else (bp (txt (h.1 251 5)) (fun t4 => (if inB ((h.1 251 8) + (h.1 251 10)) (aln t4) then (if (57) < (h.1 t4 ((h.1 251 8) + (h.1 251 10)).toNatClampNeg) then (some false) else (some true)) else none)))) else none))))
set_option maxRecDepth 100000 in
set_option maxHeartbeats 4000000 in
theorem s_X12_isDigit {X : WX} {o : Mm} {rv : Bool} {h : Mm} (hF : X12_isDigit h = some rv) : Sat X yX12_isDigit cX12_isDigit 1 (some .boolean) 1 [.ref (xa X 251)] false o h (some (.int (b2i rv))) h := by
  unfold X12_isDigit at hF
  refine Sat.mk (own := RX12) rfl (by decide +kernel) (Nat.le_of_ble_eq_true rfl) (fun G => ?_)
  refine V.sub (lv2 := [(0, _)]) [0] rfl ?_
  refine V.aload_n 0 dX12_isDigit_0 rfl rfl ?_
  refine V.getI fl_X12_116 sh_251 rfl km_251 dX12_isDigit_1 ?_
  refine V.aload_n 0 dX12_isDigit_4 rfl rfl ?_
  refine V.getI fl_X12_119 sh_251 rfl km_251 dX12_isDigit_5 ?_
  refine V.icmp_ge (tgt := 53) dX12_isDigit_8 rfl (fun c => ?_) (fun c => ?_)
  · replace hF := (if_pos c).symm.trans hF
    refine V.iconst (v := 0) dX12_isDigit_53 rfl ?_
    cases hF
    exact V.bret dX12_isDigit_54
  · replace hF := (if_neg c).symm.trans hF
    refine V.aload_n 0 dX12_isDigit_11 rfl rfl ?_
    obtain ⟨t3, htt3, hF⟩ := bp_s hF
    refine V.getN fl_X12_23 sh_251 rfl km_251 t3 (txt_s htt3).1 (txt_s htt3).2.lt2 dX12_isDigit_12 ?_
    refine V.aload_n 0 dX12_isDigit_15 rfl rfl ?_
    refine V.getI fl_X12_122 sh_251 rfl km_251 dX12_isDigit_16 ?_
    refine V.aload_n 0 dX12_isDigit_19 rfl rfl ?_
    refine V.getI fl_X12_116 sh_251 rfl km_251 dX12_isDigit_20 ?_
    refine V.iadd dX12_isDigit_23 ?_
    obtain ⟨hk, hF⟩ := ck hF
    refine V.bald (txt_s htt3).2 hk dX12_isDigit_24 ?_
    refine V.bipush (v := 48) dX12_isDigit_25 (by decide) ?_
    refine V.icmp_lt (tgt := 53) dX12_isDigit_27 rfl (fun c => ?_) (fun c => ?_)
    · replace hF := (if_pos c).symm.trans hF
      refine V.iconst (v := 0) dX12_isDigit_53 rfl ?_
      cases hF
      exact V.bret dX12_isDigit_54
    · replace hF := (if_neg c).symm.trans hF
      refine V.aload_n 0 dX12_isDigit_30 rfl rfl ?_
      obtain ⟨t4, htt4, hF⟩ := bp_s hF
      refine V.getN fl_X12_23 sh_251 rfl km_251 t4 (txt_s htt4).1 (txt_s htt4).2.lt2 dX12_isDigit_31 ?_
      refine V.aload_n 0 dX12_isDigit_34 rfl rfl ?_
      refine V.getI fl_X12_122 sh_251 rfl km_251 dX12_isDigit_35 ?_
      refine V.aload_n 0 dX12_isDigit_38 rfl rfl ?_
      refine V.getI fl_X12_116 sh_251 rfl km_251 dX12_isDigit_39 ?_
      refine V.iadd dX12_isDigit_42 ?_
      obtain ⟨hk, hF⟩ := ck hF
      refine V.bald (txt_s htt4).2 hk dX12_isDigit_43 ?_
      refine V.bipush (v := 57) dX12_isDigit_44 (by decide) ?_
      refine V.icmp_gt (tgt := 53) dX12_isDigit_46 rfl (fun c => ?_) (fun c => ?_)
      · replace hF := (if_pos c).symm.trans hF
        refine V.iconst (v := 0) dX12_isDigit_53 rfl ?_
        cases hF
        exact V.bret dX12_isDigit_54
      · replace hF := (if_neg c).symm.trans hF
        refine V.iconst (v := 1) dX12_isDigit_49 rfl ?_
        refine V.goto (tgt := 54) dX12_isDigit_50 rfl ?_
        cases hF
        exact V.bret dX12_isDigit_54
/-! MonsterCotModel.within -/
theorem dX12_within_0 : decode cX12_within 0 = .ok (.ldc2_w 138, 3) := by decide +kernel
theorem dX12_within_3 : decode cX12_within 3 = .ok (.ldc2_w 140, 3) := by decide +kernel
theorem dX12_within_6 : decode cX12_within 6 = .ok (.lload_n 0, 1) := by decide +kernel
theorem dX12_within_7 : decode cX12_within 7 = .ok (.invokestatic 142, 3) := by decide +kernel
theorem dX12_within_10 : decode cX12_within 10 = .ok (.invokestatic 148, 3) := by decide +kernel
theorem dX12_within_13 : decode cX12_within 13 = .ok (.l2i, 1) := by decide +kernel
theorem dX12_within_14 : decode cX12_within 14 = .ok (.ireturn, 1) := by decide +kernel
def X12_within (x0 : Int64) (h : Mm) : Option Int32 := (bp (J9_min_f86c9 (1000000 : Int64) x0 h) (fun r5 => (bp (J9_max_f86c9 (-1000000 : Int64) r5 h) (fun r7 => (some r7.toInt32)))))
set_option maxRecDepth 100000 in
set_option maxHeartbeats 4000000 in
theorem s_X12_within {X : WX} {o : Mm} {x0 : Int64} {rv : Int32} {h : Mm} (hF : X12_within x0 h = some rv) : Sat X yX12_within cX12_within 2 (some .int) 2 [.long x0] false o h (some (.int rv)) h := by
  unfold X12_within at hF
  refine Sat.mk (own := RX12) rfl (by decide +kernel) (Nat.le_of_ble_eq_true rfl) (fun G => ?_)
  refine V.sub (lv2 := [(0, _)]) [0] rfl ?_
  refine V.ldc2 (v := -1000000) dX12_within_0 kc_X12_138 ?_
  refine V.ldc2 (v := 1000000) dX12_within_3 kc_X12_140 ?_
  refine V.lload_n 0 dX12_within_6 rfl rfl ?_
  obtain ⟨r5, hc6, hF⟩ := bp_s hF
  refine V.callSi mf_J9_min_f86c9 ml_X12_142 (s_J9_min_f86c9 hc6) (by decide) rfl rfl (Nat.le_of_ble_eq_true rfl) dX12_within_7 ?_
  obtain ⟨r7, hc8, hF⟩ := bp_s hF
  refine V.callSi mf_J9_max_f86c9 ml_X12_148 (s_J9_max_f86c9 hc8) (by decide) rfl rfl (Nat.le_of_ble_eq_true rfl) dX12_within_10 ?_
  refine V.l2i dX12_within_13 ?_
  cases hF
  exact V.iret dX12_within_14
/-! MonsterCotModel.term -/
theorem dX12_term_0 : decode cX12_term 0 = .ok (.aload_n 0, 1) := by decide +kernel
theorem dX12_term_1 : decode cX12_term 1 = .ok (.invokevirtual 168, 3) := by decide +kernel
theorem dX12_term_4 : decode cX12_term 4 = .ok (.istore_n 1, 1) := by decide +kernel
theorem dX12_term_5 : decode cX12_term 5 = .ok (.aload_n 0, 1) := by decide +kernel
theorem dX12_term_6 : decode cX12_term 6 = .ok (.getfield 125, 3) := by decide +kernel
theorem dX12_term_9 : decode cX12_term 9 = .ok (.iconst (-1), 1) := by decide +kernel
theorem dX12_term_10 : decode cX12_term 10 = .ok (.if_icmp .ne 84, 3) := by decide +kernel
theorem dX12_term_13 : decode cX12_term 13 = .ok (.aload_n 0, 1) := by decide +kernel
theorem dX12_term_14 : decode cX12_term 14 = .ok (.invokevirtual 135, 3) := by decide +kernel
theorem dX12_term_17 : decode cX12_term 17 = .ok (.bipush 42, 2) := by decide +kernel
theorem dX12_term_19 : decode cX12_term 19 = .ok (.if_icmp .eq 12, 3) := by decide +kernel
theorem dX12_term_22 : decode cX12_term 22 = .ok (.aload_n 0, 1) := by decide +kernel
theorem dX12_term_23 : decode cX12_term 23 = .ok (.invokevirtual 135, 3) := by decide +kernel
theorem dX12_term_26 : decode cX12_term 26 = .ok (.bipush 47, 2) := by decide +kernel
theorem dX12_term_28 : decode cX12_term 28 = .ok (.if_icmp .ne 66, 3) := by decide +kernel
theorem dX12_term_31 : decode cX12_term 31 = .ok (.aload_n 0, 1) := by decide +kernel
theorem dX12_term_32 : decode cX12_term 32 = .ok (.invokevirtual 135, 3) := by decide +kernel
theorem dX12_term_35 : decode cX12_term 35 = .ok (.bipush 42, 2) := by decide +kernel
theorem dX12_term_37 : decode cX12_term 37 = .ok (.if_icmp .ne 7, 3) := by decide +kernel
theorem dX12_term_40 : decode cX12_term 40 = .ok (.iconst 1, 1) := by decide +kernel
theorem dX12_term_41 : decode cX12_term 41 = .ok (.goto 4, 3) := by decide +kernel
theorem dX12_term_44 : decode cX12_term 44 = .ok (.iconst 0, 1) := by decide +kernel
theorem dX12_term_45 : decode cX12_term 45 = .ok (.istore_n 2, 1) := by decide +kernel
theorem dX12_term_46 : decode cX12_term 46 = .ok (.aload_n 0, 1) := by decide +kernel
theorem dX12_term_47 : decode cX12_term 47 = .ok (.dup, 1) := by decide +kernel
theorem dX12_term_48 : decode cX12_term 48 = .ok (.getfield 116, 3) := by decide +kernel
theorem dX12_term_51 : decode cX12_term 51 = .ok (.iconst 1, 1) := by decide +kernel
theorem dX12_term_52 : decode cX12_term 52 = .ok (.iadd, 1) := by decide +kernel
theorem dX12_term_53 : decode cX12_term 53 = .ok (.putfield 116, 3) := by decide +kernel
theorem dX12_term_56 : decode cX12_term 56 = .ok (.aload_n 0, 1) := by decide +kernel
theorem dX12_term_57 : decode cX12_term 57 = .ok (.invokevirtual 168, 3) := by decide +kernel
theorem dX12_term_60 : decode cX12_term 60 = .ok (.i2l, 1) := by decide +kernel
theorem dX12_term_61 : decode cX12_term 61 = .ok (.lstore_n 3, 1) := by decide +kernel
theorem dX12_term_62 : decode cX12_term 62 = .ok (.iload_n 2, 1) := by decide +kernel
theorem dX12_term_63 : decode cX12_term 63 = .ok (.ifCond .eq 10, 3) := by decide +kernel
theorem dX12_term_66 : decode cX12_term 66 = .ok (.iload_n 1, 1) := by decide +kernel
theorem dX12_term_67 : decode cX12_term 67 = .ok (.i2l, 1) := by decide +kernel
theorem dX12_term_68 : decode cX12_term 68 = .ok (.lload_n 3, 1) := by decide +kernel
theorem dX12_term_69 : decode cX12_term 69 = .ok (.lmul, 1) := by decide +kernel
theorem dX12_term_70 : decode cX12_term 70 = .ok (.goto 17, 3) := by decide +kernel
theorem dX12_term_73 : decode cX12_term 73 = .ok (.lload_n 3, 1) := by decide +kernel
theorem dX12_term_74 : decode cX12_term 74 = .ok (.lconst 0, 1) := by decide +kernel
theorem dX12_term_75 : decode cX12_term 75 = .ok (.lcmp, 1) := by decide +kernel
theorem dX12_term_76 : decode cX12_term 76 = .ok (.ifCond .ne 7, 3) := by decide +kernel
theorem dX12_term_79 : decode cX12_term 79 = .ok (.lconst 0, 1) := by decide +kernel
theorem dX12_term_80 : decode cX12_term 80 = .ok (.goto 7, 3) := by decide +kernel
theorem dX12_term_83 : decode cX12_term 83 = .ok (.iload_n 1, 1) := by decide +kernel
theorem dX12_term_84 : decode cX12_term 84 = .ok (.i2l, 1) := by decide +kernel
theorem dX12_term_85 : decode cX12_term 85 = .ok (.lload_n 3, 1) := by decide +kernel
theorem dX12_term_86 : decode cX12_term 86 = .ok (.ldiv, 1) := by decide +kernel
theorem dX12_term_87 : decode cX12_term 87 = .ok (.invokestatic 171, 3) := by decide +kernel
theorem dX12_term_90 : decode cX12_term 90 = .ok (.istore_n 1, 1) := by decide +kernel
theorem dX12_term_91 : decode cX12_term 91 = .ok (.goto (-86), 3) := by decide +kernel
theorem dX12_term_94 : decode cX12_term 94 = .ok (.iload_n 1, 1) := by decide +kernel
theorem dX12_term_95 : decode cX12_term 95 = .ok (.ireturn, 1) := by decide +kernel
def X12_term_87 (n : Nat) (rf : Mm → Option (Int32 × Mm)) (K5 : Int32 → Mm → Option (Int32 × Mm)) (s0 : Int64) (h : Mm) : Option (Int32 × Mm) := (bp (X12_within s0 h) (fun r54 => (K5 r54 h)))
set_option maxRecDepth 100000 in
set_option maxHeartbeats 4000000 in
theorem v_X12_term_87 {X : WX} {G : GX} {o : Mm} {n : Nat} {rf : Mm → Option (Int32 × Mm)} {dr : Nat} (hdr : 7 ≤ dr) (hrf : ∀   (h : Mm) (r : Int32) (h2 : Mm), rf  h = some (r, h2) → Sat X yX12_atom cX12_atom 4 (some .int) dr [.ref (xa X 251)] false o h (some (.int r)) h2) {K5 : Int32 → Mm → Option (Int32 × Mm)} {rv : Int32} {hz : Mm} (hK5 : ∀ (x1 : Int32) (h : Mm), K5 x1 h = some (rv, hz) → V X G RX12 cX12_term 5 (some .int) (dr + 1) 0 0 (QR X G false o (some (.int rv)) hz) false o 5 [(0, .ref (xa X 251)), (1, .int x1)] [] h) {s0 : Int64} {h : Mm} (hF : X12_term_87 n rf K5 s0 h = some (rv, hz)) : V X G RX12 cX12_term 5 (some .int) (dr + 1) 0 0 (QR X G false o (some (.int rv)) hz) false o 87 [(0, .ref (xa X 251))] [.long s0] h := by
  unfold X12_term_87 at hF
  obtain ⟨r54, hc55, hF⟩ := bp_s hF
  refine V.callSi mf_X12_within ml_X12_171 (s_X12_within hc55) (by omega) rfl rfl (Nat.le_of_ble_eq_true rfl) dX12_term_87 ?_
  refine V.istore_n [(1, _), (0, _)] dX12_term_90 rfl (by decide) rfl ?_
  refine V.goto (tgt := 5) dX12_term_91 rfl ?_
  exact V.sub [1, 0] rfl (hK5 _ _ hF)
def X12_term_45 (n : Nat) (rf : Mm → Option (Int32 × Mm)) (K5 : Int32 → Mm → Option (Int32 × Mm)) (x1 : Int32) (s0 : Bool) (h : Mm) : Option (Int32 × Mm) := (bd (rf (wI h 251 10 ((h.1 251 10) + (1)))) (fun r56 h58 => (if s0 = true then (X12_term_87 n rf K5 (x1.toInt64 * r56.toInt64) h58) else (if (lg_cmp r56.toInt64 (0 : Int64)) = 0 then (X12_term_87 n rf K5 (0 : Int64) h58) else (if ¬ r56.toInt64 = 0 then (X12_term_87 n rf K5 (x1.toInt64 / r56.toInt64) h58) else none)))))
set_option maxRecDepth 100000 in
set_option maxHeartbeats 4000000 in
theorem v_X12_term_45 {X : WX} {G : GX} {o : Mm} {n : Nat} {rf : Mm → Option (Int32 × Mm)} {dr : Nat} (hdr : 7 ≤ dr) (hrf : ∀   (h : Mm) (r : Int32) (h2 : Mm), rf  h = some (r, h2) → Sat X yX12_atom cX12_atom 4 (some .int) dr [.ref (xa X 251)] false o h (some (.int r)) h2) {K5 : Int32 → Mm → Option (Int32 × Mm)} {rv : Int32} {hz : Mm} (hK5 : ∀ (x1 : Int32) (h : Mm), K5 x1 h = some (rv, hz) → V X G RX12 cX12_term 5 (some .int) (dr + 1) 0 0 (QR X G false o (some (.int rv)) hz) false o 5 [(0, .ref (xa X 251)), (1, .int x1)] [] h) {x1 : Int32} {s0 : Bool} {h : Mm} (hF : X12_term_45 n rf K5 x1 s0 h = some (rv, hz)) : V X G RX12 cX12_term 5 (some .int) (dr + 1) 0 0 (QR X G false o (some (.int rv)) hz) false o 45 [(0, .ref (xa X 251)), (1, .int x1)] [.int (b2i s0)] h := by
  unfold X12_term_45 at hF
  refine V.istore_n [(2, _), (0, _), (1, _)] dX12_term_45 rfl (by decide) rfl ?_
  refine V.aload_n 1 dX12_term_46 rfl rfl ?_
  refine V.dup dX12_term_47 rfl ?_
  refine V.getI fl_X12_116 sh_251 rfl km_251 dX12_term_48 ?_
  refine V.iconst (v := 1) dX12_term_51 rfl ?_
  refine V.iadd dX12_term_52 ?_
  refine V.putI fl_X12_116 rfl (tyX12_ok 10 (by decide)) rfl rfl sh_251 rfl km_251 dX12_term_53 ?_
  refine V.aload_n 1 dX12_term_56 rfl rfl ?_
  obtain ⟨r56, h58, hc57, hF⟩ := bd_s hF
  refine V.callVi mf_X12_atom ml_X12_168 sh_251 (hrf _ _ _ hc57) (by omega) rfl rfl (Nat.le_of_ble_eq_true rfl) dX12_term_57 ?_
  refine V.i2l dX12_term_60 ?_
  refine V.lstore_n [(3, _), (2, _), (0, _), (1, _)] dX12_term_61 rfl (by decide) rfl ?_
  refine V.iload_n 1 dX12_term_62 rfl rfl ?_
  refine V.ifz_eq (tgt := 73) dX12_term_63 rfl (fun c => ?_) (fun c => ?_)
  · replace hF := (if_neg c).symm.trans hF
    refine V.lload_n 0 dX12_term_73 rfl rfl ?_
    refine V.lconst (v := 0) dX12_term_74 rfl ?_
    refine V.lcmp dX12_term_75 ?_
    refine V.if_ne (tgt := 83) dX12_term_76 rfl (fun c => ?_) (fun c => ?_)
    · replace hF := (if_neg c).symm.trans hF
      refine V.iload_n 3 dX12_term_83 rfl rfl ?_
      refine V.i2l dX12_term_84 ?_
      refine V.lload_n 0 dX12_term_85 rfl rfl ?_
      obtain ⟨hk, hF⟩ := ck hF
      refine V.ldiv dX12_term_86 hk ?_
      exact V.sub [2] rfl (v_X12_term_87 hdr hrf hK5 hF)
    · replace hF := (if_pos c).symm.trans hF
      refine V.lconst (v := 0) dX12_term_79 rfl ?_
      refine V.goto (tgt := 87) dX12_term_80 rfl ?_
      exact V.sub [2] rfl (v_X12_term_87 hdr hrf hK5 hF)
  · replace hF := (if_pos c).symm.trans hF
    refine V.iload_n 3 dX12_term_66 rfl rfl ?_
    refine V.i2l dX12_term_67 ?_
    refine V.lload_n 0 dX12_term_68 rfl rfl ?_
    refine V.lmul dX12_term_69 ?_
    refine V.goto (tgt := 87) dX12_term_70 rfl ?_
    exact V.sub [2] rfl (v_X12_term_87 hdr hrf hK5 hF)
def X12_term_31 (n : Nat) (rf : Mm → Option (Int32 × Mm)) (K5 : Int32 → Mm → Option (Int32 × Mm)) (x1 : Int32) (h : Mm) : Option (Int32 × Mm) := (bd (X12_look n h) (fun r59 h61 => (if r59 = (42) then (X12_term_45 n rf K5 x1 true h61) else (X12_term_45 n rf K5 x1 false h61))))
set_option maxRecDepth 100000 in
set_option maxHeartbeats 4000000 in
theorem v_X12_term_31 {X : WX} {G : GX} {o : Mm} {n : Nat} {rf : Mm → Option (Int32 × Mm)} {dr : Nat} (hdr : 7 ≤ dr) (hrf : ∀   (h : Mm) (r : Int32) (h2 : Mm), rf  h = some (r, h2) → Sat X yX12_atom cX12_atom 4 (some .int) dr [.ref (xa X 251)] false o h (some (.int r)) h2) {K5 : Int32 → Mm → Option (Int32 × Mm)} {rv : Int32} {hz : Mm} (hK5 : ∀ (x1 : Int32) (h : Mm), K5 x1 h = some (rv, hz) → V X G RX12 cX12_term 5 (some .int) (dr + 1) 0 0 (QR X G false o (some (.int rv)) hz) false o 5 [(0, .ref (xa X 251)), (1, .int x1)] [] h) {x1 : Int32} {h : Mm} (hF : X12_term_31 n rf K5 x1 h = some (rv, hz)) : V X G RX12 cX12_term 5 (some .int) (dr + 1) 0 0 (QR X G false o (some (.int rv)) hz) false o 31 [(0, .ref (xa X 251)), (1, .int x1)] [] h := by
  unfold X12_term_31 at hF
  refine V.aload_n 0 dX12_term_31 rfl rfl ?_
  obtain ⟨r59, h61, hc60, hF⟩ := bd_s hF
  refine V.callVi mf_X12_look ml_X12_135 sh_251 (s_X12_look hc60) (by omega) rfl rfl (Nat.le_of_ble_eq_true rfl) dX12_term_32 ?_
  refine V.bipush (v := 42) dX12_term_35 (by decide) ?_
  refine V.icmp_ne (tgt := 44) dX12_term_37 rfl (fun c => ?_) (fun c => ?_)
  · replace hF := (if_neg c).symm.trans hF
    refine V.iconst (v := 0) dX12_term_44 rfl ?_
    exact (v_X12_term_45 hdr hrf hK5 hF)
  · replace hF := (if_pos c).symm.trans hF
    refine V.iconst (v := 1) dX12_term_40 rfl ?_
    refine V.goto (tgt := 45) dX12_term_41 rfl ?_
    exact (v_X12_term_45 hdr hrf hK5 hF)
def X12_term_94 (n : Nat) (rf : Mm → Option (Int32 × Mm)) (x1 : Int32) (h : Mm) : Option (Int32 × Mm) := (some (x1, h))
set_option maxRecDepth 100000 in
set_option maxHeartbeats 4000000 in
theorem v_X12_term_94 {X : WX} {G : GX} {o : Mm} {n : Nat} {rf : Mm → Option (Int32 × Mm)} {dr : Nat} (hdr : 7 ≤ dr) (hrf : ∀   (h : Mm) (r : Int32) (h2 : Mm), rf  h = some (r, h2) → Sat X yX12_atom cX12_atom 4 (some .int) dr [.ref (xa X 251)] false o h (some (.int r)) h2) {rv : Int32} {hz : Mm} {x1 : Int32} {h : Mm} (hF : X12_term_94 n rf x1 h = some (rv, hz)) : V X G RX12 cX12_term 5 (some .int) (dr + 1) 0 0 (QR X G false o (some (.int rv)) hz) false o 94 [(1, .int x1)] [] h := by
  unfold X12_term_94 at hF
  refine V.iload_n 0 dX12_term_94 rfl rfl ?_
  cases hF
  exact V.iret dX12_term_95
def X12_term_5 (n : Nat) (rf : Mm → Option (Int32 × Mm)) : Nat → Int32 → Mm → Option (Int32 × Mm)
  | 0, _, _ => none
  | f + 1, x1, h => (if (h.1 251 11) = (-1) then (bd (X12_look n h) (fun r62 h64 => (if r62 = (42) then (X12_term_31 n rf (X12_term_5 n rf f) x1 h64) else (bd (X12_look n h64) (fun r65 h67 => (if r65 = (47) then (X12_term_31 n rf (X12_term_5 n rf f) x1 h67) else (X12_term_94 n rf x1 h67))))))) else (X12_term_94 n rf x1 h))
set_option maxRecDepth 100000 in
set_option maxHeartbeats 4000000 in
theorem v_X12_term_5 {X : WX} {G : GX} {o : Mm} {n : Nat} {rf : Mm → Option (Int32 × Mm)} {dr : Nat} (hdr : 7 ≤ dr) (hrf : ∀   (h : Mm) (r : Int32) (h2 : Mm), rf  h = some (r, h2) → Sat X yX12_atom cX12_atom 4 (some .int) dr [.ref (xa X 251)] false o h (some (.int r)) h2) {rv : Int32} {hz : Mm} : ∀ (f : Nat) (x1 : Int32) (h : Mm), X12_term_5 n rf f x1 h = some (rv, hz) → V X G RX12 cX12_term 5 (some .int) (dr + 1) 0 0 (QR X G false o (some (.int rv)) hz) false o 5 [(0, .ref (xa X 251)), (1, .int x1)] [] h := by
  intro f
  induction f with
  | zero => intro x1 h hF; exact nomatch (show (none : Option (Int32 × Mm)) = some (rv, hz) from hF)
  | succ f ih =>
    intro x1 h hF
    unfold X12_term_5 at hF
    refine V.aload_n 0 dX12_term_5 rfl rfl ?_
    refine V.getI fl_X12_125 sh_251 rfl km_251 dX12_term_6 ?_
    refine V.iconst (v := -1) dX12_term_9 rfl ?_
    refine V.icmp_ne (tgt := 94) dX12_term_10 rfl (fun c => ?_) (fun c => ?_)
    · replace hF := (if_neg c).symm.trans hF
      exact V.sub [1] rfl (v_X12_term_94 hdr hrf hF)
    · replace hF := (if_pos c).symm.trans hF
      refine V.aload_n 0 dX12_term_13 rfl rfl ?_
      obtain ⟨r62, h64, hc63, hF⟩ := bd_s hF
      refine V.callVi mf_X12_look ml_X12_135 sh_251 (s_X12_look hc63) (by omega) rfl rfl (Nat.le_of_ble_eq_true rfl) dX12_term_14 ?_
      refine V.bipush (v := 42) dX12_term_17 (by decide) ?_
      refine V.icmp_eq (tgt := 31) dX12_term_19 rfl (fun c => ?_) (fun c => ?_)
      · replace hF := (if_pos c).symm.trans hF
        exact (v_X12_term_31 hdr hrf ih hF)
      · replace hF := (if_neg c).symm.trans hF
        refine V.aload_n 0 dX12_term_22 rfl rfl ?_
        obtain ⟨r65, h67, hc66, hF⟩ := bd_s hF
        refine V.callVi mf_X12_look ml_X12_135 sh_251 (s_X12_look hc66) (by omega) rfl rfl (Nat.le_of_ble_eq_true rfl) dX12_term_23 ?_
        refine V.bipush (v := 47) dX12_term_26 (by decide) ?_
        refine V.icmp_ne (tgt := 94) dX12_term_28 rfl (fun c => ?_) (fun c => ?_)
        · replace hF := (if_neg c).symm.trans hF
          exact V.sub [1] rfl (v_X12_term_94 hdr hrf hF)
        · replace hF := (if_pos c).symm.trans hF
          exact (v_X12_term_31 hdr hrf ih hF)
def X12_term (n : Nat) (rf : Mm → Option (Int32 × Mm)) (h : Mm) : Option (Int32 × Mm) := (bd (rf h) (fun r68 h70 => (X12_term_5 n rf n r68 h70)))
set_option maxRecDepth 100000 in
set_option maxHeartbeats 4000000 in
theorem s_X12_term {X : WX} {o : Mm} {n : Nat} {rf : Mm → Option (Int32 × Mm)} {dr : Nat} (hdr : 7 ≤ dr) (hrf : ∀   (h : Mm) (r : Int32) (h2 : Mm), rf  h = some (r, h2) → Sat X yX12_atom cX12_atom 4 (some .int) dr [.ref (xa X 251)] false o h (some (.int r)) h2) {rv : Int32} {hz : Mm} {h : Mm} (hF : X12_term n rf h = some (rv, hz)) : Sat X yX12_term cX12_term 5 (some .int) (dr + 1) [.ref (xa X 251)] false o h (some (.int rv)) hz := by
  unfold X12_term at hF
  refine Sat.mk (own := RX12) rfl (by decide +kernel) (Nat.le_of_ble_eq_true rfl) (fun G => ?_)
  refine V.sub (lv2 := [(0, _)]) [0] rfl ?_
  refine V.aload_n 0 dX12_term_0 rfl rfl ?_
  obtain ⟨r68, h70, hc69, hF⟩ := bd_s hF
  refine V.callVi mf_X12_atom ml_X12_168 sh_251 (hrf _ _ _ hc69) (by omega) rfl rfl (Nat.le_of_ble_eq_true rfl) dX12_term_1 ?_
  refine V.istore_n [(1, _), (0, _)] dX12_term_4 rfl (by decide) rfl ?_
  exact V.sub [1, 0] rfl (v_X12_term_5 hdr hrf n _ _ hF)
/-! MonsterCotModel.sum -/
theorem dX12_sum_0 : decode cX12_sum 0 = .ok (.aload_n 0, 1) := by decide +kernel
theorem dX12_sum_1 : decode cX12_sum 1 = .ok (.invokevirtual 175, 3) := by decide +kernel
theorem dX12_sum_4 : decode cX12_sum 4 = .ok (.istore_n 1, 1) := by decide +kernel
theorem dX12_sum_5 : decode cX12_sum 5 = .ok (.aload_n 0, 1) := by decide +kernel
theorem dX12_sum_6 : decode cX12_sum 6 = .ok (.getfield 125, 3) := by decide +kernel
theorem dX12_sum_9 : decode cX12_sum 9 = .ok (.iconst (-1), 1) := by decide +kernel
theorem dX12_sum_10 : decode cX12_sum 10 = .ok (.if_icmp .ne 74, 3) := by decide +kernel
theorem dX12_sum_13 : decode cX12_sum 13 = .ok (.aload_n 0, 1) := by decide +kernel
theorem dX12_sum_14 : decode cX12_sum 14 = .ok (.invokevirtual 135, 3) := by decide +kernel
theorem dX12_sum_17 : decode cX12_sum 17 = .ok (.bipush 43, 2) := by decide +kernel
theorem dX12_sum_19 : decode cX12_sum 19 = .ok (.if_icmp .eq 12, 3) := by decide +kernel
theorem dX12_sum_22 : decode cX12_sum 22 = .ok (.aload_n 0, 1) := by decide +kernel
theorem dX12_sum_23 : decode cX12_sum 23 = .ok (.invokevirtual 135, 3) := by decide +kernel
theorem dX12_sum_26 : decode cX12_sum 26 = .ok (.bipush 45, 2) := by decide +kernel
theorem dX12_sum_28 : decode cX12_sum 28 = .ok (.if_icmp .ne 56, 3) := by decide +kernel
theorem dX12_sum_31 : decode cX12_sum 31 = .ok (.aload_n 0, 1) := by decide +kernel
theorem dX12_sum_32 : decode cX12_sum 32 = .ok (.invokevirtual 135, 3) := by decide +kernel
theorem dX12_sum_35 : decode cX12_sum 35 = .ok (.bipush 43, 2) := by decide +kernel
theorem dX12_sum_37 : decode cX12_sum 37 = .ok (.if_icmp .ne 7, 3) := by decide +kernel
theorem dX12_sum_40 : decode cX12_sum 40 = .ok (.iconst 1, 1) := by decide +kernel
theorem dX12_sum_41 : decode cX12_sum 41 = .ok (.goto 4, 3) := by decide +kernel
theorem dX12_sum_44 : decode cX12_sum 44 = .ok (.iconst 0, 1) := by decide +kernel
theorem dX12_sum_45 : decode cX12_sum 45 = .ok (.istore_n 2, 1) := by decide +kernel
theorem dX12_sum_46 : decode cX12_sum 46 = .ok (.aload_n 0, 1) := by decide +kernel
theorem dX12_sum_47 : decode cX12_sum 47 = .ok (.dup, 1) := by decide +kernel
theorem dX12_sum_48 : decode cX12_sum 48 = .ok (.getfield 116, 3) := by decide +kernel
theorem dX12_sum_51 : decode cX12_sum 51 = .ok (.iconst 1, 1) := by decide +kernel
theorem dX12_sum_52 : decode cX12_sum 52 = .ok (.iadd, 1) := by decide +kernel
theorem dX12_sum_53 : decode cX12_sum 53 = .ok (.putfield 116, 3) := by decide +kernel
theorem dX12_sum_56 : decode cX12_sum 56 = .ok (.aload_n 0, 1) := by decide +kernel
theorem dX12_sum_57 : decode cX12_sum 57 = .ok (.invokevirtual 175, 3) := by decide +kernel
theorem dX12_sum_60 : decode cX12_sum 60 = .ok (.i2l, 1) := by decide +kernel
theorem dX12_sum_61 : decode cX12_sum 61 = .ok (.lstore_n 3, 1) := by decide +kernel
theorem dX12_sum_62 : decode cX12_sum 62 = .ok (.iload_n 2, 1) := by decide +kernel
theorem dX12_sum_63 : decode cX12_sum 63 = .ok (.ifCond .eq 10, 3) := by decide +kernel
theorem dX12_sum_66 : decode cX12_sum 66 = .ok (.iload_n 1, 1) := by decide +kernel
theorem dX12_sum_67 : decode cX12_sum 67 = .ok (.i2l, 1) := by decide +kernel
theorem dX12_sum_68 : decode cX12_sum 68 = .ok (.lload_n 3, 1) := by decide +kernel
theorem dX12_sum_69 : decode cX12_sum 69 = .ok (.ladd, 1) := by decide +kernel
theorem dX12_sum_70 : decode cX12_sum 70 = .ok (.goto 7, 3) := by decide +kernel
theorem dX12_sum_73 : decode cX12_sum 73 = .ok (.iload_n 1, 1) := by decide +kernel
theorem dX12_sum_74 : decode cX12_sum 74 = .ok (.i2l, 1) := by decide +kernel
theorem dX12_sum_75 : decode cX12_sum 75 = .ok (.lload_n 3, 1) := by decide +kernel
theorem dX12_sum_76 : decode cX12_sum 76 = .ok (.lsub, 1) := by decide +kernel
theorem dX12_sum_77 : decode cX12_sum 77 = .ok (.invokestatic 171, 3) := by decide +kernel
theorem dX12_sum_80 : decode cX12_sum 80 = .ok (.istore_n 1, 1) := by decide +kernel
theorem dX12_sum_81 : decode cX12_sum 81 = .ok (.goto (-76), 3) := by decide +kernel
theorem dX12_sum_84 : decode cX12_sum 84 = .ok (.iload_n 1, 1) := by decide +kernel
theorem dX12_sum_85 : decode cX12_sum 85 = .ok (.ireturn, 1) := by decide +kernel
def X12_sum_77 (n : Nat) (rf : Mm → Option (Int32 × Mm)) (K5 : Int32 → Mm → Option (Int32 × Mm)) (s0 : Int64) (h : Mm) : Option (Int32 × Mm) := (bp (X12_within s0 h) (fun r54 => (K5 r54 h)))
set_option maxRecDepth 100000 in
set_option maxHeartbeats 4000000 in
theorem v_X12_sum_77 {X : WX} {G : GX} {o : Mm} {n : Nat} {rf : Mm → Option (Int32 × Mm)} {dr : Nat} (hdr : 7 ≤ dr) (hrf : ∀   (h : Mm) (r : Int32) (h2 : Mm), rf  h = some (r, h2) → Sat X yX12_atom cX12_atom 4 (some .int) dr [.ref (xa X 251)] false o h (some (.int r)) h2) {K5 : Int32 → Mm → Option (Int32 × Mm)} {rv : Int32} {hz : Mm} (hK5 : ∀ (x1 : Int32) (h : Mm), K5 x1 h = some (rv, hz) → V X G RX12 cX12_sum 5 (some .int) (dr + 2) 0 0 (QR X G false o (some (.int rv)) hz) false o 5 [(0, .ref (xa X 251)), (1, .int x1)] [] h) {s0 : Int64} {h : Mm} (hF : X12_sum_77 n rf K5 s0 h = some (rv, hz)) : V X G RX12 cX12_sum 5 (some .int) (dr + 2) 0 0 (QR X G false o (some (.int rv)) hz) false o 77 [(0, .ref (xa X 251))] [.long s0] h := by
  unfold X12_sum_77 at hF
  obtain ⟨r54, hc55, hF⟩ := bp_s hF
  refine V.callSi mf_X12_within ml_X12_171 (s_X12_within hc55) (by omega) rfl rfl (Nat.le_of_ble_eq_true rfl) dX12_sum_77 ?_
  refine V.istore_n [(1, _), (0, _)] dX12_sum_80 rfl (by decide) rfl ?_
  refine V.goto (tgt := 5) dX12_sum_81 rfl ?_
  exact V.sub [1, 0] rfl (hK5 _ _ hF)
def X12_sum_45 (n : Nat) (rf : Mm → Option (Int32 × Mm)) (K5 : Int32 → Mm → Option (Int32 × Mm)) (x1 : Int32) (s0 : Bool) (h : Mm) : Option (Int32 × Mm) := (bd (X12_term n rf (wI h 251 10 ((h.1 251 10) + (1)))) (fun r56 h58 => (if s0 = true then (X12_sum_77 n rf K5 (x1.toInt64 + r56.toInt64) h58) else (X12_sum_77 n rf K5 (x1.toInt64 - r56.toInt64) h58))))
set_option maxRecDepth 100000 in
set_option maxHeartbeats 4000000 in
theorem v_X12_sum_45 {X : WX} {G : GX} {o : Mm} {n : Nat} {rf : Mm → Option (Int32 × Mm)} {dr : Nat} (hdr : 7 ≤ dr) (hrf : ∀   (h : Mm) (r : Int32) (h2 : Mm), rf  h = some (r, h2) → Sat X yX12_atom cX12_atom 4 (some .int) dr [.ref (xa X 251)] false o h (some (.int r)) h2) {K5 : Int32 → Mm → Option (Int32 × Mm)} {rv : Int32} {hz : Mm} (hK5 : ∀ (x1 : Int32) (h : Mm), K5 x1 h = some (rv, hz) → V X G RX12 cX12_sum 5 (some .int) (dr + 2) 0 0 (QR X G false o (some (.int rv)) hz) false o 5 [(0, .ref (xa X 251)), (1, .int x1)] [] h) {x1 : Int32} {s0 : Bool} {h : Mm} (hF : X12_sum_45 n rf K5 x1 s0 h = some (rv, hz)) : V X G RX12 cX12_sum 5 (some .int) (dr + 2) 0 0 (QR X G false o (some (.int rv)) hz) false o 45 [(0, .ref (xa X 251)), (1, .int x1)] [.int (b2i s0)] h := by
  unfold X12_sum_45 at hF
  refine V.istore_n [(2, _), (0, _), (1, _)] dX12_sum_45 rfl (by decide) rfl ?_
  refine V.aload_n 1 dX12_sum_46 rfl rfl ?_
  refine V.dup dX12_sum_47 rfl ?_
  refine V.getI fl_X12_116 sh_251 rfl km_251 dX12_sum_48 ?_
  refine V.iconst (v := 1) dX12_sum_51 rfl ?_
  refine V.iadd dX12_sum_52 ?_
  refine V.putI fl_X12_116 rfl (tyX12_ok 10 (by decide)) rfl rfl sh_251 rfl km_251 dX12_sum_53 ?_
  refine V.aload_n 1 dX12_sum_56 rfl rfl ?_
  obtain ⟨r56, h58, hc57, hF⟩ := bd_s hF
  refine V.callVi mf_X12_term ml_X12_175 sh_251 (s_X12_term hdr hrf hc57) (by omega) rfl rfl (Nat.le_of_ble_eq_true rfl) dX12_sum_57 ?_
  refine V.i2l dX12_sum_60 ?_
  refine V.lstore_n [(3, _), (2, _), (0, _), (1, _)] dX12_sum_61 rfl (by decide) rfl ?_
  refine V.iload_n 1 dX12_sum_62 rfl rfl ?_
  refine V.ifz_eq (tgt := 73) dX12_sum_63 rfl (fun c => ?_) (fun c => ?_)
  · replace hF := (if_neg c).symm.trans hF
    refine V.iload_n 3 dX12_sum_73 rfl rfl ?_
    refine V.i2l dX12_sum_74 ?_
    refine V.lload_n 0 dX12_sum_75 rfl rfl ?_
    refine V.lsub dX12_sum_76 ?_
    exact V.sub [2] rfl (v_X12_sum_77 hdr hrf hK5 hF)
  · replace hF := (if_pos c).symm.trans hF
    refine V.iload_n 3 dX12_sum_66 rfl rfl ?_
    refine V.i2l dX12_sum_67 ?_
    refine V.lload_n 0 dX12_sum_68 rfl rfl ?_
    refine V.ladd dX12_sum_69 ?_
    refine V.goto (tgt := 77) dX12_sum_70 rfl ?_
    exact V.sub [2] rfl (v_X12_sum_77 hdr hrf hK5 hF)
def X12_sum_31 (n : Nat) (rf : Mm → Option (Int32 × Mm)) (K5 : Int32 → Mm → Option (Int32 × Mm)) (x1 : Int32) (h : Mm) : Option (Int32 × Mm) := (bd (X12_look n h) (fun r59 h61 => (if r59 = (43) then (X12_sum_45 n rf K5 x1 true h61) else (X12_sum_45 n rf K5 x1 false h61))))
set_option maxRecDepth 100000 in
set_option maxHeartbeats 4000000 in
theorem v_X12_sum_31 {X : WX} {G : GX} {o : Mm} {n : Nat} {rf : Mm → Option (Int32 × Mm)} {dr : Nat} (hdr : 7 ≤ dr) (hrf : ∀   (h : Mm) (r : Int32) (h2 : Mm), rf  h = some (r, h2) → Sat X yX12_atom cX12_atom 4 (some .int) dr [.ref (xa X 251)] false o h (some (.int r)) h2) {K5 : Int32 → Mm → Option (Int32 × Mm)} {rv : Int32} {hz : Mm} (hK5 : ∀ (x1 : Int32) (h : Mm), K5 x1 h = some (rv, hz) → V X G RX12 cX12_sum 5 (some .int) (dr + 2) 0 0 (QR X G false o (some (.int rv)) hz) false o 5 [(0, .ref (xa X 251)), (1, .int x1)] [] h) {x1 : Int32} {h : Mm} (hF : X12_sum_31 n rf K5 x1 h = some (rv, hz)) : V X G RX12 cX12_sum 5 (some .int) (dr + 2) 0 0 (QR X G false o (some (.int rv)) hz) false o 31 [(0, .ref (xa X 251)), (1, .int x1)] [] h := by
  unfold X12_sum_31 at hF
  refine V.aload_n 0 dX12_sum_31 rfl rfl ?_
  obtain ⟨r59, h61, hc60, hF⟩ := bd_s hF
  refine V.callVi mf_X12_look ml_X12_135 sh_251 (s_X12_look hc60) (by omega) rfl rfl (Nat.le_of_ble_eq_true rfl) dX12_sum_32 ?_
  refine V.bipush (v := 43) dX12_sum_35 (by decide) ?_
  refine V.icmp_ne (tgt := 44) dX12_sum_37 rfl (fun c => ?_) (fun c => ?_)
  · replace hF := (if_neg c).symm.trans hF
    refine V.iconst (v := 0) dX12_sum_44 rfl ?_
    exact (v_X12_sum_45 hdr hrf hK5 hF)
  · replace hF := (if_pos c).symm.trans hF
    refine V.iconst (v := 1) dX12_sum_40 rfl ?_
    refine V.goto (tgt := 45) dX12_sum_41 rfl ?_
    exact (v_X12_sum_45 hdr hrf hK5 hF)
def X12_sum_84 (n : Nat) (rf : Mm → Option (Int32 × Mm)) (x1 : Int32) (h : Mm) : Option (Int32 × Mm) := (some (x1, h))
set_option maxRecDepth 100000 in
set_option maxHeartbeats 4000000 in
theorem v_X12_sum_84 {X : WX} {G : GX} {o : Mm} {n : Nat} {rf : Mm → Option (Int32 × Mm)} {dr : Nat} (hdr : 7 ≤ dr) (hrf : ∀   (h : Mm) (r : Int32) (h2 : Mm), rf  h = some (r, h2) → Sat X yX12_atom cX12_atom 4 (some .int) dr [.ref (xa X 251)] false o h (some (.int r)) h2) {rv : Int32} {hz : Mm} {x1 : Int32} {h : Mm} (hF : X12_sum_84 n rf x1 h = some (rv, hz)) : V X G RX12 cX12_sum 5 (some .int) (dr + 2) 0 0 (QR X G false o (some (.int rv)) hz) false o 84 [(1, .int x1)] [] h := by
  unfold X12_sum_84 at hF
  refine V.iload_n 0 dX12_sum_84 rfl rfl ?_
  cases hF
  exact V.iret dX12_sum_85
def X12_sum_5 (n : Nat) (rf : Mm → Option (Int32 × Mm)) : Nat → Int32 → Mm → Option (Int32 × Mm)
  | 0, _, _ => none
  | f + 1, x1, h => (if (h.1 251 11) = (-1) then (bd (X12_look n h) (fun r62 h64 => (if r62 = (43) then (X12_sum_31 n rf (X12_sum_5 n rf f) x1 h64) else (bd (X12_look n h64) (fun r65 h67 => (if r65 = (45) then (X12_sum_31 n rf (X12_sum_5 n rf f) x1 h67) else (X12_sum_84 n rf x1 h67))))))) else (X12_sum_84 n rf x1 h))
set_option maxRecDepth 100000 in
set_option maxHeartbeats 4000000 in
theorem v_X12_sum_5 {X : WX} {G : GX} {o : Mm} {n : Nat} {rf : Mm → Option (Int32 × Mm)} {dr : Nat} (hdr : 7 ≤ dr) (hrf : ∀   (h : Mm) (r : Int32) (h2 : Mm), rf  h = some (r, h2) → Sat X yX12_atom cX12_atom 4 (some .int) dr [.ref (xa X 251)] false o h (some (.int r)) h2) {rv : Int32} {hz : Mm} : ∀ (f : Nat) (x1 : Int32) (h : Mm), X12_sum_5 n rf f x1 h = some (rv, hz) → V X G RX12 cX12_sum 5 (some .int) (dr + 2) 0 0 (QR X G false o (some (.int rv)) hz) false o 5 [(0, .ref (xa X 251)), (1, .int x1)] [] h := by
  intro f
  induction f with
  | zero => intro x1 h hF; exact nomatch (show (none : Option (Int32 × Mm)) = some (rv, hz) from hF)
  | succ f ih =>
    intro x1 h hF
    unfold X12_sum_5 at hF
    refine V.aload_n 0 dX12_sum_5 rfl rfl ?_
    refine V.getI fl_X12_125 sh_251 rfl km_251 dX12_sum_6 ?_
    refine V.iconst (v := -1) dX12_sum_9 rfl ?_
    refine V.icmp_ne (tgt := 84) dX12_sum_10 rfl (fun c => ?_) (fun c => ?_)
    · replace hF := (if_neg c).symm.trans hF
      exact V.sub [1] rfl (v_X12_sum_84 hdr hrf hF)
    · replace hF := (if_pos c).symm.trans hF
      refine V.aload_n 0 dX12_sum_13 rfl rfl ?_
      obtain ⟨r62, h64, hc63, hF⟩ := bd_s hF
      refine V.callVi mf_X12_look ml_X12_135 sh_251 (s_X12_look hc63) (by omega) rfl rfl (Nat.le_of_ble_eq_true rfl) dX12_sum_14 ?_
      refine V.bipush (v := 43) dX12_sum_17 (by decide) ?_
      refine V.icmp_eq (tgt := 31) dX12_sum_19 rfl (fun c => ?_) (fun c => ?_)
      · replace hF := (if_pos c).symm.trans hF
        exact (v_X12_sum_31 hdr hrf ih hF)
      · replace hF := (if_neg c).symm.trans hF
        refine V.aload_n 0 dX12_sum_22 rfl rfl ?_
        obtain ⟨r65, h67, hc66, hF⟩ := bd_s hF
        refine V.callVi mf_X12_look ml_X12_135 sh_251 (s_X12_look hc66) (by omega) rfl rfl (Nat.le_of_ble_eq_true rfl) dX12_sum_23 ?_
        refine V.bipush (v := 45) dX12_sum_26 (by decide) ?_
        refine V.icmp_ne (tgt := 84) dX12_sum_28 rfl (fun c => ?_) (fun c => ?_)
        · replace hF := (if_neg c).symm.trans hF
          exact V.sub [1] rfl (v_X12_sum_84 hdr hrf hF)
        · replace hF := (if_pos c).symm.trans hF
          exact (v_X12_sum_31 hdr hrf ih hF)
def X12_sum (n : Nat) (rf : Mm → Option (Int32 × Mm)) (h : Mm) : Option (Int32 × Mm) := (bd (X12_term n rf h) (fun r68 h70 => (X12_sum_5 n rf n r68 h70)))
set_option maxRecDepth 100000 in
set_option maxHeartbeats 4000000 in
theorem s_X12_sum {X : WX} {o : Mm} {n : Nat} {rf : Mm → Option (Int32 × Mm)} {dr : Nat} (hdr : 7 ≤ dr) (hrf : ∀   (h : Mm) (r : Int32) (h2 : Mm), rf  h = some (r, h2) → Sat X yX12_atom cX12_atom 4 (some .int) dr [.ref (xa X 251)] false o h (some (.int r)) h2) {rv : Int32} {hz : Mm} {h : Mm} (hF : X12_sum n rf h = some (rv, hz)) : Sat X yX12_sum cX12_sum 5 (some .int) (dr + 2) [.ref (xa X 251)] false o h (some (.int rv)) hz := by
  unfold X12_sum at hF
  refine Sat.mk (own := RX12) rfl (by decide +kernel) (Nat.le_of_ble_eq_true rfl) (fun G => ?_)
  refine V.sub (lv2 := [(0, _)]) [0] rfl ?_
  refine V.aload_n 0 dX12_sum_0 rfl rfl ?_
  obtain ⟨r68, h70, hc69, hF⟩ := bd_s hF
  refine V.callVi mf_X12_term ml_X12_175 sh_251 (s_X12_term hdr hrf hc69) (by omega) rfl rfl (Nat.le_of_ble_eq_true rfl) dX12_sum_1 ?_
  refine V.istore_n [(1, _), (0, _)] dX12_sum_4 rfl (by decide) rfl ?_
  exact V.sub [1, 0] rfl (v_X12_sum_5 hdr hrf n _ _ hF)
/-! MonsterCotModel.atom -/
theorem dX12_atom_0 : decode cX12_atom 0 = .ok (.aload_n 0, 1) := by decide +kernel
theorem dX12_atom_1 : decode cX12_atom 1 = .ok (.invokevirtual 135, 3) := by decide +kernel
theorem dX12_atom_4 : decode cX12_atom 4 = .ok (.istore_n 1, 1) := by decide +kernel
theorem dX12_atom_5 : decode cX12_atom 5 = .ok (.ldc 32, 2) := by decide +kernel
theorem dX12_atom_7 : decode cX12_atom 7 = .ok (.iload_n 1, 1) := by decide +kernel
theorem dX12_atom_8 : decode cX12_atom 8 = .ok (.invokestatic 151, 3) := by decide +kernel
theorem dX12_atom_11 : decode cX12_atom 11 = .ok (.ifCond .eq 20, 3) := by decide +kernel
theorem dX12_atom_14 : decode cX12_atom 14 = .ok (.aload_n 0, 1) := by decide +kernel
theorem dX12_atom_15 : decode cX12_atom 15 = .ok (.dup, 1) := by decide +kernel
theorem dX12_atom_16 : decode cX12_atom 16 = .ok (.getfield 116, 3) := by decide +kernel
theorem dX12_atom_19 : decode cX12_atom 19 = .ok (.iconst 1, 1) := by decide +kernel
theorem dX12_atom_20 : decode cX12_atom 20 = .ok (.iadd, 1) := by decide +kernel
theorem dX12_atom_21 : decode cX12_atom 21 = .ok (.putfield 116, 3) := by decide +kernel
theorem dX12_atom_24 : decode cX12_atom 24 = .ok (.aload_n 0, 1) := by decide +kernel
theorem dX12_atom_25 : decode cX12_atom 25 = .ok (.getfield 20, 3) := by decide +kernel
theorem dX12_atom_28 : decode cX12_atom 28 = .ok (.iload_n 1, 1) := by decide +kernel
theorem dX12_atom_29 : decode cX12_atom 29 = .ok (.iaload, 1) := by decide +kernel
theorem dX12_atom_30 : decode cX12_atom 30 = .ok (.ireturn, 1) := by decide +kernel
theorem dX12_atom_31 : decode cX12_atom 31 = .ok (.iload_n 1, 1) := by decide +kernel
theorem dX12_atom_32 : decode cX12_atom 32 = .ok (.bipush 91, 2) := by decide +kernel
theorem dX12_atom_34 : decode cX12_atom 34 = .ok (.if_icmp .ne 40, 3) := by decide +kernel
theorem dX12_atom_37 : decode cX12_atom 37 = .ok (.aload_n 0, 1) := by decide +kernel
theorem dX12_atom_38 : decode cX12_atom 38 = .ok (.invokevirtual 155, 3) := by decide +kernel
theorem dX12_atom_41 : decode cX12_atom 41 = .ok (.ifCond .ne 5, 3) := by decide +kernel
theorem dX12_atom_44 : decode cX12_atom 44 = .ok (.iconst 0, 1) := by decide +kernel
theorem dX12_atom_45 : decode cX12_atom 45 = .ok (.ireturn, 1) := by decide +kernel
theorem dX12_atom_46 : decode cX12_atom 46 = .ok (.aload_n 0, 1) := by decide +kernel
theorem dX12_atom_47 : decode cX12_atom 47 = .ok (.invokevirtual 158, 3) := by decide +kernel
theorem dX12_atom_50 : decode cX12_atom 50 = .ok (.istore_n 2, 1) := by decide +kernel
theorem dX12_atom_51 : decode cX12_atom 51 = .ok (.aload_n 0, 1) := by decide +kernel
theorem dX12_atom_52 : decode cX12_atom 52 = .ok (.bipush 93, 2) := by decide +kernel
theorem dX12_atom_54 : decode cX12_atom 54 = .ok (.invokevirtual 161, 3) := by decide +kernel
theorem dX12_atom_57 : decode cX12_atom 57 = .ok (.ifCond .ne 5, 3) := by decide +kernel
theorem dX12_atom_60 : decode cX12_atom 60 = .ok (.iconst 0, 1) := by decide +kernel
theorem dX12_atom_61 : decode cX12_atom 61 = .ok (.ireturn, 1) := by decide +kernel
theorem dX12_atom_62 : decode cX12_atom 62 = .ok (.aload_n 0, 1) := by decide +kernel
theorem dX12_atom_63 : decode cX12_atom 63 = .ok (.dup, 1) := by decide +kernel
theorem dX12_atom_64 : decode cX12_atom 64 = .ok (.getfield 128, 3) := by decide +kernel
theorem dX12_atom_67 : decode cX12_atom 67 = .ok (.iconst 1, 1) := by decide +kernel
theorem dX12_atom_68 : decode cX12_atom 68 = .ok (.isub, 1) := by decide +kernel
theorem dX12_atom_69 : decode cX12_atom 69 = .ok (.putfield 128, 3) := by decide +kernel
theorem dX12_atom_72 : decode cX12_atom 72 = .ok (.iload_n 2, 1) := by decide +kernel
theorem dX12_atom_73 : decode cX12_atom 73 = .ok (.ireturn, 1) := by decide +kernel
theorem dX12_atom_74 : decode cX12_atom 74 = .ok (.aload_n 0, 1) := by decide +kernel
theorem dX12_atom_75 : decode cX12_atom 75 = .ok (.invokevirtual 165, 3) := by decide +kernel
theorem dX12_atom_78 : decode cX12_atom 78 = .ok (.ifCond .ne 8, 3) := by decide +kernel
theorem dX12_atom_81 : decode cX12_atom 81 = .ok (.aload_n 0, 1) := by decide +kernel
theorem dX12_atom_82 : decode cX12_atom 82 = .ok (.invokevirtual 131, 3) := by decide +kernel
theorem dX12_atom_85 : decode cX12_atom 85 = .ok (.pop, 1) := by decide +kernel
theorem dX12_atom_86 : decode cX12_atom 86 = .ok (.iconst 0, 1) := by decide +kernel
theorem dX12_atom_87 : decode cX12_atom 87 = .ok (.istore_n 2, 1) := by decide +kernel
theorem dX12_atom_88 : decode cX12_atom 88 = .ok (.iconst 0, 1) := by decide +kernel
theorem dX12_atom_89 : decode cX12_atom 89 = .ok (.istore_n 3, 1) := by decide +kernel
theorem dX12_atom_90 : decode cX12_atom 90 = .ok (.aload_n 0, 1) := by decide +kernel
theorem dX12_atom_91 : decode cX12_atom 91 = .ok (.invokevirtual 165, 3) := by decide +kernel
theorem dX12_atom_94 : decode cX12_atom 94 = .ok (.ifCond .eq 62, 3) := by decide +kernel
theorem dX12_atom_97 : decode cX12_atom 97 = .ok (.aload_n 0, 1) := by decide +kernel
theorem dX12_atom_98 : decode cX12_atom 98 = .ok (.getfield 125, 3) := by decide +kernel
theorem dX12_atom_101 : decode cX12_atom 101 = .ok (.iconst (-1), 1) := by decide +kernel
theorem dX12_atom_102 : decode cX12_atom 102 = .ok (.if_icmp .ne 54, 3) := by decide +kernel
theorem dX12_atom_105 : decode cX12_atom 105 = .ok (.iload_n 3, 1) := by decide +kernel
theorem dX12_atom_106 : decode cX12_atom 106 = .ok (.iconst 4, 1) := by decide +kernel
theorem dX12_atom_107 : decode cX12_atom 107 = .ok (.if_icmp .ne 10, 3) := by decide +kernel
theorem dX12_atom_110 : decode cX12_atom 110 = .ok (.aload_n 0, 1) := by decide +kernel
theorem dX12_atom_111 : decode cX12_atom 111 = .ok (.invokevirtual 131, 3) := by decide +kernel
theorem dX12_atom_114 : decode cX12_atom 114 = .ok (.pop, 1) := by decide +kernel
theorem dX12_atom_115 : decode cX12_atom 115 = .ok (.iconst 0, 1) := by decide +kernel
theorem dX12_atom_116 : decode cX12_atom 116 = .ok (.ireturn, 1) := by decide +kernel
theorem dX12_atom_117 : decode cX12_atom 117 = .ok (.bipush 10, 2) := by decide +kernel
theorem dX12_atom_119 : decode cX12_atom 119 = .ok (.iload_n 2, 1) := by decide +kernel
theorem dX12_atom_120 : decode cX12_atom 120 = .ok (.imul, 1) := by decide +kernel
theorem dX12_atom_121 : decode cX12_atom 121 = .ok (.aload_n 0, 1) := by decide +kernel
theorem dX12_atom_122 : decode cX12_atom 122 = .ok (.getfield 23, 3) := by decide +kernel
theorem dX12_atom_125 : decode cX12_atom 125 = .ok (.aload_n 0, 1) := by decide +kernel
theorem dX12_atom_126 : decode cX12_atom 126 = .ok (.getfield 122, 3) := by decide +kernel
theorem dX12_atom_129 : decode cX12_atom 129 = .ok (.aload_n 0, 1) := by decide +kernel
theorem dX12_atom_130 : decode cX12_atom 130 = .ok (.getfield 116, 3) := by decide +kernel
theorem dX12_atom_133 : decode cX12_atom 133 = .ok (.iadd, 1) := by decide +kernel
theorem dX12_atom_134 : decode cX12_atom 134 = .ok (.baload, 1) := by decide +kernel
theorem dX12_atom_135 : decode cX12_atom 135 = .ok (.iadd, 1) := by decide +kernel
theorem dX12_atom_136 : decode cX12_atom 136 = .ok (.bipush 48, 2) := by decide +kernel
theorem dX12_atom_138 : decode cX12_atom 138 = .ok (.isub, 1) := by decide +kernel
theorem dX12_atom_139 : decode cX12_atom 139 = .ok (.istore_n 2, 1) := by decide +kernel
theorem dX12_atom_140 : decode cX12_atom 140 = .ok (.aload_n 0, 1) := by decide +kernel
theorem dX12_atom_141 : decode cX12_atom 141 = .ok (.dup, 1) := by decide +kernel
theorem dX12_atom_142 : decode cX12_atom 142 = .ok (.getfield 116, 3) := by decide +kernel
theorem dX12_atom_145 : decode cX12_atom 145 = .ok (.iconst 1, 1) := by decide +kernel
theorem dX12_atom_146 : decode cX12_atom 146 = .ok (.iadd, 1) := by decide +kernel
theorem dX12_atom_147 : decode cX12_atom 147 = .ok (.putfield 116, 3) := by decide +kernel
theorem dX12_atom_150 : decode cX12_atom 150 = .ok (.iinc 3 1, 3) := by decide +kernel
theorem dX12_atom_153 : decode cX12_atom 153 = .ok (.goto (-63), 3) := by decide +kernel
theorem dX12_atom_156 : decode cX12_atom 156 = .ok (.iload_n 2, 1) := by decide +kernel
theorem dX12_atom_157 : decode cX12_atom 157 = .ok (.ireturn, 1) := by decide +kernel
def X12_atom_156 (n : Nat) (rf : Mm → Option (Int32 × Mm)) (x2 : Int32) (h : Mm) : Option (Int32 × Mm) := (some (x2, h))
set_option maxRecDepth 100000 in
set_option maxHeartbeats 4000000 in
theorem v_X12_atom_156 {X : WX} {G : GX} {o : Mm} {n : Nat} {rf : Mm → Option (Int32 × Mm)} {dr : Nat} (hdr : 7 ≤ dr) (hrf : ∀   (h : Mm) (r : Int32) (h2 : Mm), rf  h = some (r, h2) → Sat X yX12_atom cX12_atom 4 (some .int) dr [.ref (xa X 251)] false o h (some (.int r)) h2) {DD : Nat} (hDD : dr + 3 ≤ DD) {rv : Int32} {hz : Mm} {x2 : Int32} {h : Mm} (hF : X12_atom_156 n rf x2 h = some (rv, hz)) : V X G RX12 cX12_atom 4 (some .int) DD 0 0 (QR X G false o (some (.int rv)) hz) false o 156 [(2, .int x2)] [] h := by
  unfold X12_atom_156 at hF
  refine V.iload_n 0 dX12_atom_156 rfl rfl ?_
  cases hF
  exact V.iret dX12_atom_157
def X12_atom_90 (n : Nat) (rf : Mm → Option (Int32 × Mm)) : Nat → Int32 → Int32 → Mm → Option (Int32 × Mm)
  | 0, _, _, _ => none
  | f + 1, x2, x3, h => (bp (X12_isDigit h) (fun r95 => (if r95 = true then (if (h.1 251 11) = (-1) then (if x3 = (4) then (bd (X12_fails h) (fun r98 h100 => (some ((0), h100)))) else (bp (txt (h.1 251 5)) (fun t97 => (if inB ((h.1 251 8) + (h.1 251 10)) (aln t97) then ((X12_atom_90 n rf f) ((((10) * x2) + (h.1 t97 ((h.1 251 8) + (h.1 251 10)).toNatClampNeg)) - (48)) (x3 + (1)) (wI h 251 10 ((h.1 251 10) + (1)))) else none)))) else (X12_atom_156 n rf x2 h)) else (X12_atom_156 n rf x2 h))))
set_option maxRecDepth 100000 in
set_option maxHeartbeats 4000000 in
theorem v_X12_atom_90 {X : WX} {G : GX} {o : Mm} {n : Nat} {rf : Mm → Option (Int32 × Mm)} {dr : Nat} (hdr : 7 ≤ dr) (hrf : ∀   (h : Mm) (r : Int32) (h2 : Mm), rf  h = some (r, h2) → Sat X yX12_atom cX12_atom 4 (some .int) dr [.ref (xa X 251)] false o h (some (.int r)) h2) {DD : Nat} (hDD : dr + 3 ≤ DD) {rv : Int32} {hz : Mm} : ∀ (f : Nat) (x2 : Int32) (x3 : Int32) (h : Mm), X12_atom_90 n rf f x2 x3 h = some (rv, hz) → V X G RX12 cX12_atom 4 (some .int) DD 0 0 (QR X G false o (some (.int rv)) hz) false o 90 [(0, .ref (xa X 251)), (2, .int x2), (3, .int x3)] [] h := by
  intro f
  induction f with
  | zero => intro x2 x3 h hF; exact nomatch (show (none : Option (Int32 × Mm)) = some (rv, hz) from hF)
  | succ f ih =>
    intro x2 x3 h hF
    unfold X12_atom_90 at hF
    refine V.aload_n 0 dX12_atom_90 rfl rfl ?_
    obtain ⟨r95, hc96, hF⟩ := bp_s hF
    refine V.callVi mf_X12_isDigit ml_X12_165 sh_251 (s_X12_isDigit hc96) (by omega) rfl rfl (Nat.le_of_ble_eq_true rfl) dX12_atom_91 ?_
    refine V.ifz_eq (tgt := 156) dX12_atom_94 rfl (fun c => ?_) (fun c => ?_)
    · replace hF := (if_neg c).symm.trans hF
      exact V.sub [1] rfl (v_X12_atom_156 hdr hrf hF)
    · replace hF := (if_pos c).symm.trans hF
      refine V.aload_n 0 dX12_atom_97 rfl rfl ?_
      refine V.getI fl_X12_125 sh_251 rfl km_251 dX12_atom_98 ?_
      refine V.iconst (v := -1) dX12_atom_101 rfl ?_
      refine V.icmp_ne (tgt := 156) dX12_atom_102 rfl (fun c => ?_) (fun c => ?_)
      · replace hF := (if_neg c).symm.trans hF
        exact V.sub [1] rfl (v_X12_atom_156 hdr hrf hF)
      · replace hF := (if_pos c).symm.trans hF
        refine V.iload_n 2 dX12_atom_105 rfl rfl ?_
        refine V.iconst (v := 4) dX12_atom_106 rfl ?_
        refine V.icmp_ne (tgt := 117) dX12_atom_107 rfl (fun c => ?_) (fun c => ?_)
        · replace hF := (if_neg c).symm.trans hF
          refine V.bipush (v := 10) dX12_atom_117 (by decide) ?_
          refine V.iload_n 1 dX12_atom_119 rfl rfl ?_
          refine V.imul dX12_atom_120 ?_
          refine V.aload_n 0 dX12_atom_121 rfl rfl ?_
          obtain ⟨t97, htt97, hF⟩ := bp_s hF
          refine V.getN fl_X12_23 sh_251 rfl km_251 t97 (txt_s htt97).1 (txt_s htt97).2.lt2 dX12_atom_122 ?_
          refine V.aload_n 0 dX12_atom_125 rfl rfl ?_
          refine V.getI fl_X12_122 sh_251 rfl km_251 dX12_atom_126 ?_
          refine V.aload_n 0 dX12_atom_129 rfl rfl ?_
          refine V.getI fl_X12_116 sh_251 rfl km_251 dX12_atom_130 ?_
          refine V.iadd dX12_atom_133 ?_
          obtain ⟨hk, hF⟩ := ck hF
          refine V.bald (txt_s htt97).2 hk dX12_atom_134 ?_
          refine V.iadd dX12_atom_135 ?_
          refine V.bipush (v := 48) dX12_atom_136 (by decide) ?_
          refine V.isub dX12_atom_138 ?_
          refine V.istore_n [(2, _), (0, _), (3, _)] dX12_atom_139 rfl (by decide) rfl ?_
          refine V.aload_n 1 dX12_atom_140 rfl rfl ?_
          refine V.dup dX12_atom_141 rfl ?_
          refine V.getI fl_X12_116 sh_251 rfl km_251 dX12_atom_142 ?_
          refine V.iconst (v := 1) dX12_atom_145 rfl ?_
          refine V.iadd dX12_atom_146 ?_
          refine V.putI fl_X12_116 rfl (tyX12_ok 10 (by decide)) rfl rfl sh_251 rfl km_251 dX12_atom_147 ?_
          refine V.iinc (v := (x3 + (1))) 2 [(3, _), (2, _), (0, _)] dX12_atom_150 rfl rfl (by decide) rfl ?_
          refine V.goto (tgt := 90) dX12_atom_153 rfl ?_
          exact V.sub [2, 1, 0] rfl (ih _ _ _ hF)
        · replace hF := (if_pos c).symm.trans hF
          refine V.aload_n 0 dX12_atom_110 rfl rfl ?_
          obtain ⟨r98, h100, hc99, hF⟩ := bd_s hF
          refine V.callVi mf_X12_fails ml_X12_131 sh_251 (s_X12_fails hc99) (by omega) rfl rfl (Nat.le_of_ble_eq_true rfl) dX12_atom_111 ?_
          refine V.pop dX12_atom_114 rfl ?_
          refine V.iconst (v := 0) dX12_atom_115 rfl ?_
          cases hF
          exact V.iret dX12_atom_116
def X12_atom_86 (n : Nat) (rf : Mm → Option (Int32 × Mm)) (h : Mm) : Option (Int32 × Mm) := (X12_atom_90 n rf n (0) (0) h)
set_option maxRecDepth 100000 in
set_option maxHeartbeats 4000000 in
theorem v_X12_atom_86 {X : WX} {G : GX} {o : Mm} {n : Nat} {rf : Mm → Option (Int32 × Mm)} {dr : Nat} (hdr : 7 ≤ dr) (hrf : ∀   (h : Mm) (r : Int32) (h2 : Mm), rf  h = some (r, h2) → Sat X yX12_atom cX12_atom 4 (some .int) dr [.ref (xa X 251)] false o h (some (.int r)) h2) {DD : Nat} (hDD : dr + 3 ≤ DD) {rv : Int32} {hz : Mm} {h : Mm} (hF : X12_atom_86 n rf h = some (rv, hz)) : V X G RX12 cX12_atom 4 (some .int) DD 0 0 (QR X G false o (some (.int rv)) hz) false o 86 [(0, .ref (xa X 251))] [] h := by
  unfold X12_atom_86 at hF
  refine V.iconst (v := 0) dX12_atom_86 rfl ?_
  refine V.istore_n [(2, _), (0, _)] dX12_atom_87 rfl (by decide) rfl ?_
  refine V.iconst (v := 0) dX12_atom_88 rfl ?_
  refine V.istore_n [(3, _), (2, _), (0, _)] dX12_atom_89 rfl (by decide) rfl ?_
  exact V.sub [2, 1, 0] rfl (v_X12_atom_90 hdr hrf n _ _ _ hF)
def X12_atom_b (n : Nat) (rf : Mm → Option (Int32 × Mm)) (h : Mm) : Option (Int32 × Mm) := (bd (X12_look n h) (fun r101 h103 => (bp (X12_isAmong n 1032 r101 h103) (fun r104 => (if r104 = true then (if inB r101 (aln 255) then (some (((wI h103 251 10 ((h103.1 251 10) + (1))).1 255 r101.toNatClampNeg), (wI h103 251 10 ((h103.1 251 10) + (1))))) else none) else (if r101 = (91) then (bd (X12_goesIn h103) (fun r111 h113 => (if r111 = true then (bd (X12_sum n rf h113) (fun r114 h116 => (bd (X12_takes n (93) h116) (fun r117 h119 => (if r117 = true then (some (r114, (wI h119 251 12 ((h119.1 251 12) - (1))))) else (some ((0), h119))))))) else (some ((0), h113))))) else (bp (X12_isDigit h103) (fun r106 => (if r106 = true then (X12_atom_86 n rf h103) else (bd (X12_fails h103) (fun r108 h110 => (X12_atom_86 n rf h110))))))))))))
set_option maxRecDepth 100000 in
set_option maxHeartbeats 4000000 in
theorem s_X12_atom_b {X : WX} {o : Mm} {n : Nat} {rf : Mm → Option (Int32 × Mm)} {dr : Nat} (hdr : 7 ≤ dr) (hrf : ∀   (h : Mm) (r : Int32) (h2 : Mm), rf  h = some (r, h2) → Sat X yX12_atom cX12_atom 4 (some .int) dr [.ref (xa X 251)] false o h (some (.int r)) h2) {DD : Nat} (hDD : dr + 3 ≤ DD) {rv : Int32} {hz : Mm} {h : Mm} (hF : X12_atom_b n rf h = some (rv, hz)) : Sat X yX12_atom cX12_atom 4 (some .int) DD [.ref (xa X 251)] false o h (some (.int rv)) hz := by
  unfold X12_atom_b at hF
  refine Sat.mk (own := RX12) rfl (by decide +kernel) (Nat.le_of_ble_eq_true rfl) (fun G => ?_)
  refine V.sub (lv2 := [(0, _)]) [0] rfl ?_
  refine V.aload_n 0 dX12_atom_0 rfl rfl ?_
  obtain ⟨r101, h103, hc102, hF⟩ := bd_s hF
  refine V.callVi mf_X12_look ml_X12_135 sh_251 (s_X12_look hc102) (by omega) rfl rfl (Nat.le_of_ble_eq_true rfl) dX12_atom_1 ?_
  refine V.istore_n [(1, _), (0, _)] dX12_atom_4 rfl (by decide) rfl ?_
  refine V.ldcS sc_1032 rfl rfl dX12_atom_5 ?_
  refine V.iload_n 0 dX12_atom_7 rfl rfl ?_
  obtain ⟨r104, hc105, hF⟩ := bp_s hF
  refine V.callSi mf_X12_isAmong ml_X12_151 (s_X12_isAmong ⟨by decide, by decide⟩ hc105) (by omega) rfl rfl (Nat.le_of_ble_eq_true rfl) dX12_atom_8 ?_
  refine V.ifz_eq (tgt := 31) dX12_atom_11 rfl (fun c => ?_) (fun c => ?_)
  · replace hF := (if_neg c).symm.trans hF
    refine V.iload_n 0 dX12_atom_31 rfl rfl ?_
    refine V.bipush (v := 91) dX12_atom_32 (by decide) ?_
    refine V.icmp_ne (tgt := 74) dX12_atom_34 rfl (fun c => ?_) (fun c => ?_)
    · replace hF := (if_neg c).symm.trans hF
      refine V.aload_n 1 dX12_atom_74 rfl rfl ?_
      obtain ⟨r106, hc107, hF⟩ := bp_s hF
      refine V.callVi mf_X12_isDigit ml_X12_165 sh_251 (s_X12_isDigit hc107) (by omega) rfl rfl (Nat.le_of_ble_eq_true rfl) dX12_atom_75 ?_
      refine V.ifz_ne (tgt := 86) dX12_atom_78 rfl (fun c => ?_) (fun c => ?_)
      · replace hF := (if_pos c).symm.trans hF
        exact V.sub [1] rfl (v_X12_atom_86 hdr hrf hF)
      · replace hF := (if_neg c).symm.trans hF
        refine V.aload_n 1 dX12_atom_81 rfl rfl ?_
        obtain ⟨r108, h110, hc109, hF⟩ := bd_s hF
        refine V.callVi mf_X12_fails ml_X12_131 sh_251 (s_X12_fails hc109) (by omega) rfl rfl (Nat.le_of_ble_eq_true rfl) dX12_atom_82 ?_
        refine V.pop dX12_atom_85 rfl ?_
        exact V.sub [1] rfl (v_X12_atom_86 hdr hrf hF)
    · replace hF := (if_pos c).symm.trans hF
      refine V.aload_n 1 dX12_atom_37 rfl rfl ?_
      obtain ⟨r111, h113, hc112, hF⟩ := bd_s hF
      refine V.callVi mf_X12_goesIn ml_X12_155 sh_251 (s_X12_goesIn hc112) (by omega) rfl rfl (Nat.le_of_ble_eq_true rfl) dX12_atom_38 ?_
      refine V.ifz_ne (tgt := 46) dX12_atom_41 rfl (fun c => ?_) (fun c => ?_)
      · replace hF := (if_pos c).symm.trans hF
        refine V.aload_n 1 dX12_atom_46 rfl rfl ?_
        obtain ⟨r114, h116, hc115, hF⟩ := bd_s hF
        refine V.callVi mf_X12_sum ml_X12_158 sh_251 (s_X12_sum hdr hrf hc115) (by omega) rfl rfl (Nat.le_of_ble_eq_true rfl) dX12_atom_47 ?_
        refine V.istore_n [(2, _), (1, _), (0, _)] dX12_atom_50 rfl (by decide) rfl ?_
        refine V.aload_n 2 dX12_atom_51 rfl rfl ?_
        refine V.bipush (v := 93) dX12_atom_52 (by decide) ?_
        obtain ⟨r117, h119, hc118, hF⟩ := bd_s hF
        refine V.callVi mf_X12_takes ml_X12_161 sh_251 (s_X12_takes hc118) (by omega) rfl rfl (Nat.le_of_ble_eq_true rfl) dX12_atom_54 ?_
        refine V.ifz_ne (tgt := 62) dX12_atom_57 rfl (fun c => ?_) (fun c => ?_)
        · replace hF := (if_pos c).symm.trans hF
          refine V.aload_n 2 dX12_atom_62 rfl rfl ?_
          refine V.dup dX12_atom_63 rfl ?_
          refine V.getI fl_X12_128 sh_251 rfl km_251 dX12_atom_64 ?_
          refine V.iconst (v := 1) dX12_atom_67 rfl ?_
          refine V.isub dX12_atom_68 ?_
          refine V.putI fl_X12_128 rfl (tyX12_ok 12 (by decide)) rfl rfl sh_251 rfl km_251 dX12_atom_69 ?_
          refine V.iload_n 0 dX12_atom_72 rfl rfl ?_
          cases hF
          exact V.iret dX12_atom_73
        · replace hF := (if_neg c).symm.trans hF
          refine V.iconst (v := 0) dX12_atom_60 rfl ?_
          cases hF
          exact V.iret dX12_atom_61
      · replace hF := (if_neg c).symm.trans hF
        refine V.iconst (v := 0) dX12_atom_44 rfl ?_
        cases hF
        exact V.iret dX12_atom_45
  · replace hF := (if_pos c).symm.trans hF
    refine V.aload_n 1 dX12_atom_14 rfl rfl ?_
    refine V.dup dX12_atom_15 rfl ?_
    refine V.getI fl_X12_116 sh_251 rfl km_251 dX12_atom_16 ?_
    refine V.iconst (v := 1) dX12_atom_19 rfl ?_
    refine V.iadd dX12_atom_20 ?_
    refine V.putI fl_X12_116 rfl (tyX12_ok 10 (by decide)) rfl rfl sh_251 rfl km_251 dX12_atom_21 ?_
    refine V.aload_n 1 dX12_atom_24 rfl rfl ?_
    refine V.getR (v := 255) fl_X12_20 sh_251 rfl fx_251_4 (by decide) dX12_atom_25 ?_
    refine V.iload_n 0 dX12_atom_28 rfl rfl ?_
    obtain ⟨hk, hF⟩ := ck hF
    refine V.iald io_255 hk dX12_atom_29 ?_
    cases hF
    exact V.iret dX12_atom_30
def X12_atom (n : Nat) : Nat → Mm → Option (Int32 × Mm)
  | 0, _ => none
  | e + 1, h => X12_atom_b n (X12_atom n e)  h
set_option maxRecDepth 100000 in
set_option maxHeartbeats 4000000 in
theorem s_X12_atom {X : WX} {o : Mm} {n : Nat} : ∀ (e : Nat)  (h : Mm) (rv : Int32) (hz : Mm), X12_atom n e  h = some (rv, hz) → Sat X yX12_atom cX12_atom 4 (some .int) (7 + 4 * e) [.ref (xa X 251)] false o h (some (.int rv)) hz := by
  intro e
  induction e with
  | zero => intro  h rv hz hF; exact nomatch (show (none : Option (Int32 × Mm)) = some (rv, hz) from hF)
  | succ e ih => intro  h rv hz hF; exact s_X12_atom_b (dr := 7 + 4 * e) (by omega) ih (by omega)  hF
/-! MonsterCotModel.isSign -/
theorem dX12_isSign_0 : decode cX12_isSign 0 = .ok (.iload_n 0, 1) := by decide +kernel
theorem dX12_isSign_1 : decode cX12_isSign 1 = .ok (.bipush 61, 2) := by decide +kernel
theorem dX12_isSign_3 : decode cX12_isSign 3 = .ok (.if_icmp .eq 15, 3) := by decide +kernel
theorem dX12_isSign_6 : decode cX12_isSign 6 = .ok (.iload_n 0, 1) := by decide +kernel
theorem dX12_isSign_7 : decode cX12_isSign 7 = .ok (.bipush 60, 2) := by decide +kernel
theorem dX12_isSign_9 : decode cX12_isSign 9 = .ok (.if_icmp .eq 9, 3) := by decide +kernel
theorem dX12_isSign_12 : decode cX12_isSign 12 = .ok (.iload_n 0, 1) := by decide +kernel
theorem dX12_isSign_13 : decode cX12_isSign 13 = .ok (.bipush 62, 2) := by decide +kernel
theorem dX12_isSign_15 : decode cX12_isSign 15 = .ok (.if_icmp .ne 7, 3) := by decide +kernel
theorem dX12_isSign_18 : decode cX12_isSign 18 = .ok (.iconst 1, 1) := by decide +kernel
theorem dX12_isSign_19 : decode cX12_isSign 19 = .ok (.goto 4, 3) := by decide +kernel
theorem dX12_isSign_22 : decode cX12_isSign 22 = .ok (.iconst 0, 1) := by decide +kernel
theorem dX12_isSign_23 : decode cX12_isSign 23 = .ok (.ireturn, 1) := by decide +kernel
def X12_isSign_18 (h : Mm) : Option Bool := (some true)
set_option maxRecDepth 100000 in
set_option maxHeartbeats 4000000 in
theorem v_X12_isSign_18 {X : WX} {G : GX} {o : Mm} {rv : Bool} {h : Mm} (hF : X12_isSign_18  h = some rv) : V X G RX12 cX12_isSign 1 (some .boolean) 1 0 0 (QR X G false o (some (.int (b2i rv))) h) false o 18 [] [] h := by
  unfold X12_isSign_18 at hF
  refine V.iconst (v := 1) dX12_isSign_18 rfl ?_
  refine V.goto (tgt := 23) dX12_isSign_19 rfl ?_
  cases hF
  exact V.bret dX12_isSign_23
def X12_isSign (x0 : Int32) (h : Mm) : Option Bool := (if x0 = (61) then (X12_isSign_18 h) else (if x0 = (60) then (X12_isSign_18 h) else (if x0 = (62) then (X12_isSign_18 h) else (some false))))
set_option maxRecDepth 100000 in
set_option maxHeartbeats 4000000 in
theorem s_X12_isSign {X : WX} {o : Mm} {x0 : Int32} {rv : Bool} {h : Mm} (hF : X12_isSign x0 h = some rv) : Sat X yX12_isSign cX12_isSign 1 (some .boolean) 1 [.int x0] false o h (some (.int (b2i rv))) h := by
  unfold X12_isSign at hF
  refine Sat.mk (own := RX12) rfl (by decide +kernel) (Nat.le_of_ble_eq_true rfl) (fun G => ?_)
  refine V.sub (lv2 := [(0, _)]) [0] rfl ?_
  refine V.iload_n 0 dX12_isSign_0 rfl rfl ?_
  refine V.bipush (v := 61) dX12_isSign_1 (by decide) ?_
  refine V.icmp_eq (tgt := 18) dX12_isSign_3 rfl (fun c => ?_) (fun c => ?_)
  · replace hF := (if_pos c).symm.trans hF
    exact V.sub [] rfl (v_X12_isSign_18 hF)
  · replace hF := (if_neg c).symm.trans hF
    refine V.iload_n 0 dX12_isSign_6 rfl rfl ?_
    refine V.bipush (v := 60) dX12_isSign_7 (by decide) ?_
    refine V.icmp_eq (tgt := 18) dX12_isSign_9 rfl (fun c => ?_) (fun c => ?_)
    · replace hF := (if_pos c).symm.trans hF
      exact V.sub [] rfl (v_X12_isSign_18 hF)
    · replace hF := (if_neg c).symm.trans hF
      refine V.iload_n 0 dX12_isSign_12 rfl rfl ?_
      refine V.bipush (v := 62) dX12_isSign_13 (by decide) ?_
      refine V.icmp_ne (tgt := 22) dX12_isSign_15 rfl (fun c => ?_) (fun c => ?_)
      · replace hF := (if_neg c).symm.trans hF
        refine V.iconst (v := 0) dX12_isSign_22 rfl ?_
        cases hF
        exact V.bret dX12_isSign_23
      · replace hF := (if_pos c).symm.trans hF
        exact V.sub [] rfl (v_X12_isSign_18 hF)
/-! MonsterCotModel.compares -/
theorem dX12_compares_0 : decode cX12_compares 0 = .ok (.iload_n 1, 1) := by decide +kernel
theorem dX12_compares_1 : decode cX12_compares 1 = .ok (.ifCond .eq 7, 3) := by decide +kernel
theorem dX12_compares_4 : decode cX12_compares 4 = .ok (.iload_n 2, 1) := by decide +kernel
theorem dX12_compares_5 : decode cX12_compares 5 = .ok (.goto 7, 3) := by decide +kernel
theorem dX12_compares_8 : decode cX12_compares 8 = .ok (.aload_n 0, 1) := by decide +kernel
theorem dX12_compares_9 : decode cX12_compares 9 = .ok (.invokevirtual 158, 3) := by decide +kernel
theorem dX12_compares_12 : decode cX12_compares 12 = .ok (.istore_n 3, 1) := by decide +kernel
theorem dX12_compares_13 : decode cX12_compares 13 = .ok (.aload_n 0, 1) := by decide +kernel
theorem dX12_compares_14 : decode cX12_compares 14 = .ok (.getfield 125, 3) := by decide +kernel
theorem dX12_compares_17 : decode cX12_compares 17 = .ok (.iconst (-1), 1) := by decide +kernel
theorem dX12_compares_18 : decode cX12_compares 18 = .ok (.if_icmp .eq 5, 3) := by decide +kernel
theorem dX12_compares_21 : decode cX12_compares 21 = .ok (.iconst 0, 1) := by decide +kernel
theorem dX12_compares_22 : decode cX12_compares 22 = .ok (.ireturn, 1) := by decide +kernel
theorem dX12_compares_23 : decode cX12_compares 23 = .ok (.aload_n 0, 1) := by decide +kernel
theorem dX12_compares_24 : decode cX12_compares 24 = .ok (.invokevirtual 135, 3) := by decide +kernel
theorem dX12_compares_27 : decode cX12_compares 27 = .ok (.istore 4, 2) := by decide +kernel
theorem dX12_compares_29 : decode cX12_compares 29 = .ok (.iload 4, 2) := by decide +kernel
theorem dX12_compares_31 : decode cX12_compares 31 = .ok (.invokestatic 178, 3) := by decide +kernel
theorem dX12_compares_34 : decode cX12_compares 34 = .ok (.ifCond .ne 8, 3) := by decide +kernel
theorem dX12_compares_37 : decode cX12_compares 37 = .ok (.aload_n 0, 1) := by decide +kernel
theorem dX12_compares_38 : decode cX12_compares 38 = .ok (.invokevirtual 131, 3) := by decide +kernel
theorem dX12_compares_41 : decode cX12_compares 41 = .ok (.ireturn, 1) := by decide +kernel
theorem dX12_compares_42 : decode cX12_compares 42 = .ok (.aload_n 0, 1) := by decide +kernel
theorem dX12_compares_43 : decode cX12_compares 43 = .ok (.dup, 1) := by decide +kernel
theorem dX12_compares_44 : decode cX12_compares 44 = .ok (.getfield 116, 3) := by decide +kernel
theorem dX12_compares_47 : decode cX12_compares 47 = .ok (.iconst 1, 1) := by decide +kernel
theorem dX12_compares_48 : decode cX12_compares 48 = .ok (.iadd, 1) := by decide +kernel
theorem dX12_compares_49 : decode cX12_compares 49 = .ok (.putfield 116, 3) := by decide +kernel
theorem dX12_compares_52 : decode cX12_compares 52 = .ok (.aload_n 0, 1) := by decide +kernel
theorem dX12_compares_53 : decode cX12_compares 53 = .ok (.invokevirtual 158, 3) := by decide +kernel
theorem dX12_compares_56 : decode cX12_compares 56 = .ok (.istore 5, 2) := by decide +kernel
theorem dX12_compares_58 : decode cX12_compares 58 = .ok (.iload 4, 2) := by decide +kernel
theorem dX12_compares_60 : decode cX12_compares 60 = .ok (.bipush 61, 2) := by decide +kernel
theorem dX12_compares_62 : decode cX12_compares 62 = .ok (.if_icmp .ne 17, 3) := by decide +kernel
theorem dX12_compares_65 : decode cX12_compares 65 = .ok (.iload_n 3, 1) := by decide +kernel
theorem dX12_compares_66 : decode cX12_compares 66 = .ok (.iload 5, 2) := by decide +kernel
theorem dX12_compares_68 : decode cX12_compares 68 = .ok (.if_icmp .ne 7, 3) := by decide +kernel
theorem dX12_compares_71 : decode cX12_compares 71 = .ok (.iconst 1, 1) := by decide +kernel
theorem dX12_compares_72 : decode cX12_compares 72 = .ok (.goto 39, 3) := by decide +kernel
theorem dX12_compares_75 : decode cX12_compares 75 = .ok (.iconst 0, 1) := by decide +kernel
theorem dX12_compares_76 : decode cX12_compares 76 = .ok (.goto 35, 3) := by decide +kernel
theorem dX12_compares_79 : decode cX12_compares 79 = .ok (.iload 4, 2) := by decide +kernel
theorem dX12_compares_81 : decode cX12_compares 81 = .ok (.bipush 60, 2) := by decide +kernel
theorem dX12_compares_83 : decode cX12_compares 83 = .ok (.if_icmp .ne 17, 3) := by decide +kernel
theorem dX12_compares_86 : decode cX12_compares 86 = .ok (.iload_n 3, 1) := by decide +kernel
theorem dX12_compares_87 : decode cX12_compares 87 = .ok (.iload 5, 2) := by decide +kernel
theorem dX12_compares_89 : decode cX12_compares 89 = .ok (.if_icmp .ge 7, 3) := by decide +kernel
theorem dX12_compares_92 : decode cX12_compares 92 = .ok (.iconst 1, 1) := by decide +kernel
theorem dX12_compares_93 : decode cX12_compares 93 = .ok (.goto 18, 3) := by decide +kernel
theorem dX12_compares_96 : decode cX12_compares 96 = .ok (.iconst 0, 1) := by decide +kernel
theorem dX12_compares_97 : decode cX12_compares 97 = .ok (.goto 14, 3) := by decide +kernel
theorem dX12_compares_100 : decode cX12_compares 100 = .ok (.iload_n 3, 1) := by decide +kernel
theorem dX12_compares_101 : decode cX12_compares 101 = .ok (.iload 5, 2) := by decide +kernel
theorem dX12_compares_103 : decode cX12_compares 103 = .ok (.if_icmp .le 7, 3) := by decide +kernel
theorem dX12_compares_106 : decode cX12_compares 106 = .ok (.iconst 1, 1) := by decide +kernel
theorem dX12_compares_107 : decode cX12_compares 107 = .ok (.goto 4, 3) := by decide +kernel
theorem dX12_compares_110 : decode cX12_compares 110 = .ok (.iconst 0, 1) := by decide +kernel
theorem dX12_compares_111 : decode cX12_compares 111 = .ok (.ireturn, 1) := by decide +kernel
def X12_compares_12 (n : Nat) (s0 : Int32) (h : Mm) : Option (Bool × Mm) := (if (h.1 251 11) = (-1) then (bd (X12_look n h) (fun r29 h31 => (bp (X12_isSign r29 h31) (fun r32 => (if r32 = true then (bd (X12_sum n (X12_atom n 9) (wI h31 251 10 ((h31.1 251 10) + (1)))) (fun r34 h36 => (if r29 = (61) then (if s0 = r34 then (some (true, h36)) else (some (false, h36))) else (if r29 = (60) then (if r34 ≤ s0 then (some (false, h36)) else (some (true, h36))) else (if s0 ≤ r34 then (some (false, h36)) else (some (true, h36))))))) else (bd (X12_fails h31) (fun r37 h39 => (some (r37, h39))))))))) else (some (false, h)))
set_option maxRecDepth 100000 in
set_option maxHeartbeats 4000000 in
theorem v_X12_compares_12 {X : WX} {G : GX} {o : Mm} {n : Nat} {rv : Bool} {hz : Mm} {s0 : Int32} {h : Mm} (hF : X12_compares_12 n s0 h = some (rv, hz)) : V X G RX12 cX12_compares 6 (some .boolean) 46 0 0 (QR X G false o (some (.int (b2i rv))) hz) false o 12 [(0, .ref (xa X 251))] [.int s0] h := by
  unfold X12_compares_12 at hF
  refine V.istore_n [(3, _), (0, _)] dX12_compares_12 rfl (by decide) rfl ?_
  refine V.aload_n 1 dX12_compares_13 rfl rfl ?_
  refine V.getI fl_X12_125 sh_251 rfl km_251 dX12_compares_14 ?_
  refine V.iconst (v := -1) dX12_compares_17 rfl ?_
  refine V.icmp_eq (tgt := 23) dX12_compares_18 rfl (fun c => ?_) (fun c => ?_)
  · replace hF := (if_pos c).symm.trans hF
    refine V.aload_n 1 dX12_compares_23 rfl rfl ?_
    obtain ⟨r29, h31, hc30, hF⟩ := bd_s hF
    refine V.callVi mf_X12_look ml_X12_135 sh_251 (s_X12_look hc30) (by decide) rfl rfl (Nat.le_of_ble_eq_true rfl) dX12_compares_24 ?_
    refine V.istore [(4, _), (3, _), (0, _)] dX12_compares_27 (by decide) rfl ?_
    refine V.iload 0 dX12_compares_29 rfl ?_
    obtain ⟨r32, hc33, hF⟩ := bp_s hF
    refine V.callSi mf_X12_isSign ml_X12_178 (s_X12_isSign hc33) (by decide) rfl rfl (Nat.le_of_ble_eq_true rfl) dX12_compares_31 ?_
    refine V.ifz_ne (tgt := 42) dX12_compares_34 rfl (fun c => ?_) (fun c => ?_)
    · replace hF := (if_pos c).symm.trans hF
      refine V.aload_n 2 dX12_compares_42 rfl rfl ?_
      refine V.dup dX12_compares_43 rfl ?_
      refine V.getI fl_X12_116 sh_251 rfl km_251 dX12_compares_44 ?_
      refine V.iconst (v := 1) dX12_compares_47 rfl ?_
      refine V.iadd dX12_compares_48 ?_
      refine V.putI fl_X12_116 rfl (tyX12_ok 10 (by decide)) rfl rfl sh_251 rfl km_251 dX12_compares_49 ?_
      refine V.aload_n 2 dX12_compares_52 rfl rfl ?_
      obtain ⟨r34, h36, hc35, hF⟩ := bd_s hF
      refine V.callVi mf_X12_sum ml_X12_158 sh_251 (s_X12_sum (dr := 43) (by decide) (s_X12_atom 9) hc35) (by decide) rfl rfl (Nat.le_of_ble_eq_true rfl) dX12_compares_53 ?_
      refine V.istore [(5, _), (4, _), (3, _), (0, _)] dX12_compares_56 (by decide) rfl ?_
      refine V.iload 1 dX12_compares_58 rfl ?_
      refine V.bipush (v := 61) dX12_compares_60 (by decide) ?_
      refine V.icmp_ne (tgt := 79) dX12_compares_62 rfl (fun c => ?_) (fun c => ?_)
      · replace hF := (if_neg c).symm.trans hF
        refine V.iload 1 dX12_compares_79 rfl ?_
        refine V.bipush (v := 60) dX12_compares_81 (by decide) ?_
        refine V.icmp_ne (tgt := 100) dX12_compares_83 rfl (fun c => ?_) (fun c => ?_)
        · replace hF := (if_neg c).symm.trans hF
          refine V.iload_n 2 dX12_compares_100 rfl rfl ?_
          refine V.iload 0 dX12_compares_101 rfl ?_
          refine V.icmp_le (tgt := 110) dX12_compares_103 rfl (fun c => ?_) (fun c => ?_)
          · replace hF := (if_pos c).symm.trans hF
            refine V.iconst (v := 0) dX12_compares_110 rfl ?_
            cases hF
            exact V.bret dX12_compares_111
          · replace hF := (if_neg c).symm.trans hF
            refine V.iconst (v := 1) dX12_compares_106 rfl ?_
            refine V.goto (tgt := 111) dX12_compares_107 rfl ?_
            cases hF
            exact V.bret dX12_compares_111
        · replace hF := (if_pos c).symm.trans hF
          refine V.iload_n 2 dX12_compares_86 rfl rfl ?_
          refine V.iload 0 dX12_compares_87 rfl ?_
          refine V.icmp_ge (tgt := 96) dX12_compares_89 rfl (fun c => ?_) (fun c => ?_)
          · replace hF := (if_pos c).symm.trans hF
            refine V.iconst (v := 0) dX12_compares_96 rfl ?_
            refine V.goto (tgt := 111) dX12_compares_97 rfl ?_
            cases hF
            exact V.bret dX12_compares_111
          · replace hF := (if_neg c).symm.trans hF
            refine V.iconst (v := 1) dX12_compares_92 rfl ?_
            refine V.goto (tgt := 111) dX12_compares_93 rfl ?_
            cases hF
            exact V.bret dX12_compares_111
      · replace hF := (if_pos c).symm.trans hF
        refine V.iload_n 2 dX12_compares_65 rfl rfl ?_
        refine V.iload 0 dX12_compares_66 rfl ?_
        refine V.icmp_ne (tgt := 75) dX12_compares_68 rfl (fun c => ?_) (fun c => ?_)
        · replace hF := (if_neg c).symm.trans hF
          refine V.iconst (v := 0) dX12_compares_75 rfl ?_
          refine V.goto (tgt := 111) dX12_compares_76 rfl ?_
          cases hF
          exact V.bret dX12_compares_111
        · replace hF := (if_pos c).symm.trans hF
          refine V.iconst (v := 1) dX12_compares_71 rfl ?_
          refine V.goto (tgt := 111) dX12_compares_72 rfl ?_
          cases hF
          exact V.bret dX12_compares_111
    · replace hF := (if_neg c).symm.trans hF
      refine V.aload_n 2 dX12_compares_37 rfl rfl ?_
      obtain ⟨r37, h39, hc38, hF⟩ := bd_s hF
      refine V.callVi mf_X12_fails ml_X12_131 sh_251 (s_X12_fails hc38) (by decide) rfl rfl (Nat.le_of_ble_eq_true rfl) dX12_compares_38 ?_
      cases hF
      exact V.bret dX12_compares_41
  · replace hF := (if_neg c).symm.trans hF
    refine V.iconst (v := 0) dX12_compares_21 rfl ?_
    cases hF
    exact V.bret dX12_compares_22
def X12_compares (n : Nat) (x1 : Bool) (x2 : Int32) (h : Mm) : Option (Bool × Mm) := (if x1 = true then (X12_compares_12 n x2 h) else (bd (X12_sum n (X12_atom n 9) h) (fun r40 h42 => (X12_compares_12 n r40 h42))))
set_option maxRecDepth 100000 in
set_option maxHeartbeats 4000000 in
theorem s_X12_compares {X : WX} {o : Mm} {n : Nat} {x1 : Bool} {x2 : Int32} {rv : Bool} {hz : Mm} {h : Mm} (hF : X12_compares n x1 x2 h = some (rv, hz)) : Sat X yX12_compares cX12_compares 6 (some .boolean) 46 [.ref (xa X 251), .int (b2i x1), .int x2] false o h (some (.int (b2i rv))) hz := by
  unfold X12_compares at hF
  refine Sat.mk (own := RX12) rfl (by decide +kernel) (Nat.le_of_ble_eq_true rfl) (fun G => ?_)
  refine V.sub (lv2 := [(0, _), (1, _), (2, _)]) [0, 1, 2] rfl ?_
  refine V.iload_n 1 dX12_compares_0 rfl rfl ?_
  refine V.ifz_eq (tgt := 8) dX12_compares_1 rfl (fun c => ?_) (fun c => ?_)
  · replace hF := (if_neg c).symm.trans hF
    refine V.aload_n 0 dX12_compares_8 rfl rfl ?_
    obtain ⟨r40, h42, hc41, hF⟩ := bd_s hF
    refine V.callVi mf_X12_sum ml_X12_158 sh_251 (s_X12_sum (dr := 43) (by decide) (s_X12_atom 9) hc41) (by decide) rfl rfl (Nat.le_of_ble_eq_true rfl) dX12_compares_9 ?_
    exact V.sub [0] rfl (v_X12_compares_12 hF)
  · replace hF := (if_pos c).symm.trans hF
    refine V.iload_n 2 dX12_compares_4 rfl rfl ?_
    refine V.goto (tgt := 12) dX12_compares_5 rfl ?_
    exact V.sub [0] rfl (v_X12_compares_12 hF)
/-! MonsterCotModel.part -/
theorem dX12_part_0 : decode cX12_part 0 = .ok (.iload_n 1, 1) := by decide +kernel
theorem dX12_part_1 : decode cX12_part 1 = .ok (.ifCond .eq 12, 3) := by decide +kernel
theorem dX12_part_4 : decode cX12_part 4 = .ok (.aload_n 0, 1) := by decide +kernel
theorem dX12_part_5 : decode cX12_part 5 = .ok (.iconst 1, 1) := by decide +kernel
theorem dX12_part_6 : decode cX12_part 6 = .ok (.iload_n 2, 1) := by decide +kernel
theorem dX12_part_7 : decode cX12_part 7 = .ok (.invokevirtual 188, 3) := by decide +kernel
theorem dX12_part_10 : decode cX12_part 10 = .ok (.goto 7, 3) := by decide +kernel
theorem dX12_part_13 : decode cX12_part 13 = .ok (.aload_n 0, 1) := by decide +kernel
theorem dX12_part_14 : decode cX12_part 14 = .ok (.invokevirtual 181, 3) := by decide +kernel
theorem dX12_part_17 : decode cX12_part 17 = .ok (.istore_n 3, 1) := by decide +kernel
theorem dX12_part_18 : decode cX12_part 18 = .ok (.aload_n 0, 1) := by decide +kernel
theorem dX12_part_19 : decode cX12_part 19 = .ok (.getfield 125, 3) := by decide +kernel
theorem dX12_part_22 : decode cX12_part 22 = .ok (.iconst (-1), 1) := by decide +kernel
theorem dX12_part_23 : decode cX12_part 23 = .ok (.if_icmp .ne 46, 3) := by decide +kernel
theorem dX12_part_26 : decode cX12_part 26 = .ok (.aload_n 0, 1) := by decide +kernel
theorem dX12_part_27 : decode cX12_part 27 = .ok (.invokevirtual 135, 3) := by decide +kernel
theorem dX12_part_30 : decode cX12_part 30 = .ok (.bipush 38, 2) := by decide +kernel
theorem dX12_part_32 : decode cX12_part 32 = .ok (.if_icmp .ne 37, 3) := by decide +kernel
theorem dX12_part_35 : decode cX12_part 35 = .ok (.aload_n 0, 1) := by decide +kernel
theorem dX12_part_36 : decode cX12_part 36 = .ok (.dup, 1) := by decide +kernel
theorem dX12_part_37 : decode cX12_part 37 = .ok (.getfield 116, 3) := by decide +kernel
theorem dX12_part_40 : decode cX12_part 40 = .ok (.iconst 1, 1) := by decide +kernel
theorem dX12_part_41 : decode cX12_part 41 = .ok (.iadd, 1) := by decide +kernel
theorem dX12_part_42 : decode cX12_part 42 = .ok (.putfield 116, 3) := by decide +kernel
theorem dX12_part_45 : decode cX12_part 45 = .ok (.aload_n 0, 1) := by decide +kernel
theorem dX12_part_46 : decode cX12_part 46 = .ok (.invokevirtual 181, 3) := by decide +kernel
theorem dX12_part_49 : decode cX12_part 49 = .ok (.istore 4, 2) := by decide +kernel
theorem dX12_part_51 : decode cX12_part 51 = .ok (.iload_n 3, 1) := by decide +kernel
theorem dX12_part_52 : decode cX12_part 52 = .ok (.ifCond .eq 12, 3) := by decide +kernel
theorem dX12_part_55 : decode cX12_part 55 = .ok (.iload 4, 2) := by decide +kernel
theorem dX12_part_57 : decode cX12_part 57 = .ok (.ifCond .eq 7, 3) := by decide +kernel
theorem dX12_part_60 : decode cX12_part 60 = .ok (.iconst 1, 1) := by decide +kernel
theorem dX12_part_61 : decode cX12_part 61 = .ok (.goto 4, 3) := by decide +kernel
theorem dX12_part_64 : decode cX12_part 64 = .ok (.iconst 0, 1) := by decide +kernel
theorem dX12_part_65 : decode cX12_part 65 = .ok (.istore_n 3, 1) := by decide +kernel
theorem dX12_part_66 : decode cX12_part 66 = .ok (.goto (-48), 3) := by decide +kernel
theorem dX12_part_69 : decode cX12_part 69 = .ok (.iload_n 3, 1) := by decide +kernel
theorem dX12_part_70 : decode cX12_part 70 = .ok (.ireturn, 1) := by decide +kernel
def X12_part_65 (n : Nat) (rf : Mm → Option (Bool × Mm)) (K18 : Bool → Mm → Option (Bool × Mm)) (s0 : Bool) (h : Mm) : Option (Bool × Mm) := (K18 s0 h)
set_option maxRecDepth 100000 in
set_option maxHeartbeats 4000000 in
theorem v_X12_part_65 {X : WX} {G : GX} {o : Mm} {n : Nat} {rf : Mm → Option (Bool × Mm)} {dr : Nat} (hdr : 48 ≤ dr) (hrf : ∀   (h : Mm) (r : Bool) (h2 : Mm), rf  h = some (r, h2) → Sat X yX12_unit cX12_unit 3 (some .boolean) dr [.ref (xa X 251)] false o h (some (.int (b2i r))) h2) {K18 : Bool → Mm → Option (Bool × Mm)} {rv : Bool} {hz : Mm} (hK18 : ∀ (x3 : Bool) (h : Mm), K18 x3 h = some (rv, hz) → V X G RX12 cX12_part 5 (some .boolean) (dr + 1) 0 0 (QR X G false o (some (.int (b2i rv))) hz) false o 18 [(0, .ref (xa X 251)), (3, .int (b2i x3))] [] h) {s0 : Bool} {h : Mm} (hF : X12_part_65 n rf K18 s0 h = some (rv, hz)) : V X G RX12 cX12_part 5 (some .boolean) (dr + 1) 0 0 (QR X G false o (some (.int (b2i rv))) hz) false o 65 [(0, .ref (xa X 251))] [.int (b2i s0)] h := by
  unfold X12_part_65 at hF
  refine V.istore_n [(3, _), (0, _)] dX12_part_65 rfl (by decide) rfl ?_
  refine V.goto (tgt := 18) dX12_part_66 rfl ?_
  exact V.sub [1, 0] rfl (hK18 _ _ hF)
def X12_part_64 (n : Nat) (rf : Mm → Option (Bool × Mm)) (K18 : Bool → Mm → Option (Bool × Mm)) (h : Mm) : Option (Bool × Mm) := (X12_part_65 n rf K18 false h)
set_option maxRecDepth 100000 in
set_option maxHeartbeats 4000000 in
theorem v_X12_part_64 {X : WX} {G : GX} {o : Mm} {n : Nat} {rf : Mm → Option (Bool × Mm)} {dr : Nat} (hdr : 48 ≤ dr) (hrf : ∀   (h : Mm) (r : Bool) (h2 : Mm), rf  h = some (r, h2) → Sat X yX12_unit cX12_unit 3 (some .boolean) dr [.ref (xa X 251)] false o h (some (.int (b2i r))) h2) {K18 : Bool → Mm → Option (Bool × Mm)} {rv : Bool} {hz : Mm} (hK18 : ∀ (x3 : Bool) (h : Mm), K18 x3 h = some (rv, hz) → V X G RX12 cX12_part 5 (some .boolean) (dr + 1) 0 0 (QR X G false o (some (.int (b2i rv))) hz) false o 18 [(0, .ref (xa X 251)), (3, .int (b2i x3))] [] h) {h : Mm} (hF : X12_part_64 n rf K18 h = some (rv, hz)) : V X G RX12 cX12_part 5 (some .boolean) (dr + 1) 0 0 (QR X G false o (some (.int (b2i rv))) hz) false o 64 [(0, .ref (xa X 251))] [] h := by
  unfold X12_part_64 at hF
  refine V.iconst (v := 0) dX12_part_64 rfl ?_
  exact (v_X12_part_65 hdr hrf hK18 hF)
def X12_part_69 (n : Nat) (rf : Mm → Option (Bool × Mm)) (x3 : Bool) (h : Mm) : Option (Bool × Mm) := (some (x3, h))
set_option maxRecDepth 100000 in
set_option maxHeartbeats 4000000 in
theorem v_X12_part_69 {X : WX} {G : GX} {o : Mm} {n : Nat} {rf : Mm → Option (Bool × Mm)} {dr : Nat} (hdr : 48 ≤ dr) (hrf : ∀   (h : Mm) (r : Bool) (h2 : Mm), rf  h = some (r, h2) → Sat X yX12_unit cX12_unit 3 (some .boolean) dr [.ref (xa X 251)] false o h (some (.int (b2i r))) h2) {rv : Bool} {hz : Mm} {x3 : Bool} {h : Mm} (hF : X12_part_69 n rf x3 h = some (rv, hz)) : V X G RX12 cX12_part 5 (some .boolean) (dr + 1) 0 0 (QR X G false o (some (.int (b2i rv))) hz) false o 69 [(3, .int (b2i x3))] [] h := by
  unfold X12_part_69 at hF
  refine V.iload_n 0 dX12_part_69 rfl rfl ?_
  cases hF
  exact V.bret dX12_part_70
def X12_part_18 (n : Nat) (rf : Mm → Option (Bool × Mm)) : Nat → Bool → Mm → Option (Bool × Mm)
  | 0, _, _ => none
  | f + 1, x3, h => (if (h.1 251 11) = (-1) then (bd (X12_look n h) (fun r31 h33 => (if r31 = (38) then (bd (rf (wI h33 251 10 ((h33.1 251 10) + (1)))) (fun r34 h36 => (if x3 = true then (if r34 = true then (X12_part_65 n rf (X12_part_18 n rf f) true h36) else (X12_part_64 n rf (X12_part_18 n rf f) h36)) else (X12_part_64 n rf (X12_part_18 n rf f) h36)))) else (X12_part_69 n rf x3 h33)))) else (X12_part_69 n rf x3 h))
set_option maxRecDepth 100000 in
set_option maxHeartbeats 4000000 in
theorem v_X12_part_18 {X : WX} {G : GX} {o : Mm} {n : Nat} {rf : Mm → Option (Bool × Mm)} {dr : Nat} (hdr : 48 ≤ dr) (hrf : ∀   (h : Mm) (r : Bool) (h2 : Mm), rf  h = some (r, h2) → Sat X yX12_unit cX12_unit 3 (some .boolean) dr [.ref (xa X 251)] false o h (some (.int (b2i r))) h2) {rv : Bool} {hz : Mm} : ∀ (f : Nat) (x3 : Bool) (h : Mm), X12_part_18 n rf f x3 h = some (rv, hz) → V X G RX12 cX12_part 5 (some .boolean) (dr + 1) 0 0 (QR X G false o (some (.int (b2i rv))) hz) false o 18 [(0, .ref (xa X 251)), (3, .int (b2i x3))] [] h := by
  intro f
  induction f with
  | zero => intro x3 h hF; exact nomatch (show (none : Option (Bool × Mm)) = some (rv, hz) from hF)
  | succ f ih =>
    intro x3 h hF
    unfold X12_part_18 at hF
    refine V.aload_n 0 dX12_part_18 rfl rfl ?_
    refine V.getI fl_X12_125 sh_251 rfl km_251 dX12_part_19 ?_
    refine V.iconst (v := -1) dX12_part_22 rfl ?_
    refine V.icmp_ne (tgt := 69) dX12_part_23 rfl (fun c => ?_) (fun c => ?_)
    · replace hF := (if_neg c).symm.trans hF
      exact V.sub [1] rfl (v_X12_part_69 hdr hrf hF)
    · replace hF := (if_pos c).symm.trans hF
      refine V.aload_n 0 dX12_part_26 rfl rfl ?_
      obtain ⟨r31, h33, hc32, hF⟩ := bd_s hF
      refine V.callVi mf_X12_look ml_X12_135 sh_251 (s_X12_look hc32) (by omega) rfl rfl (Nat.le_of_ble_eq_true rfl) dX12_part_27 ?_
      refine V.bipush (v := 38) dX12_part_30 (by decide) ?_
      refine V.icmp_ne (tgt := 69) dX12_part_32 rfl (fun c => ?_) (fun c => ?_)
      · replace hF := (if_neg c).symm.trans hF
        exact V.sub [1] rfl (v_X12_part_69 hdr hrf hF)
      · replace hF := (if_pos c).symm.trans hF
        refine V.aload_n 0 dX12_part_35 rfl rfl ?_
        refine V.dup dX12_part_36 rfl ?_
        refine V.getI fl_X12_116 sh_251 rfl km_251 dX12_part_37 ?_
        refine V.iconst (v := 1) dX12_part_40 rfl ?_
        refine V.iadd dX12_part_41 ?_
        refine V.putI fl_X12_116 rfl (tyX12_ok 10 (by decide)) rfl rfl sh_251 rfl km_251 dX12_part_42 ?_
        refine V.aload_n 0 dX12_part_45 rfl rfl ?_
        obtain ⟨r34, h36, hc35, hF⟩ := bd_s hF
        refine V.callVi mf_X12_unit ml_X12_181 sh_251 (hrf _ _ _ hc35) (by omega) rfl rfl (Nat.le_of_ble_eq_true rfl) dX12_part_46 ?_
        refine V.istore [(4, _), (0, _), (3, _)] dX12_part_49 (by decide) rfl ?_
        refine V.iload_n 2 dX12_part_51 rfl rfl ?_
        refine V.ifz_eq (tgt := 64) dX12_part_52 rfl (fun c => ?_) (fun c => ?_)
        · replace hF := (if_neg c).symm.trans hF
          exact V.sub [1] rfl (v_X12_part_64 hdr hrf ih hF)
        · replace hF := (if_pos c).symm.trans hF
          refine V.iload 0 dX12_part_55 rfl ?_
          refine V.ifz_eq (tgt := 64) dX12_part_57 rfl (fun c => ?_) (fun c => ?_)
          · replace hF := (if_neg c).symm.trans hF
            exact V.sub [1] rfl (v_X12_part_64 hdr hrf ih hF)
          · replace hF := (if_pos c).symm.trans hF
            refine V.iconst (v := 1) dX12_part_60 rfl ?_
            refine V.goto (tgt := 65) dX12_part_61 rfl ?_
            exact V.sub [1] rfl (v_X12_part_65 hdr hrf ih hF)
def X12_part_17 (n : Nat) (rf : Mm → Option (Bool × Mm)) (s0 : Bool) (h : Mm) : Option (Bool × Mm) := (X12_part_18 n rf n s0 h)
set_option maxRecDepth 100000 in
set_option maxHeartbeats 4000000 in
theorem v_X12_part_17 {X : WX} {G : GX} {o : Mm} {n : Nat} {rf : Mm → Option (Bool × Mm)} {dr : Nat} (hdr : 48 ≤ dr) (hrf : ∀   (h : Mm) (r : Bool) (h2 : Mm), rf  h = some (r, h2) → Sat X yX12_unit cX12_unit 3 (some .boolean) dr [.ref (xa X 251)] false o h (some (.int (b2i r))) h2) {rv : Bool} {hz : Mm} {s0 : Bool} {h : Mm} (hF : X12_part_17 n rf s0 h = some (rv, hz)) : V X G RX12 cX12_part 5 (some .boolean) (dr + 1) 0 0 (QR X G false o (some (.int (b2i rv))) hz) false o 17 [(0, .ref (xa X 251))] [.int (b2i s0)] h := by
  unfold X12_part_17 at hF
  refine V.istore_n [(3, _), (0, _)] dX12_part_17 rfl (by decide) rfl ?_
  exact V.sub [1, 0] rfl (v_X12_part_18 hdr hrf n _ _ hF)
def X12_part (n : Nat) (rf : Mm → Option (Bool × Mm)) (x1 : Bool) (x2 : Int32) (h : Mm) : Option (Bool × Mm) := (if x1 = true then (bd (X12_compares n true x2 h) (fun r40 h42 => (X12_part_17 n rf r40 h42))) else (bd (rf h) (fun r37 h39 => (X12_part_17 n rf r37 h39))))
set_option maxRecDepth 100000 in
set_option maxHeartbeats 4000000 in
theorem s_X12_part {X : WX} {o : Mm} {n : Nat} {rf : Mm → Option (Bool × Mm)} {dr : Nat} (hdr : 48 ≤ dr) (hrf : ∀   (h : Mm) (r : Bool) (h2 : Mm), rf  h = some (r, h2) → Sat X yX12_unit cX12_unit 3 (some .boolean) dr [.ref (xa X 251)] false o h (some (.int (b2i r))) h2) {x1 : Bool} {x2 : Int32} {rv : Bool} {hz : Mm} {h : Mm} (hF : X12_part n rf x1 x2 h = some (rv, hz)) : Sat X yX12_part cX12_part 5 (some .boolean) (dr + 1) [.ref (xa X 251), .int (b2i x1), .int x2] false o h (some (.int (b2i rv))) hz := by
  unfold X12_part at hF
  refine Sat.mk (own := RX12) rfl (by decide +kernel) (Nat.le_of_ble_eq_true rfl) (fun G => ?_)
  refine V.sub (lv2 := [(0, _), (1, _), (2, _)]) [0, 1, 2] rfl ?_
  refine V.iload_n 1 dX12_part_0 rfl rfl ?_
  refine V.ifz_eq (tgt := 13) dX12_part_1 rfl (fun c => ?_) (fun c => ?_)
  · replace hF := (if_neg c).symm.trans hF
    refine V.aload_n 0 dX12_part_13 rfl rfl ?_
    obtain ⟨r37, h39, hc38, hF⟩ := bd_s hF
    refine V.callVi mf_X12_unit ml_X12_181 sh_251 (hrf _ _ _ hc38) (by omega) rfl rfl (Nat.le_of_ble_eq_true rfl) dX12_part_14 ?_
    exact V.sub [0] rfl (v_X12_part_17 hdr hrf hF)
  · replace hF := (if_pos c).symm.trans hF
    refine V.aload_n 0 dX12_part_4 rfl rfl ?_
    refine V.iconst (v := 1) dX12_part_5 rfl ?_
    refine V.iload_n 2 dX12_part_6 rfl rfl ?_
    obtain ⟨r40, h42, hc41, hF⟩ := bd_s hF
    refine V.callVi mf_X12_compares ml_X12_188 sh_251 (s_X12_compares hc41) (by omega) rfl rfl (Nat.le_of_ble_eq_true rfl) dX12_part_7 ?_
    refine V.goto (tgt := 17) dX12_part_10 rfl ?_
    exact V.sub [0] rfl (v_X12_part_17 hdr hrf hF)
/-! MonsterCotModel.condition -/
theorem dX12_condition_0 : decode cX12_condition 0 = .ok (.aload_n 0, 1) := by decide +kernel
theorem dX12_condition_1 : decode cX12_condition 1 = .ok (.iload_n 1, 1) := by decide +kernel
theorem dX12_condition_2 : decode cX12_condition 2 = .ok (.iload_n 2, 1) := by decide +kernel
theorem dX12_condition_3 : decode cX12_condition 3 = .ok (.invokevirtual 191, 3) := by decide +kernel
theorem dX12_condition_6 : decode cX12_condition 6 = .ok (.istore_n 3, 1) := by decide +kernel
theorem dX12_condition_7 : decode cX12_condition 7 = .ok (.aload_n 0, 1) := by decide +kernel
theorem dX12_condition_8 : decode cX12_condition 8 = .ok (.getfield 125, 3) := by decide +kernel
theorem dX12_condition_11 : decode cX12_condition 11 = .ok (.iconst (-1), 1) := by decide +kernel
theorem dX12_condition_12 : decode cX12_condition 12 = .ok (.if_icmp .ne 48, 3) := by decide +kernel
theorem dX12_condition_15 : decode cX12_condition 15 = .ok (.aload_n 0, 1) := by decide +kernel
theorem dX12_condition_16 : decode cX12_condition 16 = .ok (.invokevirtual 135, 3) := by decide +kernel
theorem dX12_condition_19 : decode cX12_condition 19 = .ok (.bipush 124, 2) := by decide +kernel
theorem dX12_condition_21 : decode cX12_condition 21 = .ok (.if_icmp .ne 39, 3) := by decide +kernel
theorem dX12_condition_24 : decode cX12_condition 24 = .ok (.aload_n 0, 1) := by decide +kernel
theorem dX12_condition_25 : decode cX12_condition 25 = .ok (.dup, 1) := by decide +kernel
theorem dX12_condition_26 : decode cX12_condition 26 = .ok (.getfield 116, 3) := by decide +kernel
theorem dX12_condition_29 : decode cX12_condition 29 = .ok (.iconst 1, 1) := by decide +kernel
theorem dX12_condition_30 : decode cX12_condition 30 = .ok (.iadd, 1) := by decide +kernel
theorem dX12_condition_31 : decode cX12_condition 31 = .ok (.putfield 116, 3) := by decide +kernel
theorem dX12_condition_34 : decode cX12_condition 34 = .ok (.aload_n 0, 1) := by decide +kernel
theorem dX12_condition_35 : decode cX12_condition 35 = .ok (.iconst 0, 1) := by decide +kernel
theorem dX12_condition_36 : decode cX12_condition 36 = .ok (.iconst 0, 1) := by decide +kernel
theorem dX12_condition_37 : decode cX12_condition 37 = .ok (.invokevirtual 191, 3) := by decide +kernel
theorem dX12_condition_40 : decode cX12_condition 40 = .ok (.istore 4, 2) := by decide +kernel
theorem dX12_condition_42 : decode cX12_condition 42 = .ok (.iload_n 3, 1) := by decide +kernel
theorem dX12_condition_43 : decode cX12_condition 43 = .ok (.ifCond .ne 8, 3) := by decide +kernel
theorem dX12_condition_46 : decode cX12_condition 46 = .ok (.iload 4, 2) := by decide +kernel
theorem dX12_condition_48 : decode cX12_condition 48 = .ok (.ifCond .eq 7, 3) := by decide +kernel
theorem dX12_condition_51 : decode cX12_condition 51 = .ok (.iconst 1, 1) := by decide +kernel
theorem dX12_condition_52 : decode cX12_condition 52 = .ok (.goto 4, 3) := by decide +kernel
theorem dX12_condition_55 : decode cX12_condition 55 = .ok (.iconst 0, 1) := by decide +kernel
theorem dX12_condition_56 : decode cX12_condition 56 = .ok (.istore_n 3, 1) := by decide +kernel
theorem dX12_condition_57 : decode cX12_condition 57 = .ok (.goto (-50), 3) := by decide +kernel
theorem dX12_condition_60 : decode cX12_condition 60 = .ok (.iload_n 3, 1) := by decide +kernel
theorem dX12_condition_61 : decode cX12_condition 61 = .ok (.ireturn, 1) := by decide +kernel
def X12_condition_56 (n : Nat) (rf : Mm → Option (Bool × Mm)) (K7 : Bool → Mm → Option (Bool × Mm)) (s0 : Bool) (h : Mm) : Option (Bool × Mm) := (K7 s0 h)
set_option maxRecDepth 100000 in
set_option maxHeartbeats 4000000 in
theorem v_X12_condition_56 {X : WX} {G : GX} {o : Mm} {n : Nat} {rf : Mm → Option (Bool × Mm)} {dr : Nat} (hdr : 48 ≤ dr) (hrf : ∀   (h : Mm) (r : Bool) (h2 : Mm), rf  h = some (r, h2) → Sat X yX12_unit cX12_unit 3 (some .boolean) dr [.ref (xa X 251)] false o h (some (.int (b2i r))) h2) {K7 : Bool → Mm → Option (Bool × Mm)} {rv : Bool} {hz : Mm} (hK7 : ∀ (x3 : Bool) (h : Mm), K7 x3 h = some (rv, hz) → V X G RX12 cX12_condition 5 (some .boolean) (dr + 2) 0 0 (QR X G false o (some (.int (b2i rv))) hz) false o 7 [(0, .ref (xa X 251)), (3, .int (b2i x3))] [] h) {s0 : Bool} {h : Mm} (hF : X12_condition_56 n rf K7 s0 h = some (rv, hz)) : V X G RX12 cX12_condition 5 (some .boolean) (dr + 2) 0 0 (QR X G false o (some (.int (b2i rv))) hz) false o 56 [(0, .ref (xa X 251))] [.int (b2i s0)] h := by
  unfold X12_condition_56 at hF
  refine V.istore_n [(3, _), (0, _)] dX12_condition_56 rfl (by decide) rfl ?_
  refine V.goto (tgt := 7) dX12_condition_57 rfl ?_
  exact V.sub [1, 0] rfl (hK7 _ _ hF)
def X12_condition_51 (n : Nat) (rf : Mm → Option (Bool × Mm)) (K7 : Bool → Mm → Option (Bool × Mm)) (h : Mm) : Option (Bool × Mm) := (X12_condition_56 n rf K7 true h)
set_option maxRecDepth 100000 in
set_option maxHeartbeats 4000000 in
theorem v_X12_condition_51 {X : WX} {G : GX} {o : Mm} {n : Nat} {rf : Mm → Option (Bool × Mm)} {dr : Nat} (hdr : 48 ≤ dr) (hrf : ∀   (h : Mm) (r : Bool) (h2 : Mm), rf  h = some (r, h2) → Sat X yX12_unit cX12_unit 3 (some .boolean) dr [.ref (xa X 251)] false o h (some (.int (b2i r))) h2) {K7 : Bool → Mm → Option (Bool × Mm)} {rv : Bool} {hz : Mm} (hK7 : ∀ (x3 : Bool) (h : Mm), K7 x3 h = some (rv, hz) → V X G RX12 cX12_condition 5 (some .boolean) (dr + 2) 0 0 (QR X G false o (some (.int (b2i rv))) hz) false o 7 [(0, .ref (xa X 251)), (3, .int (b2i x3))] [] h) {h : Mm} (hF : X12_condition_51 n rf K7 h = some (rv, hz)) : V X G RX12 cX12_condition 5 (some .boolean) (dr + 2) 0 0 (QR X G false o (some (.int (b2i rv))) hz) false o 51 [(0, .ref (xa X 251))] [] h := by
  unfold X12_condition_51 at hF
  refine V.iconst (v := 1) dX12_condition_51 rfl ?_
  refine V.goto (tgt := 56) dX12_condition_52 rfl ?_
  exact (v_X12_condition_56 hdr hrf hK7 hF)
def X12_condition_60 (n : Nat) (rf : Mm → Option (Bool × Mm)) (x3 : Bool) (h : Mm) : Option (Bool × Mm) := (some (x3, h))
set_option maxRecDepth 100000 in
set_option maxHeartbeats 4000000 in
theorem v_X12_condition_60 {X : WX} {G : GX} {o : Mm} {n : Nat} {rf : Mm → Option (Bool × Mm)} {dr : Nat} (hdr : 48 ≤ dr) (hrf : ∀   (h : Mm) (r : Bool) (h2 : Mm), rf  h = some (r, h2) → Sat X yX12_unit cX12_unit 3 (some .boolean) dr [.ref (xa X 251)] false o h (some (.int (b2i r))) h2) {rv : Bool} {hz : Mm} {x3 : Bool} {h : Mm} (hF : X12_condition_60 n rf x3 h = some (rv, hz)) : V X G RX12 cX12_condition 5 (some .boolean) (dr + 2) 0 0 (QR X G false o (some (.int (b2i rv))) hz) false o 60 [(3, .int (b2i x3))] [] h := by
  unfold X12_condition_60 at hF
  refine V.iload_n 0 dX12_condition_60 rfl rfl ?_
  cases hF
  exact V.bret dX12_condition_61
def X12_condition_7 (n : Nat) (rf : Mm → Option (Bool × Mm)) : Nat → Bool → Mm → Option (Bool × Mm)
  | 0, _, _ => none
  | f + 1, x3, h => (if (h.1 251 11) = (-1) then (bd (X12_look n h) (fun r19 h21 => (if r19 = (124) then (bd (X12_part n rf false (0) (wI h21 251 10 ((h21.1 251 10) + (1)))) (fun r22 h24 => (if x3 = true then (X12_condition_51 n rf (X12_condition_7 n rf f) h24) else (if r22 = true then (X12_condition_51 n rf (X12_condition_7 n rf f) h24) else (X12_condition_56 n rf (X12_condition_7 n rf f) false h24))))) else (X12_condition_60 n rf x3 h21)))) else (X12_condition_60 n rf x3 h))
set_option maxRecDepth 100000 in
set_option maxHeartbeats 4000000 in
theorem v_X12_condition_7 {X : WX} {G : GX} {o : Mm} {n : Nat} {rf : Mm → Option (Bool × Mm)} {dr : Nat} (hdr : 48 ≤ dr) (hrf : ∀   (h : Mm) (r : Bool) (h2 : Mm), rf  h = some (r, h2) → Sat X yX12_unit cX12_unit 3 (some .boolean) dr [.ref (xa X 251)] false o h (some (.int (b2i r))) h2) {rv : Bool} {hz : Mm} : ∀ (f : Nat) (x3 : Bool) (h : Mm), X12_condition_7 n rf f x3 h = some (rv, hz) → V X G RX12 cX12_condition 5 (some .boolean) (dr + 2) 0 0 (QR X G false o (some (.int (b2i rv))) hz) false o 7 [(0, .ref (xa X 251)), (3, .int (b2i x3))] [] h := by
  intro f
  induction f with
  | zero => intro x3 h hF; exact nomatch (show (none : Option (Bool × Mm)) = some (rv, hz) from hF)
  | succ f ih =>
    intro x3 h hF
    unfold X12_condition_7 at hF
    refine V.aload_n 0 dX12_condition_7 rfl rfl ?_
    refine V.getI fl_X12_125 sh_251 rfl km_251 dX12_condition_8 ?_
    refine V.iconst (v := -1) dX12_condition_11 rfl ?_
    refine V.icmp_ne (tgt := 60) dX12_condition_12 rfl (fun c => ?_) (fun c => ?_)
    · replace hF := (if_neg c).symm.trans hF
      exact V.sub [1] rfl (v_X12_condition_60 hdr hrf hF)
    · replace hF := (if_pos c).symm.trans hF
      refine V.aload_n 0 dX12_condition_15 rfl rfl ?_
      obtain ⟨r19, h21, hc20, hF⟩ := bd_s hF
      refine V.callVi mf_X12_look ml_X12_135 sh_251 (s_X12_look hc20) (by omega) rfl rfl (Nat.le_of_ble_eq_true rfl) dX12_condition_16 ?_
      refine V.bipush (v := 124) dX12_condition_19 (by decide) ?_
      refine V.icmp_ne (tgt := 60) dX12_condition_21 rfl (fun c => ?_) (fun c => ?_)
      · replace hF := (if_neg c).symm.trans hF
        exact V.sub [1] rfl (v_X12_condition_60 hdr hrf hF)
      · replace hF := (if_pos c).symm.trans hF
        refine V.aload_n 0 dX12_condition_24 rfl rfl ?_
        refine V.dup dX12_condition_25 rfl ?_
        refine V.getI fl_X12_116 sh_251 rfl km_251 dX12_condition_26 ?_
        refine V.iconst (v := 1) dX12_condition_29 rfl ?_
        refine V.iadd dX12_condition_30 ?_
        refine V.putI fl_X12_116 rfl (tyX12_ok 10 (by decide)) rfl rfl sh_251 rfl km_251 dX12_condition_31 ?_
        refine V.aload_n 0 dX12_condition_34 rfl rfl ?_
        refine V.iconst (v := 0) dX12_condition_35 rfl ?_
        refine V.iconst (v := 0) dX12_condition_36 rfl ?_
        obtain ⟨r22, h24, hc23, hF⟩ := bd_s hF
        refine V.callVi mf_X12_part ml_X12_191 sh_251 (s_X12_part hdr hrf hc23) (by omega) rfl rfl (Nat.le_of_ble_eq_true rfl) dX12_condition_37 ?_
        refine V.istore [(4, _), (0, _), (3, _)] dX12_condition_40 (by decide) rfl ?_
        refine V.iload_n 2 dX12_condition_42 rfl rfl ?_
        refine V.ifz_ne (tgt := 51) dX12_condition_43 rfl (fun c => ?_) (fun c => ?_)
        · replace hF := (if_pos c).symm.trans hF
          exact V.sub [1] rfl (v_X12_condition_51 hdr hrf ih hF)
        · replace hF := (if_neg c).symm.trans hF
          refine V.iload 0 dX12_condition_46 rfl ?_
          refine V.ifz_eq (tgt := 55) dX12_condition_48 rfl (fun c => ?_) (fun c => ?_)
          · replace hF := (if_neg c).symm.trans hF
            refine V.iconst (v := 0) dX12_condition_55 rfl ?_
            exact V.sub [1] rfl (v_X12_condition_56 hdr hrf ih hF)
          · replace hF := (if_pos c).symm.trans hF
            exact V.sub [1] rfl (v_X12_condition_51 hdr hrf ih hF)
def X12_condition (n : Nat) (rf : Mm → Option (Bool × Mm)) (x1 : Bool) (x2 : Int32) (h : Mm) : Option (Bool × Mm) := (bd (X12_part n rf x1 x2 h) (fun r25 h27 => (X12_condition_7 n rf n r25 h27)))
set_option maxRecDepth 100000 in
set_option maxHeartbeats 4000000 in
theorem s_X12_condition {X : WX} {o : Mm} {n : Nat} {rf : Mm → Option (Bool × Mm)} {dr : Nat} (hdr : 48 ≤ dr) (hrf : ∀   (h : Mm) (r : Bool) (h2 : Mm), rf  h = some (r, h2) → Sat X yX12_unit cX12_unit 3 (some .boolean) dr [.ref (xa X 251)] false o h (some (.int (b2i r))) h2) {x1 : Bool} {x2 : Int32} {rv : Bool} {hz : Mm} {h : Mm} (hF : X12_condition n rf x1 x2 h = some (rv, hz)) : Sat X yX12_condition cX12_condition 5 (some .boolean) (dr + 2) [.ref (xa X 251), .int (b2i x1), .int x2] false o h (some (.int (b2i rv))) hz := by
  unfold X12_condition at hF
  refine Sat.mk (own := RX12) rfl (by decide +kernel) (Nat.le_of_ble_eq_true rfl) (fun G => ?_)
  refine V.sub (lv2 := [(0, _), (1, _), (2, _)]) [0, 1, 2] rfl ?_
  refine V.aload_n 0 dX12_condition_0 rfl rfl ?_
  refine V.iload_n 1 dX12_condition_1 rfl rfl ?_
  refine V.iload_n 2 dX12_condition_2 rfl rfl ?_
  obtain ⟨r25, h27, hc26, hF⟩ := bd_s hF
  refine V.callVi mf_X12_part ml_X12_191 sh_251 (s_X12_part hdr hrf hc26) (by omega) rfl rfl (Nat.le_of_ble_eq_true rfl) dX12_condition_3 ?_
  refine V.istore_n [(3, _), (0, _), (1, _), (2, _)] dX12_condition_6 rfl (by decide) rfl ?_
  exact V.sub [1, 0] rfl (v_X12_condition_7 hdr hrf n _ _ hF)
/-! MonsterCotModel.unit -/
theorem dX12_unit_0 : decode cX12_unit 0 = .ok (.aload_n 0, 1) := by decide +kernel
theorem dX12_unit_1 : decode cX12_unit 1 = .ok (.invokevirtual 135, 3) := by decide +kernel
theorem dX12_unit_4 : decode cX12_unit 4 = .ok (.istore_n 1, 1) := by decide +kernel
theorem dX12_unit_5 : decode cX12_unit 5 = .ok (.iload_n 1, 1) := by decide +kernel
theorem dX12_unit_6 : decode cX12_unit 6 = .ok (.bipush 33, 2) := by decide +kernel
theorem dX12_unit_8 : decode cX12_unit 8 = .ok (.if_icmp .ne 37, 3) := by decide +kernel
theorem dX12_unit_11 : decode cX12_unit 11 = .ok (.aload_n 0, 1) := by decide +kernel
theorem dX12_unit_12 : decode cX12_unit 12 = .ok (.invokevirtual 155, 3) := by decide +kernel
theorem dX12_unit_15 : decode cX12_unit 15 = .ok (.ifCond .ne 5, 3) := by decide +kernel
theorem dX12_unit_18 : decode cX12_unit 18 = .ok (.iconst 0, 1) := by decide +kernel
theorem dX12_unit_19 : decode cX12_unit 19 = .ok (.ireturn, 1) := by decide +kernel
theorem dX12_unit_20 : decode cX12_unit 20 = .ok (.aload_n 0, 1) := by decide +kernel
theorem dX12_unit_21 : decode cX12_unit 21 = .ok (.invokevirtual 181, 3) := by decide +kernel
theorem dX12_unit_24 : decode cX12_unit 24 = .ok (.istore_n 2, 1) := by decide +kernel
theorem dX12_unit_25 : decode cX12_unit 25 = .ok (.aload_n 0, 1) := by decide +kernel
theorem dX12_unit_26 : decode cX12_unit 26 = .ok (.dup, 1) := by decide +kernel
theorem dX12_unit_27 : decode cX12_unit 27 = .ok (.getfield 128, 3) := by decide +kernel
theorem dX12_unit_30 : decode cX12_unit 30 = .ok (.iconst 1, 1) := by decide +kernel
theorem dX12_unit_31 : decode cX12_unit 31 = .ok (.isub, 1) := by decide +kernel
theorem dX12_unit_32 : decode cX12_unit 32 = .ok (.putfield 128, 3) := by decide +kernel
theorem dX12_unit_35 : decode cX12_unit 35 = .ok (.iload_n 2, 1) := by decide +kernel
theorem dX12_unit_36 : decode cX12_unit 36 = .ok (.ifCond .ne 7, 3) := by decide +kernel
theorem dX12_unit_39 : decode cX12_unit 39 = .ok (.iconst 1, 1) := by decide +kernel
theorem dX12_unit_40 : decode cX12_unit 40 = .ok (.goto 4, 3) := by decide +kernel
theorem dX12_unit_43 : decode cX12_unit 43 = .ok (.iconst 0, 1) := by decide +kernel
theorem dX12_unit_44 : decode cX12_unit 44 = .ok (.ireturn, 1) := by decide +kernel
theorem dX12_unit_45 : decode cX12_unit 45 = .ok (.iload_n 1, 1) := by decide +kernel
theorem dX12_unit_46 : decode cX12_unit 46 = .ok (.bipush 40, 2) := by decide +kernel
theorem dX12_unit_48 : decode cX12_unit 48 = .ok (.if_icmp .ne 42, 3) := by decide +kernel
theorem dX12_unit_51 : decode cX12_unit 51 = .ok (.aload_n 0, 1) := by decide +kernel
theorem dX12_unit_52 : decode cX12_unit 52 = .ok (.invokevirtual 155, 3) := by decide +kernel
theorem dX12_unit_55 : decode cX12_unit 55 = .ok (.ifCond .ne 5, 3) := by decide +kernel
theorem dX12_unit_58 : decode cX12_unit 58 = .ok (.iconst 0, 1) := by decide +kernel
theorem dX12_unit_59 : decode cX12_unit 59 = .ok (.ireturn, 1) := by decide +kernel
theorem dX12_unit_60 : decode cX12_unit 60 = .ok (.aload_n 0, 1) := by decide +kernel
theorem dX12_unit_61 : decode cX12_unit 61 = .ok (.iconst 0, 1) := by decide +kernel
theorem dX12_unit_62 : decode cX12_unit 62 = .ok (.iconst 0, 1) := by decide +kernel
theorem dX12_unit_63 : decode cX12_unit 63 = .ok (.invokevirtual 184, 3) := by decide +kernel
theorem dX12_unit_66 : decode cX12_unit 66 = .ok (.istore_n 2, 1) := by decide +kernel
theorem dX12_unit_67 : decode cX12_unit 67 = .ok (.aload_n 0, 1) := by decide +kernel
theorem dX12_unit_68 : decode cX12_unit 68 = .ok (.bipush 41, 2) := by decide +kernel
theorem dX12_unit_70 : decode cX12_unit 70 = .ok (.invokevirtual 161, 3) := by decide +kernel
theorem dX12_unit_73 : decode cX12_unit 73 = .ok (.ifCond .ne 5, 3) := by decide +kernel
theorem dX12_unit_76 : decode cX12_unit 76 = .ok (.iconst 0, 1) := by decide +kernel
theorem dX12_unit_77 : decode cX12_unit 77 = .ok (.ireturn, 1) := by decide +kernel
theorem dX12_unit_78 : decode cX12_unit 78 = .ok (.aload_n 0, 1) := by decide +kernel
theorem dX12_unit_79 : decode cX12_unit 79 = .ok (.dup, 1) := by decide +kernel
theorem dX12_unit_80 : decode cX12_unit 80 = .ok (.getfield 128, 3) := by decide +kernel
theorem dX12_unit_83 : decode cX12_unit 83 = .ok (.iconst 1, 1) := by decide +kernel
theorem dX12_unit_84 : decode cX12_unit 84 = .ok (.isub, 1) := by decide +kernel
theorem dX12_unit_85 : decode cX12_unit 85 = .ok (.putfield 128, 3) := by decide +kernel
theorem dX12_unit_88 : decode cX12_unit 88 = .ok (.iload_n 2, 1) := by decide +kernel
theorem dX12_unit_89 : decode cX12_unit 89 = .ok (.ireturn, 1) := by decide +kernel
theorem dX12_unit_90 : decode cX12_unit 90 = .ok (.aload_n 0, 1) := by decide +kernel
theorem dX12_unit_91 : decode cX12_unit 91 = .ok (.iconst 0, 1) := by decide +kernel
theorem dX12_unit_92 : decode cX12_unit 92 = .ok (.iconst 0, 1) := by decide +kernel
theorem dX12_unit_93 : decode cX12_unit 93 = .ok (.invokevirtual 188, 3) := by decide +kernel
theorem dX12_unit_96 : decode cX12_unit 96 = .ok (.ireturn, 1) := by decide +kernel
def X12_unit_b (n : Nat) (rf : Mm → Option (Bool × Mm)) (h : Mm) : Option (Bool × Mm) := (bd (X12_look n h) (fun r22 h24 => (if r22 = (33) then (bd (X12_goesIn h24) (fun r37 h39 => (if r37 = true then (bd (rf h39) (fun r40 h42 => (if r40 = true then (some (false, (wI h42 251 12 ((h42.1 251 12) - (1))))) else (some (true, (wI h42 251 12 ((h42.1 251 12) - (1)))))))) else (some (false, h39))))) else (if r22 = (40) then (bd (X12_goesIn h24) (fun r28 h30 => (if r28 = true then (bd (X12_condition n rf false (0) h30) (fun r31 h33 => (bd (X12_takes n (41) h33) (fun r34 h36 => (if r34 = true then (some (r31, (wI h36 251 12 ((h36.1 251 12) - (1))))) else (some (false, h36))))))) else (some (false, h30))))) else (bd (X12_compares n false (0) h24) (fun r25 h27 => (some (r25, h27))))))))
set_option maxRecDepth 100000 in
set_option maxHeartbeats 4000000 in
theorem s_X12_unit_b {X : WX} {o : Mm} {n : Nat} {rf : Mm → Option (Bool × Mm)} {dr : Nat} (hdr : 48 ≤ dr) (hrf : ∀   (h : Mm) (r : Bool) (h2 : Mm), rf  h = some (r, h2) → Sat X yX12_unit cX12_unit 3 (some .boolean) dr [.ref (xa X 251)] false o h (some (.int (b2i r))) h2) {DD : Nat} (hDD : dr + 3 ≤ DD) {rv : Bool} {hz : Mm} {h : Mm} (hF : X12_unit_b n rf h = some (rv, hz)) : Sat X yX12_unit cX12_unit 3 (some .boolean) DD [.ref (xa X 251)] false o h (some (.int (b2i rv))) hz := by
  unfold X12_unit_b at hF
  refine Sat.mk (own := RX12) rfl (by decide +kernel) (Nat.le_of_ble_eq_true rfl) (fun G => ?_)
  refine V.sub (lv2 := [(0, _)]) [0] rfl ?_
  refine V.aload_n 0 dX12_unit_0 rfl rfl ?_
  obtain ⟨r22, h24, hc23, hF⟩ := bd_s hF
  refine V.callVi mf_X12_look ml_X12_135 sh_251 (s_X12_look hc23) (by omega) rfl rfl (Nat.le_of_ble_eq_true rfl) dX12_unit_1 ?_
  refine V.istore_n [(1, _), (0, _)] dX12_unit_4 rfl (by decide) rfl ?_
  refine V.iload_n 0 dX12_unit_5 rfl rfl ?_
  refine V.bipush (v := 33) dX12_unit_6 (by decide) ?_
  refine V.icmp_ne (tgt := 45) dX12_unit_8 rfl (fun c => ?_) (fun c => ?_)
  · replace hF := (if_neg c).symm.trans hF
    refine V.iload_n 0 dX12_unit_45 rfl rfl ?_
    refine V.bipush (v := 40) dX12_unit_46 (by decide) ?_
    refine V.icmp_ne (tgt := 90) dX12_unit_48 rfl (fun c => ?_) (fun c => ?_)
    · replace hF := (if_neg c).symm.trans hF
      refine V.aload_n 1 dX12_unit_90 rfl rfl ?_
      refine V.iconst (v := 0) dX12_unit_91 rfl ?_
      refine V.iconst (v := 0) dX12_unit_92 rfl ?_
      obtain ⟨r25, h27, hc26, hF⟩ := bd_s hF
      refine V.callVi mf_X12_compares ml_X12_188 sh_251 (s_X12_compares hc26) (by omega) rfl rfl (Nat.le_of_ble_eq_true rfl) dX12_unit_93 ?_
      cases hF
      exact V.bret dX12_unit_96
    · replace hF := (if_pos c).symm.trans hF
      refine V.aload_n 1 dX12_unit_51 rfl rfl ?_
      obtain ⟨r28, h30, hc29, hF⟩ := bd_s hF
      refine V.callVi mf_X12_goesIn ml_X12_155 sh_251 (s_X12_goesIn hc29) (by omega) rfl rfl (Nat.le_of_ble_eq_true rfl) dX12_unit_52 ?_
      refine V.ifz_ne (tgt := 60) dX12_unit_55 rfl (fun c => ?_) (fun c => ?_)
      · replace hF := (if_pos c).symm.trans hF
        refine V.aload_n 1 dX12_unit_60 rfl rfl ?_
        refine V.iconst (v := 0) dX12_unit_61 rfl ?_
        refine V.iconst (v := 0) dX12_unit_62 rfl ?_
        obtain ⟨r31, h33, hc32, hF⟩ := bd_s hF
        refine V.callVi mf_X12_condition ml_X12_184 sh_251 (s_X12_condition hdr hrf hc32) (by omega) rfl rfl (Nat.le_of_ble_eq_true rfl) dX12_unit_63 ?_
        refine V.istore_n [(2, _), (1, _), (0, _)] dX12_unit_66 rfl (by decide) rfl ?_
        refine V.aload_n 2 dX12_unit_67 rfl rfl ?_
        refine V.bipush (v := 41) dX12_unit_68 (by decide) ?_
        obtain ⟨r34, h36, hc35, hF⟩ := bd_s hF
        refine V.callVi mf_X12_takes ml_X12_161 sh_251 (s_X12_takes hc35) (by omega) rfl rfl (Nat.le_of_ble_eq_true rfl) dX12_unit_70 ?_
        refine V.ifz_ne (tgt := 78) dX12_unit_73 rfl (fun c => ?_) (fun c => ?_)
        · replace hF := (if_pos c).symm.trans hF
          refine V.aload_n 2 dX12_unit_78 rfl rfl ?_
          refine V.dup dX12_unit_79 rfl ?_
          refine V.getI fl_X12_128 sh_251 rfl km_251 dX12_unit_80 ?_
          refine V.iconst (v := 1) dX12_unit_83 rfl ?_
          refine V.isub dX12_unit_84 ?_
          refine V.putI fl_X12_128 rfl (tyX12_ok 12 (by decide)) rfl rfl sh_251 rfl km_251 dX12_unit_85 ?_
          refine V.iload_n 0 dX12_unit_88 rfl rfl ?_
          cases hF
          exact V.bret dX12_unit_89
        · replace hF := (if_neg c).symm.trans hF
          refine V.iconst (v := 0) dX12_unit_76 rfl ?_
          cases hF
          exact V.bret dX12_unit_77
      · replace hF := (if_neg c).symm.trans hF
        refine V.iconst (v := 0) dX12_unit_58 rfl ?_
        cases hF
        exact V.bret dX12_unit_59
  · replace hF := (if_pos c).symm.trans hF
    refine V.aload_n 1 dX12_unit_11 rfl rfl ?_
    obtain ⟨r37, h39, hc38, hF⟩ := bd_s hF
    refine V.callVi mf_X12_goesIn ml_X12_155 sh_251 (s_X12_goesIn hc38) (by omega) rfl rfl (Nat.le_of_ble_eq_true rfl) dX12_unit_12 ?_
    refine V.ifz_ne (tgt := 20) dX12_unit_15 rfl (fun c => ?_) (fun c => ?_)
    · replace hF := (if_pos c).symm.trans hF
      refine V.aload_n 1 dX12_unit_20 rfl rfl ?_
      obtain ⟨r40, h42, hc41, hF⟩ := bd_s hF
      refine V.callVi mf_X12_unit ml_X12_181 sh_251 (hrf _ _ _ hc41) (by omega) rfl rfl (Nat.le_of_ble_eq_true rfl) dX12_unit_21 ?_
      refine V.istore_n [(2, _), (1, _), (0, _)] dX12_unit_24 rfl (by decide) rfl ?_
      refine V.aload_n 2 dX12_unit_25 rfl rfl ?_
      refine V.dup dX12_unit_26 rfl ?_
      refine V.getI fl_X12_128 sh_251 rfl km_251 dX12_unit_27 ?_
      refine V.iconst (v := 1) dX12_unit_30 rfl ?_
      refine V.isub dX12_unit_31 ?_
      refine V.putI fl_X12_128 rfl (tyX12_ok 12 (by decide)) rfl rfl sh_251 rfl km_251 dX12_unit_32 ?_
      refine V.iload_n 0 dX12_unit_35 rfl rfl ?_
      refine V.ifz_ne (tgt := 43) dX12_unit_36 rfl (fun c => ?_) (fun c => ?_)
      · replace hF := (if_pos c).symm.trans hF
        refine V.iconst (v := 0) dX12_unit_43 rfl ?_
        cases hF
        exact V.bret dX12_unit_44
      · replace hF := (if_neg c).symm.trans hF
        refine V.iconst (v := 1) dX12_unit_39 rfl ?_
        refine V.goto (tgt := 44) dX12_unit_40 rfl ?_
        cases hF
        exact V.bret dX12_unit_44
    · replace hF := (if_neg c).symm.trans hF
      refine V.iconst (v := 0) dX12_unit_18 rfl ?_
      cases hF
      exact V.bret dX12_unit_19
def X12_unit (n : Nat) : Nat → Mm → Option (Bool × Mm)
  | 0, _ => none
  | e + 1, h => X12_unit_b n (X12_unit n e)  h
set_option maxRecDepth 100000 in
set_option maxHeartbeats 4000000 in
theorem s_X12_unit {X : WX} {o : Mm} {n : Nat} : ∀ (e : Nat)  (h : Mm) (rv : Bool) (hz : Mm), X12_unit n e  h = some (rv, hz) → Sat X yX12_unit cX12_unit 3 (some .boolean) (48 + 4 * e) [.ref (xa X 251)] false o h (some (.int (b2i rv))) hz := by
  intro e
  induction e with
  | zero => intro  h rv hz hF; exact nomatch (show (none : Option (Bool × Mm)) = some (rv, hz) from hF)
  | succ e ih => intro  h rv hz hF; exact s_X12_unit_b (dr := 48 + 4 * e) (by omega) ih (by omega)  hF
