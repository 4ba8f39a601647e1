/-! MonsterCot$Search.findRoster -/
theorem dX6_findRoster_0 : decode cX6_findRoster 0 = .ok (.aload_n 0, 1) := by decide +kernel
theorem dX6_findRoster_1 : decode cX6_findRoster 1 = .ok (.iconst (-1), 1) := by decide +kernel
theorem dX6_findRoster_2 : decode cX6_findRoster 2 = .ok (.putfield 38, 3) := by decide +kernel
theorem dX6_findRoster_5 : decode cX6_findRoster 5 = .ok (.aload_n 0, 1) := by decide +kernel
theorem dX6_findRoster_6 : decode cX6_findRoster 6 = .ok (.iconst (-1), 1) := by decide +kernel
theorem dX6_findRoster_7 : decode cX6_findRoster 7 = .ok (.putfield 42, 3) := by decide +kernel
theorem dX6_findRoster_10 : decode cX6_findRoster 10 = .ok (.aload_n 0, 1) := by decide +kernel
theorem dX6_findRoster_11 : decode cX6_findRoster 11 = .ok (.iload_n 1, 1) := by decide +kernel
theorem dX6_findRoster_12 : decode cX6_findRoster 12 = .ok (.putfield 130, 3) := by decide +kernel
theorem dX6_findRoster_15 : decode cX6_findRoster 15 = .ok (.aload_n 0, 1) := by decide +kernel
theorem dX6_findRoster_16 : decode cX6_findRoster 16 = .ok (.iconst 0, 1) := by decide +kernel
theorem dX6_findRoster_17 : decode cX6_findRoster 17 = .ok (.iconst 0, 1) := by decide +kernel
theorem dX6_findRoster_18 : decode cX6_findRoster 18 = .ok (.iconst 0, 1) := by decide +kernel
theorem dX6_findRoster_19 : decode cX6_findRoster 19 = .ok (.iconst 0, 1) := by decide +kernel
theorem dX6_findRoster_20 : decode cX6_findRoster 20 = .ok (.aload_n 0, 1) := by decide +kernel
theorem dX6_findRoster_21 : decode cX6_findRoster 21 = .ok (.getfield 34, 3) := by decide +kernel
theorem dX6_findRoster_24 : decode cX6_findRoster 24 = .ok (.getfield 52, 3) := by decide +kernel
theorem dX6_findRoster_27 : decode cX6_findRoster 27 = .ok (.aload_n 0, 1) := by decide +kernel
theorem dX6_findRoster_28 : decode cX6_findRoster 28 = .ok (.getfield 34, 3) := by decide +kernel
theorem dX6_findRoster_31 : decode cX6_findRoster 31 = .ok (.getfield 45, 3) := by decide +kernel
theorem dX6_findRoster_34 : decode cX6_findRoster 34 = .ok (.aload_n 0, 1) := by decide +kernel
theorem dX6_findRoster_35 : decode cX6_findRoster 35 = .ok (.getfield 28, 3) := by decide +kernel
theorem dX6_findRoster_38 : decode cX6_findRoster 38 = .ok (.iload_n 1, 1) := by decide +kernel
theorem dX6_findRoster_39 : decode cX6_findRoster 39 = .ok (.invokevirtual 76, 3) := by decide +kernel
theorem dX6_findRoster_42 : decode cX6_findRoster 42 = .ok (.invokestatic 79, 3) := by decide +kernel
theorem dX6_findRoster_45 : decode cX6_findRoster 45 = .ok (.invokevirtual 133, 3) := by decide +kernel
theorem dX6_findRoster_48 : decode cX6_findRoster 48 = .ok (.return_, 1) := by decide +kernel
def X6_findRoster (n : Nat) (x1 : Int32) (h : Mm) : Option (Unit × Mm) := (bp (X1_kindOf 13 x1 (wI (wI (wI h 246 6 (-1)) 246 7 (-1)) 246 8 x1)) (fun r8 => (bp (X11_at 28 r8 (wI (wI (wI h 246 6 (-1)) 246 7 (-1)) 246 8 x1)) (fun r10 => (bd (X6_growRoster n 9 (0) (0) (0) (0) ((wI (wI (wI h 246 6 (-1)) 246 7 (-1)) 246 8 x1).1 27 4) r10 (wI (wI (wI h 246 6 (-1)) 246 7 (-1)) 246 8 x1)) (fun _ h14 => (some ((), h14))))))))
set_option maxRecDepth 100000 in
set_option maxHeartbeats 4000000 in
theorem s_X6_findRoster {X : WX} {o : Mm} {n : Nat} {x1 : Int32} {rv : Unit} {hz : Mm} {h : Mm} (hF : X6_findRoster n x1 h = some (rv, hz)) : Sat X yX6_findRoster cX6_findRoster 2 (none) 25 [.ref (xa X 246), .int x1] true o h none hz := by
  unfold X6_findRoster at hF
  refine Sat.mk (own := RX6) rfl (by decide +kernel) (Nat.le_of_ble_eq_true rfl) (fun G => ?_)
  refine V.sub (lv2 := [(0, _), (1, _)]) [0, 1] rfl ?_
  refine V.aload_n 0 dX6_findRoster_0 rfl rfl ?_
  refine V.iconst (v := -1) dX6_findRoster_1 rfl ?_
  refine V.putI fl_X6_38 rfl (tyX6_ok 6 (by decide)) rfl rfl sh_246 rfl km_246 dX6_findRoster_2 ?_
  refine V.aload_n 0 dX6_findRoster_5 rfl rfl ?_
  refine V.iconst (v := -1) dX6_findRoster_6 rfl ?_
  refine V.putI fl_X6_42 rfl (tyX6_ok 7 (by decide)) rfl rfl sh_246 rfl km_246 dX6_findRoster_7 ?_
  refine V.aload_n 0 dX6_findRoster_10 rfl rfl ?_
  refine V.iload_n 1 dX6_findRoster_11 rfl rfl ?_
  refine V.putI fl_X6_130 rfl (tyX6_ok 8 (by decide)) rfl rfl sh_246 rfl km_246 dX6_findRoster_12 ?_
  refine V.aload_n 0 dX6_findRoster_15 rfl rfl ?_
  refine V.iconst (v := 0) dX6_findRoster_16 rfl ?_
  refine V.iconst (v := 0) dX6_findRoster_17 rfl ?_
  refine V.iconst (v := 0) dX6_findRoster_18 rfl ?_
  refine V.iconst (v := 0) dX6_findRoster_19 rfl ?_
  refine V.aload_n 0 dX6_findRoster_20 rfl rfl ?_
  refine V.getR (v := 27) fl_X6_34 sh_246 rfl fx_246_3 (by decide) dX6_findRoster_21 ?_
  refine V.getI fl_X6_52 sh_27 rfl km_27 dX6_findRoster_24 ?_
  refine V.aload_n 0 dX6_findRoster_27 rfl rfl ?_
  refine V.getR (v := 27) fl_X6_34 sh_246 rfl fx_246_3 (by decide) dX6_findRoster_28 ?_
  refine V.getR (v := 28) fl_X6_45 sh_27 rfl fx_27_0 (by decide) dX6_findRoster_31 ?_
  refine V.aload_n 0 dX6_findRoster_34 rfl rfl ?_
  refine V.getR (v := 13) fl_X6_28 sh_246 rfl fx_246_1 (by decide) dX6_findRoster_35 ?_
  refine V.iload_n 1 dX6_findRoster_38 rfl rfl ?_
  obtain ⟨r8, hc9, hF⟩ := bp_s hF
  refine V.callVi mf_X1_kindOf ml_X6_76 sh_13 (s_X1_kindOf (Or.inr rfl) hc9) (by decide) rfl rfl (Nat.le_of_ble_eq_true rfl) dX6_findRoster_39 ?_
  obtain ⟨r10, hc11, hF⟩ := bp_s hF
  refine V.callNi mf_X11_at ml_X6_79 (s_X11_at (Or.inl io_28) hc11) (by decide) rfl rfl (Nat.le_of_ble_eq_true rfl) dX6_findRoster_42 ?_
  obtain ⟨r12, h14, hc13, hF⟩ := bd_s hF
  refine V.callVv mf_X6_growRoster ml_X6_133 sh_246 (s_X6_growRoster 9 _ _ _ _ _ _ _ _ _ hc13) (by decide) rfl rfl (Nat.le_of_ble_eq_true rfl) dX6_findRoster_45 ?_
  cases hF
  exact V.vret dX6_findRoster_48
/-! MonsterCot.roster -/
theorem dX11_roster_0 : decode cX11_roster 0 = .ok (.aload_n 0, 1) := by decide +kernel
theorem dX11_roster_1 : decode cX11_roster 1 = .ok (.getfield 42, 3) := by decide +kernel
theorem dX11_roster_4 : decode cX11_roster 4 = .ok (.iload_n 1, 1) := by decide +kernel
theorem dX11_roster_5 : decode cX11_roster 5 = .ok (.invokevirtual 137, 3) := by decide +kernel
theorem dX11_roster_8 : decode cX11_roster 8 = .ok (.ifCond .eq 12, 3) := by decide +kernel
theorem dX11_roster_11 : decode cX11_roster 11 = .ok (.iload_n 2, 1) := by decide +kernel
theorem dX11_roster_12 : decode cX11_roster 12 = .ok (.ifCond .lt 8, 3) := by decide +kernel
theorem dX11_roster_15 : decode cX11_roster 15 = .ok (.iload_n 2, 1) := by decide +kernel
theorem dX11_roster_16 : decode cX11_roster 16 = .ok (.iconst 1, 1) := by decide +kernel
theorem dX11_roster_17 : decode cX11_roster 17 = .ok (.if_icmp .le 5, 3) := by decide +kernel
theorem dX11_roster_20 : decode cX11_roster 20 = .ok (.iconst (-1), 1) := by decide +kernel
theorem dX11_roster_21 : decode cX11_roster 21 = .ok (.ireturn, 1) := by decide +kernel
theorem dX11_roster_22 : decode cX11_roster 22 = .ok (.aload_n 0, 1) := by decide +kernel
theorem dX11_roster_23 : decode cX11_roster 23 = .ok (.getfield 84, 3) := by decide +kernel
theorem dX11_roster_26 : decode cX11_roster 26 = .ok (.iload_n 1, 1) := by decide +kernel
theorem dX11_roster_27 : decode cX11_roster 27 = .ok (.invokevirtual 312, 3) := by decide +kernel
theorem dX11_roster_30 : decode cX11_roster 30 = .ok (.iload_n 2, 1) := by decide +kernel
theorem dX11_roster_31 : decode cX11_roster 31 = .ok (.ifCond .ne 13, 3) := by decide +kernel
theorem dX11_roster_34 : decode cX11_roster 34 = .ok (.aload_n 0, 1) := by decide +kernel
theorem dX11_roster_35 : decode cX11_roster 35 = .ok (.getfield 84, 3) := by decide +kernel
theorem dX11_roster_38 : decode cX11_roster 38 = .ok (.getfield 306, 3) := by decide +kernel
theorem dX11_roster_41 : decode cX11_roster 41 = .ok (.goto 10, 3) := by decide +kernel
theorem dX11_roster_44 : decode cX11_roster 44 = .ok (.aload_n 0, 1) := by decide +kernel
theorem dX11_roster_45 : decode cX11_roster 45 = .ok (.getfield 84, 3) := by decide +kernel
theorem dX11_roster_48 : decode cX11_roster 48 = .ok (.getfield 303, 3) := by decide +kernel
theorem dX11_roster_51 : decode cX11_roster 51 = .ok (.ireturn, 1) := by decide +kernel
def X11_roster (n : Nat) (x1 : Int32) (x2 : Int32) (h : Mm) : Option (Int32 × Mm) := (bp (X1_hasBook 13 x1 h) (fun r6 => (if r6 = true then (if x2 < 0 then (some ((-1), h)) else (if x2 ≤ (1) then (bd (X6_findRoster n x1 h) (fun _ h10 => (if x2 = 0 then (some ((h10.1 246 6), h10)) else (some ((h10.1 246 7), h10))))) else (some ((-1), h)))) else (some ((-1), h)))))
set_option maxRecDepth 100000 in
set_option maxHeartbeats 4000000 in
theorem s_X11_roster {X : WX} {o : Mm} {n : Nat} {x1 : Int32} {x2 : Int32} {rv : Int32} {hz : Mm} {h : Mm} (hF : X11_roster n x1 x2 h = some (rv, hz)) : Sat X yX11_roster cX11_roster 3 (some .int) 26 [.ref (xa X 0), .int x1, .int x2] true o h (some (.int rv)) hz := by
  unfold X11_roster at hF
  refine Sat.mk (own := RX11) rfl (by decide +kernel) (Nat.le_of_ble_eq_true rfl) (fun G => ?_)
  refine V.sub (lv2 := [(0, _), (1, _), (2, _)]) [0, 1, 2] rfl ?_
  refine V.aload_n 0 dX11_roster_0 rfl rfl ?_
  refine V.getR (v := 13) fl_X11_42 sh_0 rfl fx_0_4 (by decide) dX11_roster_1 ?_
  refine V.iload_n 1 dX11_roster_4 rfl rfl ?_
  obtain ⟨r6, hc7, hF⟩ := bp_s hF
  refine V.callVi mf_X1_hasBook ml_X11_137 sh_13 (s_X1_hasBook (Or.inr rfl) hc7) (by decide) rfl rfl (Nat.le_of_ble_eq_true rfl) dX11_roster_5 ?_
  refine V.ifz_eq (tgt := 20) dX11_roster_8 rfl (fun c => ?_) (fun c => ?_)
  · replace hF := (if_neg c).symm.trans hF
    refine V.iconst (v := -1) dX11_roster_20 rfl ?_
    cases hF
    exact V.iret dX11_roster_21
  · replace hF := (if_pos c).symm.trans hF
    refine V.iload_n 2 dX11_roster_11 rfl rfl ?_
    refine V.if_lt (tgt := 20) dX11_roster_12 rfl (fun c => ?_) (fun c => ?_)
    · replace hF := (if_pos c).symm.trans hF
      refine V.iconst (v := -1) dX11_roster_20 rfl ?_
      cases hF
      exact V.iret dX11_roster_21
    · replace hF := (if_neg c).symm.trans hF
      refine V.iload_n 2 dX11_roster_15 rfl rfl ?_
      refine V.iconst (v := 1) dX11_roster_16 rfl ?_
      refine V.icmp_le (tgt := 22) dX11_roster_17 rfl (fun c => ?_) (fun c => ?_)
      · replace hF := (if_pos c).symm.trans hF
        refine V.aload_n 0 dX11_roster_22 rfl rfl ?_
        refine V.getR (v := 246) fl_X11_84 sh_0 rfl fx_0_10 (by decide) dX11_roster_23 ?_
        refine V.iload_n 1 dX11_roster_26 rfl rfl ?_
        obtain ⟨r8, h10, hc9, hF⟩ := bd_s hF
        refine V.callVv mf_X6_findRoster ml_X11_312 sh_246 (s_X6_findRoster hc9) (by decide) rfl rfl (Nat.le_of_ble_eq_true rfl) dX11_roster_27 ?_
        refine V.iload_n 2 dX11_roster_30 rfl rfl ?_
        refine V.if_ne (tgt := 44) dX11_roster_31 rfl (fun c => ?_) (fun c => ?_)
        · replace hF := (if_neg c).symm.trans hF
          refine V.aload_n 0 dX11_roster_44 rfl rfl ?_
          refine V.getR (v := 246) fl_X11_84 sh_0 rfl fx_0_10 (by decide) dX11_roster_45 ?_
          refine V.getI fl_X11_303 sh_246 rfl km_246 dX11_roster_48 ?_
          cases hF
          exact V.iret dX11_roster_51
        · replace hF := (if_pos c).symm.trans hF
          refine V.aload_n 0 dX11_roster_34 rfl rfl ?_
          refine V.getR (v := 246) fl_X11_84 sh_0 rfl fx_0_10 (by decide) dX11_roster_35 ?_
          refine V.getI fl_X11_306 sh_246 rfl km_246 dX11_roster_38 ?_
          refine V.goto (tgt := 51) dX11_roster_41 rfl ?_
          cases hF
          exact V.iret dX11_roster_51
      · replace hF := (if_neg c).symm.trans hF
        refine V.iconst (v := -1) dX11_roster_20 rfl ?_
        cases hF
        exact V.iret dX11_roster_21
/-! MonsterCot$Watch.note -/
theorem dX8_note_0 : decode cX8_note 0 = .ok (.aload_n 0, 1) := by decide +kernel
theorem dX8_note_1 : decode cX8_note 1 = .ok (.getfield 30, 3) := by decide +kernel
theorem dX8_note_4 : decode cX8_note 4 = .ok (.bipush 10, 2) := by decide +kernel
theorem dX8_note_6 : decode cX8_note 6 = .ok (.if_icmp .lt 5, 3) := by decide +kernel
theorem dX8_note_9 : decode cX8_note 9 = .ok (.iconst 0, 1) := by decide +kernel
theorem dX8_note_10 : decode cX8_note 10 = .ok (.ireturn, 1) := by decide +kernel
theorem dX8_note_11 : decode cX8_note 11 = .ok (.aload_n 0, 1) := by decide +kernel
theorem dX8_note_12 : decode cX8_note 12 = .ok (.getfield 30, 3) := by decide +kernel
theorem dX8_note_15 : decode cX8_note 15 = .ok (.iconst 5, 1) := by decide +kernel
theorem dX8_note_16 : decode cX8_note 16 = .ok (.imul, 1) := by decide +kernel
theorem dX8_note_17 : decode cX8_note 17 = .ok (.istore 6, 2) := by decide +kernel
theorem dX8_note_19 : decode cX8_note 19 = .ok (.aload_n 0, 1) := by decide +kernel
theorem dX8_note_20 : decode cX8_note 20 = .ok (.getfield 11, 3) := by decide +kernel
theorem dX8_note_23 : decode cX8_note 23 = .ok (.iload 6, 2) := by decide +kernel
theorem dX8_note_25 : decode cX8_note 25 = .ok (.iload_n 1, 1) := by decide +kernel
theorem dX8_note_26 : decode cX8_note 26 = .ok (.invokestatic 34, 3) := by decide +kernel
theorem dX8_note_29 : decode cX8_note 29 = .ok (.aload_n 0, 1) := by decide +kernel
theorem dX8_note_30 : decode cX8_note 30 = .ok (.getfield 11, 3) := by decide +kernel
theorem dX8_note_33 : decode cX8_note 33 = .ok (.iload 6, 2) := by decide +kernel
theorem dX8_note_35 : decode cX8_note 35 = .ok (.iconst 1, 1) := by decide +kernel
theorem dX8_note_36 : decode cX8_note 36 = .ok (.iadd, 1) := by decide +kernel
theorem dX8_note_37 : decode cX8_note 37 = .ok (.iload_n 2, 1) := by decide +kernel
theorem dX8_note_38 : decode cX8_note 38 = .ok (.invokestatic 34, 3) := by decide +kernel
theorem dX8_note_41 : decode cX8_note 41 = .ok (.aload_n 0, 1) := by decide +kernel
theorem dX8_note_42 : decode cX8_note 42 = .ok (.getfield 11, 3) := by decide +kernel
theorem dX8_note_45 : decode cX8_note 45 = .ok (.iload 6, 2) := by decide +kernel
theorem dX8_note_47 : decode cX8_note 47 = .ok (.iconst 2, 1) := by decide +kernel
theorem dX8_note_48 : decode cX8_note 48 = .ok (.iadd, 1) := by decide +kernel
theorem dX8_note_49 : decode cX8_note 49 = .ok (.iload_n 3, 1) := by decide +kernel
theorem dX8_note_50 : decode cX8_note 50 = .ok (.invokestatic 34, 3) := by decide +kernel
theorem dX8_note_53 : decode cX8_note 53 = .ok (.aload_n 0, 1) := by decide +kernel
theorem dX8_note_54 : decode cX8_note 54 = .ok (.getfield 11, 3) := by decide +kernel
theorem dX8_note_57 : decode cX8_note 57 = .ok (.iload 6, 2) := by decide +kernel
theorem dX8_note_59 : decode cX8_note 59 = .ok (.iconst 3, 1) := by decide +kernel
theorem dX8_note_60 : decode cX8_note 60 = .ok (.iadd, 1) := by decide +kernel
theorem dX8_note_61 : decode cX8_note 61 = .ok (.iload 4, 2) := by decide +kernel
theorem dX8_note_63 : decode cX8_note 63 = .ok (.invokestatic 34, 3) := by decide +kernel
theorem dX8_note_66 : decode cX8_note 66 = .ok (.aload_n 0, 1) := by decide +kernel
theorem dX8_note_67 : decode cX8_note 67 = .ok (.getfield 11, 3) := by decide +kernel
theorem dX8_note_70 : decode cX8_note 70 = .ok (.iload 6, 2) := by decide +kernel
theorem dX8_note_72 : decode cX8_note 72 = .ok (.iconst 4, 1) := by decide +kernel
theorem dX8_note_73 : decode cX8_note 73 = .ok (.iadd, 1) := by decide +kernel
theorem dX8_note_74 : decode cX8_note 74 = .ok (.iload 5, 2) := by decide +kernel
theorem dX8_note_76 : decode cX8_note 76 = .ok (.ifCond .eq 7, 3) := by decide +kernel
theorem dX8_note_79 : decode cX8_note 79 = .ok (.iconst 1, 1) := by decide +kernel
theorem dX8_note_80 : decode cX8_note 80 = .ok (.goto 4, 3) := by decide +kernel
theorem dX8_note_83 : decode cX8_note 83 = .ok (.iconst 0, 1) := by decide +kernel
theorem dX8_note_84 : decode cX8_note 84 = .ok (.invokestatic 34, 3) := by decide +kernel
theorem dX8_note_87 : decode cX8_note 87 = .ok (.aload_n 0, 1) := by decide +kernel
theorem dX8_note_88 : decode cX8_note 88 = .ok (.dup, 1) := by decide +kernel
theorem dX8_note_89 : decode cX8_note 89 = .ok (.getfield 30, 3) := by decide +kernel
theorem dX8_note_92 : decode cX8_note 92 = .ok (.iconst 1, 1) := by decide +kernel
theorem dX8_note_93 : decode cX8_note 93 = .ok (.iadd, 1) := by decide +kernel
theorem dX8_note_94 : decode cX8_note 94 = .ok (.putfield 30, 3) := by decide +kernel
theorem dX8_note_97 : decode cX8_note 97 = .ok (.iconst 1, 1) := by decide +kernel
theorem dX8_note_98 : decode cX8_note 98 = .ok (.ireturn, 1) := by decide +kernel
def X8_note_84 (s1 : Int32) (s2 : Bool) (h : Mm) : Option (Bool × Mm) := (bd (X11_put 250 s1 (b2i s2) h) (fun _ h33 => (some (true, (wI h33 249 4 ((h33.1 249 4) + (1)))))))
set_option maxRecDepth 100000 in
set_option maxHeartbeats 4000000 in
theorem v_X8_note_84 {X : WX} {G : GX} {o : Mm} {rv : Bool} {hz : Mm} {s1 : Int32} {s2 : Bool} {h : Mm} (hF : X8_note_84  s1 s2 h = some (rv, hz)) : V X G RX8 cX8_note 7 (some .boolean) 2 0 0 (QR X G true o (some (.int (b2i rv))) hz) true o 84 [(0, .ref (xa X 249))] [.int (b2i s2), .int s1, .ref (xa X 250)] h := by
  unfold X8_note_84 at hF
  obtain ⟨r31, h33, hc32, hF⟩ := bd_s hF
  refine V.callNv mf_X11_put ml_X8_34 (s_X11_put io_250 hc32) (by decide) rfl rfl (Nat.le_of_ble_eq_true rfl) dX8_note_84 ?_
  refine V.aload_n 0 dX8_note_87 rfl rfl ?_
  refine V.dup dX8_note_88 rfl ?_
  refine V.getI fl_X8_30 sh_249 rfl km_249 dX8_note_89 ?_
  refine V.iconst (v := 1) dX8_note_92 rfl ?_
  refine V.iadd dX8_note_93 ?_
  refine V.putI fl_X8_30 rfl (tyX8_ok 4 (by decide)) rfl rfl sh_249 rfl km_249 dX8_note_94 ?_
  refine V.iconst (v := 1) dX8_note_97 rfl ?_
  cases hF
  exact V.bret dX8_note_98
def X8_note (x1 : Int32) (x2 : Int32) (x3 : Int32) (x4 : Int32) (x5 : Bool) (h : Mm) : Option (Bool × Mm) := (if (h.1 249 4) < (10) then (bd (X11_put 250 ((h.1 249 4) * (5)) x1 h) (fun _ h36 => (bd (X11_put 250 (((h.1 249 4) * (5)) + (1)) x2 h36) (fun _ h39 => (bd (X11_put 250 (((h.1 249 4) * (5)) + (2)) x3 h39) (fun _ h42 => (bd (X11_put 250 (((h.1 249 4) * (5)) + (3)) x4 h42) (fun _ h45 => (if x5 = true then (X8_note_84 (((h.1 249 4) * (5)) + (4)) true h45) else (X8_note_84 (((h.1 249 4) * (5)) + (4)) false h45)))))))))) else (some (false, h)))
set_option maxRecDepth 100000 in
set_option maxHeartbeats 4000000 in
theorem s_X8_note {X : WX} {o : Mm} {x1 : Int32} {x2 : Int32} {x3 : Int32} {x4 : Int32} {x5 : Bool} {rv : Bool} {hz : Mm} {h : Mm} (hF : X8_note x1 x2 x3 x4 x5 h = some (rv, hz)) : Sat X yX8_note cX8_note 7 (some .boolean) 2 [.ref (xa X 249), .int x1, .int x2, .int x3, .int x4, .int (b2i x5)] true o h (some (.int (b2i rv))) hz := by
  unfold X8_note at hF
  refine Sat.mk (own := RX8) rfl (by decide +kernel) (Nat.le_of_ble_eq_true rfl) (fun G => ?_)
  refine V.sub (lv2 := [(0, _), (1, _), (2, _), (3, _), (4, _), (5, _)]) [0, 1, 2, 3, 4, 5] rfl ?_
  refine V.aload_n 0 dX8_note_0 rfl rfl ?_
  refine V.getI fl_X8_30 sh_249 rfl km_249 dX8_note_1 ?_
  refine V.bipush (v := 10) dX8_note_4 (by decide) ?_
  refine V.icmp_lt (tgt := 11) dX8_note_6 rfl (fun c => ?_) (fun c => ?_)
  · replace hF := (if_pos c).symm.trans hF
    refine V.aload_n 0 dX8_note_11 rfl rfl ?_
    refine V.getI fl_X8_30 sh_249 rfl km_249 dX8_note_12 ?_
    refine V.iconst (v := 5) dX8_note_15 rfl ?_
    refine V.imul dX8_note_16 ?_
    refine V.istore [(6, _), (0, _), (1, _), (2, _), (3, _), (4, _), (5, _)] dX8_note_17 (by decide) rfl ?_
    refine V.aload_n 1 dX8_note_19 rfl rfl ?_
    refine V.getR (v := 250) fl_X8_11 sh_249 rfl fx_249_3 (by decide) dX8_note_20 ?_
    refine V.iload 0 dX8_note_23 rfl ?_
    refine V.iload_n 2 dX8_note_25 rfl rfl ?_
    obtain ⟨r34, h36, hc35, hF⟩ := bd_s hF
    refine V.callNv mf_X11_put ml_X8_34 (s_X11_put io_250 hc35) (by decide) rfl rfl (Nat.le_of_ble_eq_true rfl) dX8_note_26 ?_
    refine V.aload_n 1 dX8_note_29 rfl rfl ?_
    refine V.getR (v := 250) fl_X8_11 sh_249 rfl fx_249_3 (by decide) dX8_note_30 ?_
    refine V.iload 0 dX8_note_33 rfl ?_
    refine V.iconst (v := 1) dX8_note_35 rfl ?_
    refine V.iadd dX8_note_36 ?_
    refine V.iload_n 3 dX8_note_37 rfl rfl ?_
    obtain ⟨r37, h39, hc38, hF⟩ := bd_s hF
    refine V.callNv mf_X11_put ml_X8_34 (s_X11_put io_250 hc38) (by decide) rfl rfl (Nat.le_of_ble_eq_true rfl) dX8_note_38 ?_
    refine V.aload_n 1 dX8_note_41 rfl rfl ?_
    refine V.getR (v := 250) fl_X8_11 sh_249 rfl fx_249_3 (by decide) dX8_note_42 ?_
    refine V.iload 0 dX8_note_45 rfl ?_
    refine V.iconst (v := 2) dX8_note_47 rfl ?_
    refine V.iadd dX8_note_48 ?_
    refine V.iload_n 4 dX8_note_49 rfl rfl ?_
    obtain ⟨r40, h42, hc41, hF⟩ := bd_s hF
    refine V.callNv mf_X11_put ml_X8_34 (s_X11_put io_250 hc41) (by decide) rfl rfl (Nat.le_of_ble_eq_true rfl) dX8_note_50 ?_
    refine V.aload_n 1 dX8_note_53 rfl rfl ?_
    refine V.getR (v := 250) fl_X8_11 sh_249 rfl fx_249_3 (by decide) dX8_note_54 ?_
    refine V.iload 0 dX8_note_57 rfl ?_
    refine V.iconst (v := 3) dX8_note_59 rfl ?_
    refine V.iadd dX8_note_60 ?_
    refine V.iload 5 dX8_note_61 rfl ?_
    obtain ⟨r43, h45, hc44, hF⟩ := bd_s hF
    refine V.callNv mf_X11_put ml_X8_34 (s_X11_put io_250 hc44) (by decide) rfl rfl (Nat.le_of_ble_eq_true rfl) dX8_note_63 ?_
    refine V.aload_n 1 dX8_note_66 rfl rfl ?_
    refine V.getR (v := 250) fl_X8_11 sh_249 rfl fx_249_3 (by decide) dX8_note_67 ?_
    refine V.iload 0 dX8_note_70 rfl ?_
    refine V.iconst (v := 4) dX8_note_72 rfl ?_
    refine V.iadd dX8_note_73 ?_
    refine V.iload 6 dX8_note_74 rfl ?_
    refine V.ifz_eq (tgt := 83) dX8_note_76 rfl (fun c => ?_) (fun c => ?_)
    · replace hF := (if_neg c).symm.trans hF
      refine V.iconst (v := 0) dX8_note_83 rfl ?_
      exact V.sub [1] rfl (v_X8_note_84 hF)
    · replace hF := (if_pos c).symm.trans hF
      refine V.iconst (v := 1) dX8_note_79 rfl ?_
      refine V.goto (tgt := 84) dX8_note_80 rfl ?_
      exact V.sub [1] rfl (v_X8_note_84 hF)
  · replace hF := (if_neg c).symm.trans hF
    refine V.iconst (v := 0) dX8_note_9 rfl ?_
    cases hF
    exact V.bret dX8_note_10
/-! MonsterCot.seen -/
theorem dX11_seen_0 : decode cX11_seen 0 = .ok (.aload_n 0, 1) := by decide +kernel
theorem dX11_seen_1 : decode cX11_seen 1 = .ok (.getfield 58, 3) := by decide +kernel
theorem dX11_seen_4 : decode cX11_seen 4 = .ok (.iload_n 1, 1) := by decide +kernel
theorem dX11_seen_5 : decode cX11_seen 5 = .ok (.iload_n 2, 1) := by decide +kernel
theorem dX11_seen_6 : decode cX11_seen 6 = .ok (.invokevirtual 291, 3) := by decide +kernel
theorem dX11_seen_9 : decode cX11_seen 9 = .ok (.ifCond .eq 26, 3) := by decide +kernel
theorem dX11_seen_12 : decode cX11_seen 12 = .ok (.aload_n 0, 1) := by decide +kernel
theorem dX11_seen_13 : decode cX11_seen 13 = .ok (.getfield 42, 3) := by decide +kernel
theorem dX11_seen_16 : decode cX11_seen 16 = .ok (.iload_n 3, 1) := by decide +kernel
theorem dX11_seen_17 : decode cX11_seen 17 = .ok (.invokevirtual 153, 3) := by decide +kernel
theorem dX11_seen_20 : decode cX11_seen 20 = .ok (.ifCond .eq 15, 3) := by decide +kernel
theorem dX11_seen_23 : decode cX11_seen 23 = .ok (.iload 4, 2) := by decide +kernel
theorem dX11_seen_25 : decode cX11_seen 25 = .ok (.ifCond .lt 10, 3) := by decide +kernel
theorem dX11_seen_28 : decode cX11_seen 28 = .ok (.iload 4, 2) := by decide +kernel
theorem dX11_seen_30 : decode cX11_seen 30 = .ok (.bipush 99, 2) := by decide +kernel
theorem dX11_seen_32 : decode cX11_seen 32 = .ok (.if_icmp .le 5, 3) := by decide +kernel
theorem dX11_seen_35 : decode cX11_seen 35 = .ok (.iconst (-1), 1) := by decide +kernel
theorem dX11_seen_36 : decode cX11_seen 36 = .ok (.ireturn, 1) := by decide +kernel
theorem dX11_seen_37 : decode cX11_seen 37 = .ok (.aload_n 0, 1) := by decide +kernel
theorem dX11_seen_38 : decode cX11_seen 38 = .ok (.getfield 91, 3) := by decide +kernel
theorem dX11_seen_41 : decode cX11_seen 41 = .ok (.iload_n 1, 1) := by decide +kernel
theorem dX11_seen_42 : decode cX11_seen 42 = .ok (.iload_n 2, 1) := by decide +kernel
theorem dX11_seen_43 : decode cX11_seen 43 = .ok (.iload_n 3, 1) := by decide +kernel
theorem dX11_seen_44 : decode cX11_seen 44 = .ok (.iload 4, 2) := by decide +kernel
theorem dX11_seen_46 : decode cX11_seen 46 = .ok (.iload 5, 2) := by decide +kernel
theorem dX11_seen_48 : decode cX11_seen 48 = .ok (.invokevirtual 316, 3) := by decide +kernel
theorem dX11_seen_51 : decode cX11_seen 51 = .ok (.ifCond .eq 13, 3) := by decide +kernel
theorem dX11_seen_54 : decode cX11_seen 54 = .ok (.aload_n 0, 1) := by decide +kernel
theorem dX11_seen_55 : decode cX11_seen 55 = .ok (.getfield 91, 3) := by decide +kernel
theorem dX11_seen_58 : decode cX11_seen 58 = .ok (.getfield 320, 3) := by decide +kernel
theorem dX11_seen_61 : decode cX11_seen 61 = .ok (.goto 4, 3) := by decide +kernel
theorem dX11_seen_64 : decode cX11_seen 64 = .ok (.iconst (-1), 1) := by decide +kernel
theorem dX11_seen_65 : decode cX11_seen 65 = .ok (.ireturn, 1) := by decide +kernel
def X11_seen (x1 : Int32) (x2 : Int32) (x3 : Int32) (x4 : Int32) (x5 : Bool) (h : Mm) : Option (Int32 × Mm) := (bp (X9_hasPages x1 x2 h) (fun r8 => (if r8 = true then (bp (X1_hasHouse 13 x3 h) (fun r10 => (if r10 = true then (if x4 < 0 then (some ((-1), h)) else (if x4 ≤ (99) then (bd (X8_note x1 x2 x3 x4 x5 h) (fun r12 h14 => (if r12 = true then (some ((h14.1 249 4), h14)) else (some ((-1), h14))))) else (some ((-1), h)))) else (some ((-1), h))))) else (some ((-1), h)))))
set_option maxRecDepth 100000 in
set_option maxHeartbeats 4000000 in
theorem s_X11_seen {X : WX} {o : Mm} {x1 : Int32} {x2 : Int32} {x3 : Int32} {x4 : Int32} {x5 : Bool} {rv : Int32} {hz : Mm} {h : Mm} (hF : X11_seen x1 x2 x3 x4 x5 h = some (rv, hz)) : Sat X yX11_seen cX11_seen 6 (some .int) 5 [.ref (xa X 0), .int x1, .int x2, .int x3, .int x4, .int (b2i x5)] true o h (some (.int rv)) hz := by
  unfold X11_seen at hF
  refine Sat.mk (own := RX11) rfl (by decide +kernel) (Nat.le_of_ble_eq_true rfl) (fun G => ?_)
  refine V.sub (lv2 := [(0, _), (1, _), (2, _), (3, _), (4, _), (5, _)]) [0, 1, 2, 3, 4, 5] rfl ?_
  refine V.aload_n 0 dX11_seen_0 rfl rfl ?_
  refine V.getR (v := 26) fl_X11_58 sh_0 rfl fx_0_6 (by decide) dX11_seen_1 ?_
  refine V.iload_n 1 dX11_seen_4 rfl rfl ?_
  refine V.iload_n 2 dX11_seen_5 rfl rfl ?_
  obtain ⟨r8, hc9, hF⟩ := bp_s hF
  refine V.callVi mf_X9_hasPages ml_X11_291 sh_26 (s_X9_hasPages hc9) (by decide) rfl rfl (Nat.le_of_ble_eq_true rfl) dX11_seen_6 ?_
  refine V.ifz_eq (tgt := 35) dX11_seen_9 rfl (fun c => ?_) (fun c => ?_)
  · replace hF := (if_neg c).symm.trans hF
    refine V.iconst (v := -1) dX11_seen_35 rfl ?_
    cases hF
    exact V.iret dX11_seen_36
  · replace hF := (if_pos c).symm.trans hF
    refine V.aload_n 0 dX11_seen_12 rfl rfl ?_
    refine V.getR (v := 13) fl_X11_42 sh_0 rfl fx_0_4 (by decide) dX11_seen_13 ?_
    refine V.iload_n 3 dX11_seen_16 rfl rfl ?_
    obtain ⟨r10, hc11, hF⟩ := bp_s hF
    refine V.callVi mf_X1_hasHouse ml_X11_153 sh_13 (s_X1_hasHouse (Or.inr rfl) hc11) (by decide) rfl rfl (Nat.le_of_ble_eq_true rfl) dX11_seen_17 ?_
    refine V.ifz_eq (tgt := 35) dX11_seen_20 rfl (fun c => ?_) (fun c => ?_)
    · replace hF := (if_neg c).symm.trans hF
      refine V.iconst (v := -1) dX11_seen_35 rfl ?_
      cases hF
      exact V.iret dX11_seen_36
    · replace hF := (if_pos c).symm.trans hF
      refine V.iload 4 dX11_seen_23 rfl ?_
      refine V.if_lt (tgt := 35) dX11_seen_25 rfl (fun c => ?_) (fun c => ?_)
      · replace hF := (if_pos c).symm.trans hF
        refine V.iconst (v := -1) dX11_seen_35 rfl ?_
        cases hF
        exact V.iret dX11_seen_36
      · replace hF := (if_neg c).symm.trans hF
        refine V.iload 4 dX11_seen_28 rfl ?_
        refine V.bipush (v := 99) dX11_seen_30 (by decide) ?_
        refine V.icmp_le (tgt := 37) dX11_seen_32 rfl (fun c => ?_) (fun c => ?_)
        · replace hF := (if_pos c).symm.trans hF
          refine V.aload_n 0 dX11_seen_37 rfl rfl ?_
          refine V.getR (v := 249) fl_X11_91 sh_0 rfl fx_0_11 (by decide) dX11_seen_38 ?_
          refine V.iload_n 1 dX11_seen_41 rfl rfl ?_
          refine V.iload_n 2 dX11_seen_42 rfl rfl ?_
          refine V.iload_n 3 dX11_seen_43 rfl rfl ?_
          refine V.iload 4 dX11_seen_44 rfl ?_
          refine V.iload 5 dX11_seen_46 rfl ?_
          obtain ⟨r12, h14, hc13, hF⟩ := bd_s hF
          refine V.callVi mf_X8_note ml_X11_316 sh_249 (s_X8_note hc13) (by decide) rfl rfl (Nat.le_of_ble_eq_true rfl) dX11_seen_48 ?_
          refine V.ifz_eq (tgt := 64) dX11_seen_51 rfl (fun c => ?_) (fun c => ?_)
          · replace hF := (if_neg c).symm.trans hF
            refine V.iconst (v := -1) dX11_seen_64 rfl ?_
            cases hF
            exact V.iret dX11_seen_65
          · replace hF := (if_pos c).symm.trans hF
            refine V.aload_n 0 dX11_seen_54 rfl rfl ?_
            refine V.getR (v := 249) fl_X11_91 sh_0 rfl fx_0_11 (by decide) dX11_seen_55 ?_
            refine V.getI fl_X11_320 sh_249 rfl km_249 dX11_seen_58 ?_
            refine V.goto (tgt := 65) dX11_seen_61 rfl ?_
            cases hF
            exact V.iret dX11_seen_65
        · replace hF := (if_neg c).symm.trans hF
          refine V.iconst (v := -1) dX11_seen_35 rfl ?_
          cases hF
          exact V.iret dX11_seen_36
/-! MonsterCot$Ways.worthOf -/
theorem dX9_worthOf_0 : decode cX9_worthOf 0 = .ok (.aload_n 0, 1) := by decide +kernel
theorem dX9_worthOf_1 : decode cX9_worthOf 1 = .ok (.getfield 15, 3) := by decide +kernel
theorem dX9_worthOf_4 : decode cX9_worthOf 4 = .ok (.aload_n 0, 1) := by decide +kernel
theorem dX9_worthOf_5 : decode cX9_worthOf 5 = .ok (.getfield 9, 3) := by decide +kernel
theorem dX9_worthOf_8 : decode cX9_worthOf 8 = .ok (.iload_n 1, 1) := by decide +kernel
theorem dX9_worthOf_9 : decode cX9_worthOf 9 = .ok (.invokevirtual 42, 3) := by decide +kernel
theorem dX9_worthOf_12 : decode cX9_worthOf 12 = .ok (.iload_n 3, 1) := by decide +kernel
theorem dX9_worthOf_13 : decode cX9_worthOf 13 = .ok (.iload 4, 2) := by decide +kernel
theorem dX9_worthOf_15 : decode cX9_worthOf 15 = .ok (.iload_n 2, 1) := by decide +kernel
theorem dX9_worthOf_16 : decode cX9_worthOf 16 = .ok (.iload 5, 2) := by decide +kernel
theorem dX9_worthOf_18 : decode cX9_worthOf 18 = .ok (.iload 6, 2) := by decide +kernel
theorem dX9_worthOf_20 : decode cX9_worthOf 20 = .ok (.invokevirtual 45, 3) := by decide +kernel
theorem dX9_worthOf_23 : decode cX9_worthOf 23 = .ok (.ireturn, 1) := by decide +kernel
def X9_worthOf (n : Nat) (x1 : Int32) (x2 : Int32) (x3 : Int32) (x4 : Int32) (x5 : Int32) (x6 : Int32) (h : Mm) : Option (Int32 × Mm) := (bp (X1_calmingOf 13 x1 h) (fun r6 => (bd (X4_worthOf n r6 x3 x4 x2 x5 x6 h) (fun r8 h10 => (some (r8, h10))))))
set_option maxRecDepth 100000 in
set_option maxHeartbeats 4000000 in
theorem s_X9_worthOf {X : WX} {o : Mm} {n : Nat} {x1 : Int32} {x2 : Int32} {x3 : Int32} {x4 : Int32} {x5 : Int32} {x6 : Int32} {rv : Int32} {hz : Mm} {h : Mm} (hF : X9_worthOf n x1 x2 x3 x4 x5 x6 h = some (rv, hz)) : Sat X yX9_worthOf cX9_worthOf 7 (some .int) 4 [.ref (xa X 26), .int x1, .int x2, .int x3, .int x4, .int x5, .int x6] true o h (some (.int rv)) hz := by
  unfold X9_worthOf at hF
  refine Sat.mk (own := RX9) rfl (by decide +kernel) (Nat.le_of_ble_eq_true rfl) (fun G => ?_)
  refine V.sub (lv2 := [(0, _), (1, _), (2, _), (3, _), (4, _), (5, _), (6, _)]) [0, 1, 2, 3, 4, 5, 6] rfl ?_
  refine V.aload_n 0 dX9_worthOf_0 rfl rfl ?_
  refine V.getR (v := 16) fl_X9_15 sh_26 rfl fx_26_1 (by decide) dX9_worthOf_1 ?_
  refine V.aload_n 0 dX9_worthOf_4 rfl rfl ?_
  refine V.getR (v := 13) fl_X9_9 sh_26 rfl fx_26_0 (by decide) dX9_worthOf_5 ?_
  refine V.iload_n 1 dX9_worthOf_8 rfl rfl ?_
  obtain ⟨r6, hc7, hF⟩ := bp_s hF
  refine V.callVi mf_X1_calmingOf ml_X9_42 sh_13 (s_X1_calmingOf (Or.inr rfl) hc7) (by decide) rfl rfl (Nat.le_of_ble_eq_true rfl) dX9_worthOf_9 ?_
  refine V.iload_n 3 dX9_worthOf_12 rfl rfl ?_
  refine V.iload 4 dX9_worthOf_13 rfl ?_
  refine V.iload_n 2 dX9_worthOf_15 rfl rfl ?_
  refine V.iload 5 dX9_worthOf_16 rfl ?_
  refine V.iload 6 dX9_worthOf_18 rfl ?_
  obtain ⟨r8, h10, hc9, hF⟩ := bd_s hF
  refine V.callVi mf_X4_worthOf ml_X9_45 sh_16 (s_X4_worthOf hc9) (by decide) rfl rfl (Nat.le_of_ble_eq_true rfl) dX9_worthOf_20 ?_
  cases hF
  exact V.iret dX9_worthOf_23
/-! MonsterCot$Watch.calmBy -/
theorem dX8_calmBy_0 : decode cX8_calmBy 0 = .ok (.aload_n 0, 1) := by decide +kernel
theorem dX8_calmBy_1 : decode cX8_calmBy 1 = .ok (.getfield 25, 3) := by decide +kernel
theorem dX8_calmBy_4 : decode cX8_calmBy 4 = .ok (.iload_n 2, 1) := by decide +kernel
theorem dX8_calmBy_5 : decode cX8_calmBy 5 = .ok (.invokevirtual 38, 3) := by decide +kernel
theorem dX8_calmBy_8 : decode cX8_calmBy 8 = .ok (.iload_n 1, 1) := by decide +kernel
theorem dX8_calmBy_9 : decode cX8_calmBy 9 = .ok (.if_icmp .ne 7, 3) := by decide +kernel
theorem dX8_calmBy_12 : decode cX8_calmBy 12 = .ok (.iconst 3, 1) := by decide +kernel
theorem dX8_calmBy_13 : decode cX8_calmBy 13 = .ok (.goto 4, 3) := by decide +kernel
theorem dX8_calmBy_16 : decode cX8_calmBy 16 = .ok (.iconst 0, 1) := by decide +kernel
theorem dX8_calmBy_17 : decode cX8_calmBy 17 = .ok (.istore 5, 2) := by decide +kernel
theorem dX8_calmBy_19 : decode cX8_calmBy 19 = .ok (.aload_n 0, 1) := by decide +kernel
theorem dX8_calmBy_20 : decode cX8_calmBy 20 = .ok (.getfield 26, 3) := by decide +kernel
theorem dX8_calmBy_23 : decode cX8_calmBy 23 = .ok (.getfield 44, 3) := by decide +kernel
theorem dX8_calmBy_26 : decode cX8_calmBy 26 = .ok (.iload 4, 2) := by decide +kernel
theorem dX8_calmBy_28 : decode cX8_calmBy 28 = .ok (.invokestatic 49, 3) := by decide +kernel
theorem dX8_calmBy_31 : decode cX8_calmBy 31 = .ok (.istore 6, 2) := by decide +kernel
theorem dX8_calmBy_33 : decode cX8_calmBy 33 = .ok (.iconst 0, 1) := by decide +kernel
theorem dX8_calmBy_34 : decode cX8_calmBy 34 = .ok (.istore 7, 2) := by decide +kernel
theorem dX8_calmBy_36 : decode cX8_calmBy 36 = .ok (.iconst 0, 1) := by decide +kernel
theorem dX8_calmBy_37 : decode cX8_calmBy 37 = .ok (.istore 8, 2) := by decide +kernel
theorem dX8_calmBy_39 : decode cX8_calmBy 39 = .ok (.iload 8, 2) := by decide +kernel
theorem dX8_calmBy_41 : decode cX8_calmBy 41 = .ok (.iload_n 3, 1) := by decide +kernel
theorem dX8_calmBy_42 : decode cX8_calmBy 42 = .ok (.if_icmp .ge 45, 3) := by decide +kernel
theorem dX8_calmBy_45 : decode cX8_calmBy 45 = .ok (.aload_n 0, 1) := by decide +kernel
theorem dX8_calmBy_46 : decode cX8_calmBy 46 = .ok (.getfield 15, 3) := by decide +kernel
theorem dX8_calmBy_49 : decode cX8_calmBy 49 = .ok (.iload_n 2, 1) := by decide +kernel
theorem dX8_calmBy_50 : decode cX8_calmBy 50 = .ok (.iload 8, 2) := by decide +kernel
theorem dX8_calmBy_52 : decode cX8_calmBy 52 = .ok (.iload 6, 2) := by decide +kernel
theorem dX8_calmBy_54 : decode cX8_calmBy 54 = .ok (.iconst 0, 1) := by decide +kernel
theorem dX8_calmBy_55 : decode cX8_calmBy 55 = .ok (.iconst 0, 1) := by decide +kernel
theorem dX8_calmBy_56 : decode cX8_calmBy 56 = .ok (.iload 8, 2) := by decide +kernel
theorem dX8_calmBy_58 : decode cX8_calmBy 58 = .ok (.invokevirtual 53, 3) := by decide +kernel
theorem dX8_calmBy_61 : decode cX8_calmBy 61 = .ok (.iload 5, 2) := by decide +kernel
theorem dX8_calmBy_63 : decode cX8_calmBy 63 = .ok (.iadd, 1) := by decide +kernel
theorem dX8_calmBy_64 : decode cX8_calmBy 64 = .ok (.istore 9, 2) := by decide +kernel
theorem dX8_calmBy_66 : decode cX8_calmBy 66 = .ok (.iload 7, 2) := by decide +kernel
theorem dX8_calmBy_68 : decode cX8_calmBy 68 = .ok (.iload 9, 2) := by decide +kernel
theorem dX8_calmBy_70 : decode cX8_calmBy 70 = .ok (.bipush 20, 2) := by decide +kernel
theorem dX8_calmBy_72 : decode cX8_calmBy 72 = .ok (.invokestatic 57, 3) := by decide +kernel
theorem dX8_calmBy_75 : decode cX8_calmBy 75 = .ok (.iadd, 1) := by decide +kernel
theorem dX8_calmBy_76 : decode cX8_calmBy 76 = .ok (.invokestatic 63, 3) := by decide +kernel
theorem dX8_calmBy_79 : decode cX8_calmBy 79 = .ok (.istore 7, 2) := by decide +kernel
theorem dX8_calmBy_81 : decode cX8_calmBy 81 = .ok (.iinc 8 1, 3) := by decide +kernel
theorem dX8_calmBy_84 : decode cX8_calmBy 84 = .ok (.goto (-45), 3) := by decide +kernel
theorem dX8_calmBy_87 : decode cX8_calmBy 87 = .ok (.iload 7, 2) := by decide +kernel
theorem dX8_calmBy_89 : decode cX8_calmBy 89 = .ok (.ireturn, 1) := by decide +kernel
def X8_calmBy_39 (n : Nat) : Nat → Int32 → Int32 → Int32 → Int32 → Int32 → Int32 → Mm → Option (Int32 × Mm)
  | 0, _, _, _, _, _, _, _ => none
  | f + 1, x2, x3, x5, x6, x7, x8, h => (if x3 ≤ x8 then (some (x7, h)) else (bd (X9_worthOf n x2 x8 x6 (0) (0) x8 h) (fun r27 h29 => (bp (J9_min_7cf53 (r27 + x5) (20) h29) (fun r30 => (bp (X11_heldCalm (x7 + r30) h29) (fun r32 => ((X8_calmBy_39 n f) x2 x3 x5 x6 r32 (x8 + (1)) h29))))))))
set_option maxRecDepth 100000 in
set_option maxHeartbeats 4000000 in
theorem v_X8_calmBy_39 {X : WX} {G : GX} {o : Mm} {n : Nat} {rv : Int32} {hz : Mm} : ∀ (f : Nat) (x2 : Int32) (x3 : Int32) (x5 : Int32) (x6 : Int32) (x7 : Int32) (x8 : Int32) (h : Mm), X8_calmBy_39 n f x2 x3 x5 x6 x7 x8 h = some (rv, hz) → V X G RX8 cX8_calmBy 10 (some .int) 5 0 0 (QR X G true o (some (.int rv)) hz) true o 39 [(0, .ref (xa X 249)), (2, .int x2), (3, .int x3), (5, .int x5), (6, .int x6), (7, .int x7), (8, .int x8)] [] h := by
  intro f
  induction f with
  | zero => intro x2 x3 x5 x6 x7 x8 h hF; exact nomatch (show (none : Option (Int32 × Mm)) = some (rv, hz) from hF)
  | succ f ih =>
    intro x2 x3 x5 x6 x7 x8 h hF
    unfold X8_calmBy_39 at hF
    refine V.iload 6 dX8_calmBy_39 rfl ?_
    refine V.iload_n 2 dX8_calmBy_41 rfl rfl ?_
    refine V.icmp_ge (tgt := 87) dX8_calmBy_42 rfl (fun c => ?_) (fun c => ?_)
    · replace hF := (if_pos c).symm.trans hF
      refine V.iload 5 dX8_calmBy_87 rfl ?_
      cases hF
      exact V.iret dX8_calmBy_89
    · replace hF := (if_neg c).symm.trans hF
      refine V.aload_n 0 dX8_calmBy_45 rfl rfl ?_
      refine V.getR (v := 26) fl_X8_15 sh_249 rfl fx_249_0 (by decide) dX8_calmBy_46 ?_
      refine V.iload_n 1 dX8_calmBy_49 rfl rfl ?_
      refine V.iload 6 dX8_calmBy_50 rfl ?_
      refine V.iload 4 dX8_calmBy_52 rfl ?_
      refine V.iconst (v := 0) dX8_calmBy_54 rfl ?_
      refine V.iconst (v := 0) dX8_calmBy_55 rfl ?_
      refine V.iload 6 dX8_calmBy_56 rfl ?_
      obtain ⟨r27, h29, hc28, hF⟩ := bd_s hF
      refine V.callVi mf_X9_worthOf ml_X8_53 sh_26 (s_X9_worthOf hc28) (by decide) rfl rfl (Nat.le_of_ble_eq_true rfl) dX8_calmBy_58 ?_
      refine V.iload 3 dX8_calmBy_61 rfl ?_
      refine V.iadd dX8_calmBy_63 ?_
      refine V.istore [(9, _), (0, _), (2, _), (3, _), (5, _), (6, _), (7, _), (8, _)] dX8_calmBy_64 (by decide) rfl ?_
      refine V.iload 6 dX8_calmBy_66 rfl ?_
      refine V.iload 0 dX8_calmBy_68 rfl ?_
      refine V.bipush (v := 20) dX8_calmBy_70 (by decide) ?_
      obtain ⟨r30, hc31, hF⟩ := bp_s hF
      refine V.callSi mf_J9_min_7cf53 ml_X8_57 (s_J9_min_7cf53 hc31) (by decide) rfl rfl (Nat.le_of_ble_eq_true rfl) dX8_calmBy_72 ?_
      refine V.iadd dX8_calmBy_75 ?_
      obtain ⟨r32, hc33, hF⟩ := bp_s hF
      refine V.callNi mf_X11_heldCalm ml_X8_63 (s_X11_heldCalm hc33) (by decide) rfl rfl (Nat.le_of_ble_eq_true rfl) dX8_calmBy_76 ?_
      refine V.istore [(7, _), (9, _), (0, _), (2, _), (3, _), (5, _), (6, _), (8, _)] dX8_calmBy_79 (by decide) rfl ?_
      refine V.iinc (v := (x8 + (1))) 7 [(8, _), (7, _), (9, _), (0, _), (2, _), (3, _), (5, _), (6, _)] dX8_calmBy_81 rfl rfl (by decide) rfl ?_
      refine V.goto (tgt := 39) dX8_calmBy_84 rfl ?_
      exact V.sub [3, 4, 5, 6, 7, 1, 0] rfl (ih _ _ _ _ _ _ _ hF)
def X8_calmBy_17 (n : Nat) (x2 : Int32) (x3 : Int32) (x4 : Int32) (s0 : Int32) (h : Mm) : Option (Int32 × Mm) := (bp (X11_at 30 x4 h) (fun r34 => (X8_calmBy_39 n n x2 x3 s0 r34 (0) (0) h)))
set_option maxRecDepth 100000 in
set_option maxHeartbeats 4000000 in
theorem v_X8_calmBy_17 {X : WX} {G : GX} {o : Mm} {n : Nat} {rv : Int32} {hz : Mm} {x2 : Int32} {x3 : Int32} {x4 : Int32} {s0 : Int32} {h : Mm} (hF : X8_calmBy_17 n x2 x3 x4 s0 h = some (rv, hz)) : V X G RX8 cX8_calmBy 10 (some .int) 5 0 0 (QR X G true o (some (.int rv)) hz) true o 17 [(0, .ref (xa X 249)), (2, .int x2), (3, .int x3), (4, .int x4)] [.int s0] h := by
  unfold X8_calmBy_17 at hF
  refine V.istore [(5, _), (0, _), (2, _), (3, _), (4, _)] dX8_calmBy_17 (by decide) rfl ?_
  refine V.aload_n 1 dX8_calmBy_19 rfl rfl ?_
  refine V.getR (v := 27) fl_X8_26 sh_249 rfl fx_249_2 (by decide) dX8_calmBy_20 ?_
  refine V.getR (v := 30) fl_X8_44 sh_27 rfl fx_27_2 (by decide) dX8_calmBy_23 ?_
  refine V.iload 4 dX8_calmBy_26 rfl ?_
  obtain ⟨r34, hc35, hF⟩ := bp_s hF
  refine V.callNi mf_X11_at ml_X8_49 (s_X11_at (Or.inl io_30) hc35) (by decide) rfl rfl (Nat.le_of_ble_eq_true rfl) dX8_calmBy_28 ?_
  refine V.istore [(6, _), (5, _), (0, _), (2, _), (3, _), (4, _)] dX8_calmBy_31 (by decide) rfl ?_
  refine V.iconst (v := 0) dX8_calmBy_33 rfl ?_
  refine V.istore [(7, _), (6, _), (5, _), (0, _), (2, _), (3, _), (4, _)] dX8_calmBy_34 (by decide) rfl ?_
  refine V.iconst (v := 0) dX8_calmBy_36 rfl ?_
  refine V.istore [(8, _), (7, _), (6, _), (5, _), (0, _), (2, _), (3, _), (4, _)] dX8_calmBy_37 (by decide) rfl ?_
  exact V.sub [4, 5, 6, 3, 2, 1, 0] rfl (v_X8_calmBy_39 n _ _ _ _ _ _ _ hF)
def X8_calmBy (n : Nat) (x1 : Int32) (x2 : Int32) (x3 : Int32) (x4 : Int32) (h : Mm) : Option (Int32 × Mm) := (bp (X1_kindOf 13 x2 h) (fun r36 => (if r36 = x1 then (X8_calmBy_17 n x2 x3 x4 (3) h) else (X8_calmBy_17 n x2 x3 x4 (0) h))))
set_option maxRecDepth 100000 in
set_option maxHeartbeats 4000000 in
theorem s_X8_calmBy {X : WX} {o : Mm} {n : Nat} {x1 : Int32} {x2 : Int32} {x3 : Int32} {x4 : Int32} {rv : Int32} {hz : Mm} {h : Mm} (hF : X8_calmBy n x1 x2 x3 x4 h = some (rv, hz)) : Sat X yX8_calmBy cX8_calmBy 10 (some .int) 5 [.ref (xa X 249), .int x1, .int x2, .int x3, .int x4] true o h (some (.int rv)) hz := by
  unfold X8_calmBy at hF
  refine Sat.mk (own := RX8) rfl (by decide +kernel) (Nat.le_of_ble_eq_true rfl) (fun G => ?_)
  refine V.sub (lv2 := [(0, _), (1, _), (2, _), (3, _), (4, _)]) [0, 1, 2, 3, 4] rfl ?_
  refine V.aload_n 0 dX8_calmBy_0 rfl rfl ?_
  refine V.getR (v := 13) fl_X8_25 sh_249 rfl fx_249_1 (by decide) dX8_calmBy_1 ?_
  refine V.iload_n 2 dX8_calmBy_4 rfl rfl ?_
  obtain ⟨r36, hc37, hF⟩ := bp_s hF
  refine V.callVi mf_X1_kindOf ml_X8_38 sh_13 (s_X1_kindOf (Or.inr rfl) hc37) (by decide) rfl rfl (Nat.le_of_ble_eq_true rfl) dX8_calmBy_5 ?_
  refine V.iload_n 1 dX8_calmBy_8 rfl rfl ?_
  refine V.icmp_ne (tgt := 16) dX8_calmBy_9 rfl (fun c => ?_) (fun c => ?_)
  · replace hF := (if_neg c).symm.trans hF
    refine V.iconst (v := 0) dX8_calmBy_16 rfl ?_
    exact V.sub [0, 2, 3, 4] rfl (v_X8_calmBy_17 hF)
  · replace hF := (if_pos c).symm.trans hF
    refine V.iconst (v := 3) dX8_calmBy_12 rfl ?_
    refine V.goto (tgt := 17) dX8_calmBy_13 rfl ?_
    exact V.sub [0, 2, 3, 4] rfl (v_X8_calmBy_17 hF)
/-! MonsterCot$Watch.fits -/
theorem dX8_fits_0 : decode cX8_fits 0 = .ok (.iconst 0, 1) := by decide +kernel
theorem dX8_fits_1 : decode cX8_fits 1 = .ok (.istore_n 2, 1) := by decide +kernel
theorem dX8_fits_2 : decode cX8_fits 2 = .ok (.iload_n 2, 1) := by decide +kernel
theorem dX8_fits_3 : decode cX8_fits 3 = .ok (.aload_n 0, 1) := by decide +kernel
theorem dX8_fits_4 : decode cX8_fits 4 = .ok (.getfield 30, 3) := by decide +kernel
theorem dX8_fits_7 : decode cX8_fits 7 = .ok (.if_icmp .ge 91, 3) := by decide +kernel
theorem dX8_fits_10 : decode cX8_fits 10 = .ok (.iload_n 2, 1) := by decide +kernel
theorem dX8_fits_11 : decode cX8_fits 11 = .ok (.iconst 5, 1) := by decide +kernel
theorem dX8_fits_12 : decode cX8_fits 12 = .ok (.imul, 1) := by decide +kernel
theorem dX8_fits_13 : decode cX8_fits 13 = .ok (.istore_n 3, 1) := by decide +kernel
theorem dX8_fits_14 : decode cX8_fits 14 = .ok (.aload_n 0, 1) := by decide +kernel
theorem dX8_fits_15 : decode cX8_fits 15 = .ok (.iload_n 1, 1) := by decide +kernel
theorem dX8_fits_16 : decode cX8_fits 16 = .ok (.aload_n 0, 1) := by decide +kernel
theorem dX8_fits_17 : decode cX8_fits 17 = .ok (.getfield 11, 3) := by decide +kernel
theorem dX8_fits_20 : decode cX8_fits 20 = .ok (.iload_n 3, 1) := by decide +kernel
theorem dX8_fits_21 : decode cX8_fits 21 = .ok (.invokestatic 49, 3) := by decide +kernel
theorem dX8_fits_24 : decode cX8_fits 24 = .ok (.aload_n 0, 1) := by decide +kernel
theorem dX8_fits_25 : decode cX8_fits 25 = .ok (.getfield 11, 3) := by decide +kernel
theorem dX8_fits_28 : decode cX8_fits 28 = .ok (.iload_n 3, 1) := by decide +kernel
theorem dX8_fits_29 : decode cX8_fits 29 = .ok (.iconst 1, 1) := by decide +kernel
theorem dX8_fits_30 : decode cX8_fits 30 = .ok (.iadd, 1) := by decide +kernel
theorem dX8_fits_31 : decode cX8_fits 31 = .ok (.invokestatic 49, 3) := by decide +kernel
theorem dX8_fits_34 : decode cX8_fits 34 = .ok (.aload_n 0, 1) := by decide +kernel
theorem dX8_fits_35 : decode cX8_fits 35 = .ok (.getfield 11, 3) := by decide +kernel
theorem dX8_fits_38 : decode cX8_fits 38 = .ok (.iload_n 3, 1) := by decide +kernel
theorem dX8_fits_39 : decode cX8_fits 39 = .ok (.iconst 2, 1) := by decide +kernel
theorem dX8_fits_40 : decode cX8_fits 40 = .ok (.iadd, 1) := by decide +kernel
theorem dX8_fits_41 : decode cX8_fits 41 = .ok (.invokestatic 49, 3) := by decide +kernel
theorem dX8_fits_44 : decode cX8_fits 44 = .ok (.invokevirtual 66, 3) := by decide +kernel
theorem dX8_fits_47 : decode cX8_fits 47 = .ok (.istore 4, 2) := by decide +kernel
theorem dX8_fits_49 : decode cX8_fits 49 = .ok (.iload 4, 2) := by decide +kernel
theorem dX8_fits_51 : decode cX8_fits 51 = .ok (.aload_n 0, 1) := by decide +kernel
theorem dX8_fits_52 : decode cX8_fits 52 = .ok (.getfield 11, 3) := by decide +kernel
theorem dX8_fits_55 : decode cX8_fits 55 = .ok (.iload_n 3, 1) := by decide +kernel
theorem dX8_fits_56 : decode cX8_fits 56 = .ok (.iconst 3, 1) := by decide +kernel
theorem dX8_fits_57 : decode cX8_fits 57 = .ok (.iadd, 1) := by decide +kernel
theorem dX8_fits_58 : decode cX8_fits 58 = .ok (.invokestatic 49, 3) := by decide +kernel
theorem dX8_fits_61 : decode cX8_fits 61 = .ok (.if_icmp .lt 7, 3) := by decide +kernel
theorem dX8_fits_64 : decode cX8_fits 64 = .ok (.iconst 1, 1) := by decide +kernel
theorem dX8_fits_65 : decode cX8_fits 65 = .ok (.goto 4, 3) := by decide +kernel
theorem dX8_fits_68 : decode cX8_fits 68 = .ok (.iconst 0, 1) := by decide +kernel
theorem dX8_fits_69 : decode cX8_fits 69 = .ok (.aload_n 0, 1) := by decide +kernel
theorem dX8_fits_70 : decode cX8_fits 70 = .ok (.getfield 11, 3) := by decide +kernel
theorem dX8_fits_73 : decode cX8_fits 73 = .ok (.iload_n 3, 1) := by decide +kernel
theorem dX8_fits_74 : decode cX8_fits 74 = .ok (.iconst 4, 1) := by decide +kernel
theorem dX8_fits_75 : decode cX8_fits 75 = .ok (.iadd, 1) := by decide +kernel
theorem dX8_fits_76 : decode cX8_fits 76 = .ok (.invokestatic 49, 3) := by decide +kernel
theorem dX8_fits_79 : decode cX8_fits 79 = .ok (.ifCond .eq 7, 3) := by decide +kernel
theorem dX8_fits_82 : decode cX8_fits 82 = .ok (.iconst 1, 1) := by decide +kernel
theorem dX8_fits_83 : decode cX8_fits 83 = .ok (.goto 4, 3) := by decide +kernel
theorem dX8_fits_86 : decode cX8_fits 86 = .ok (.iconst 0, 1) := by decide +kernel
theorem dX8_fits_87 : decode cX8_fits 87 = .ok (.if_icmp .eq 5, 3) := by decide +kernel
theorem dX8_fits_90 : decode cX8_fits 90 = .ok (.iconst 0, 1) := by decide +kernel
theorem dX8_fits_91 : decode cX8_fits 91 = .ok (.ireturn, 1) := by decide +kernel
theorem dX8_fits_92 : decode cX8_fits 92 = .ok (.iinc 2 1, 3) := by decide +kernel
theorem dX8_fits_95 : decode cX8_fits 95 = .ok (.goto (-93), 3) := by decide +kernel
theorem dX8_fits_98 : decode cX8_fits 98 = .ok (.iconst 1, 1) := by decide +kernel
theorem dX8_fits_99 : decode cX8_fits 99 = .ok (.ireturn, 1) := by decide +kernel
def X8_fits_87 (n : Nat) (K2 : Int32 → Int32 → Mm → Option (Bool × Mm)) (x1 : Int32) (x2 : Int32) (s0 : Bool) (s1 : Bool) (h : Mm) : Option (Bool × Mm) := (if (b2i s0) = (b2i s1) then (K2 x1 (x2 + (1)) h) else (some (false, h)))
set_option maxRecDepth 100000 in
set_option maxHeartbeats 4000000 in
theorem v_X8_fits_87 {X : WX} {G : GX} {o : Mm} {n : Nat} {K2 : Int32 → Int32 → Mm → Option (Bool × Mm)} {rv : Bool} {hz : Mm} (hK2 : ∀ (x1 : Int32) (x2 : Int32) (h : Mm), K2 x1 x2 h = some (rv, hz) → V X G RX8 cX8_fits 5 (some .boolean) 6 0 0 (QR X G true o (some (.int (b2i rv))) hz) true o 2 [(0, .ref (xa X 249)), (1, .int x1), (2, .int x2)] [] h) {x1 : Int32} {x2 : Int32} {s0 : Bool} {s1 : Bool} {h : Mm} (hF : X8_fits_87 n K2 x1 x2 s0 s1 h = some (rv, hz)) : V X G RX8 cX8_fits 5 (some .boolean) 6 0 0 (QR X G true o (some (.int (b2i rv))) hz) true o 87 [(0, .ref (xa X 249)), (1, .int x1), (2, .int x2)] [.int (b2i s1), .int (b2i s0)] h := by
  unfold X8_fits_87 at hF
  refine V.icmp_eq (tgt := 92) dX8_fits_87 rfl (fun c => ?_) (fun c => ?_)
  · replace hF := (if_pos c).symm.trans hF
    refine V.iinc (v := (x2 + (1))) 2 [(2, _), (0, _), (1, _)] dX8_fits_92 rfl rfl (by decide) rfl ?_
    refine V.goto (tgt := 2) dX8_fits_95 rfl ?_
    exact V.sub [1, 2, 0] rfl (hK2 _ _ _ hF)
  · replace hF := (if_neg c).symm.trans hF
    refine V.iconst (v := 0) dX8_fits_90 rfl ?_
    cases hF
    exact V.bret dX8_fits_91
def X8_fits_69 (n : Nat) (K2 : Int32 → Int32 → Mm → Option (Bool × Mm)) (x1 : Int32) (x2 : Int32) (x3 : Int32) (s0 : Bool) (h : Mm) : Option (Bool × Mm) := (bp (X11_at 250 (x3 + (4)) h) (fun r64 => (if r64 = 0 then (X8_fits_87 n K2 x1 x2 s0 false h) else (X8_fits_87 n K2 x1 x2 s0 true h))))
set_option maxRecDepth 100000 in
set_option maxHeartbeats 4000000 in
theorem v_X8_fits_69 {X : WX} {G : GX} {o : Mm} {n : Nat} {K2 : Int32 → Int32 → Mm → Option (Bool × Mm)} {rv : Bool} {hz : Mm} (hK2 : ∀ (x1 : Int32) (x2 : Int32) (h : Mm), K2 x1 x2 h = some (rv, hz) → V X G RX8 cX8_fits 5 (some .boolean) 6 0 0 (QR X G true o (some (.int (b2i rv))) hz) true o 2 [(0, .ref (xa X 249)), (1, .int x1), (2, .int x2)] [] h) {x1 : Int32} {x2 : Int32} {x3 : Int32} {s0 : Bool} {h : Mm} (hF : X8_fits_69 n K2 x1 x2 x3 s0 h = some (rv, hz)) : V X G RX8 cX8_fits 5 (some .boolean) 6 0 0 (QR X G true o (some (.int (b2i rv))) hz) true o 69 [(0, .ref (xa X 249)), (1, .int x1), (2, .int x2), (3, .int x3)] [.int (b2i s0)] h := by
  unfold X8_fits_69 at hF
  refine V.aload_n 0 dX8_fits_69 rfl rfl ?_
  refine V.getR (v := 250) fl_X8_11 sh_249 rfl fx_249_3 (by decide) dX8_fits_70 ?_
  refine V.iload_n 3 dX8_fits_73 rfl rfl ?_
  refine V.iconst (v := 4) dX8_fits_74 rfl ?_
  refine V.iadd dX8_fits_75 ?_
  obtain ⟨r64, hc65, hF⟩ := bp_s hF
  refine V.callNi mf_X11_at ml_X8_49 (s_X11_at (Or.inl io_250) hc65) (by decide) rfl rfl (Nat.le_of_ble_eq_true rfl) dX8_fits_76 ?_
  refine V.if_eq (tgt := 86) dX8_fits_79 rfl (fun c => ?_) (fun c => ?_)
  · replace hF := (if_pos c).symm.trans hF
    refine V.iconst (v := 0) dX8_fits_86 rfl ?_
    exact V.sub [0, 1, 2] rfl (v_X8_fits_87 hK2 hF)
  · replace hF := (if_neg c).symm.trans hF
    refine V.iconst (v := 1) dX8_fits_82 rfl ?_
    refine V.goto (tgt := 87) dX8_fits_83 rfl ?_
    exact V.sub [0, 1, 2] rfl (v_X8_fits_87 hK2 hF)
def X8_fits_2 (n : Nat) : Nat → Int32 → Int32 → Mm → Option (Bool × Mm)
  | 0, _, _, _ => none
  | f + 1, x1, x2, h => (if (h.1 249 4) ≤ x2 then (some (true, h)) else (bp (X11_at 250 (x2 * (5)) h) (fun r66 => (bp (X11_at 250 ((x2 * (5)) + (1)) h) (fun r68 => (bp (X11_at 250 ((x2 * (5)) + (2)) h) (fun r70 => (bd (X8_calmBy n x1 r66 r68 r70 h) (fun r72 h74 => (bp (X11_at 250 ((x2 * (5)) + (3)) h74) (fun r75 => (if r72 < r75 then (X8_fits_69 n (X8_fits_2 n f) x1 x2 (x2 * (5)) false h74) else (X8_fits_69 n (X8_fits_2 n f) x1 x2 (x2 * (5)) true h74)))))))))))))
set_option maxRecDepth 100000 in
set_option maxHeartbeats 4000000 in
theorem v_X8_fits_2 {X : WX} {G : GX} {o : Mm} {n : Nat} {rv : Bool} {hz : Mm} : ∀ (f : Nat) (x1 : Int32) (x2 : Int32) (h : Mm), X8_fits_2 n f x1 x2 h = some (rv, hz) → V X G RX8 cX8_fits 5 (some .boolean) 6 0 0 (QR X G true o (some (.int (b2i rv))) hz) true o 2 [(0, .ref (xa X 249)), (1, .int x1), (2, .int x2)] [] h := by
  intro f
  induction f with
  | zero => intro x1 x2 h hF; exact nomatch (show (none : Option (Bool × Mm)) = some (rv, hz) from hF)
  | succ f ih =>
    intro x1 x2 h hF
    unfold X8_fits_2 at hF
    refine V.iload_n 2 dX8_fits_2 rfl rfl ?_
    refine V.aload_n 0 dX8_fits_3 rfl rfl ?_
    refine V.getI fl_X8_30 sh_249 rfl km_249 dX8_fits_4 ?_
    refine V.icmp_ge (tgt := 98) dX8_fits_7 rfl (fun c => ?_) (fun c => ?_)
    · replace hF := (if_pos c).symm.trans hF
      refine V.iconst (v := 1) dX8_fits_98 rfl ?_
      cases hF
      exact V.bret dX8_fits_99
    · replace hF := (if_neg c).symm.trans hF
      refine V.iload_n 2 dX8_fits_10 rfl rfl ?_
      refine V.iconst (v := 5) dX8_fits_11 rfl ?_
      refine V.imul dX8_fits_12 ?_
      refine V.istore_n [(3, _), (0, _), (1, _), (2, _)] dX8_fits_13 rfl (by decide) rfl ?_
      refine V.aload_n 1 dX8_fits_14 rfl rfl ?_
      refine V.iload_n 2 dX8_fits_15 rfl rfl ?_
      refine V.aload_n 1 dX8_fits_16 rfl rfl ?_
      refine V.getR (v := 250) fl_X8_11 sh_249 rfl fx_249_3 (by decide) dX8_fits_17 ?_
      refine V.iload_n 0 dX8_fits_20 rfl rfl ?_
      obtain ⟨r66, hc67, hF⟩ := bp_s hF
      refine V.callNi mf_X11_at ml_X8_49 (s_X11_at (Or.inl io_250) hc67) (by decide) rfl rfl (Nat.le_of_ble_eq_true rfl) dX8_fits_21 ?_
      refine V.aload_n 1 dX8_fits_24 rfl rfl ?_
      refine V.getR (v := 250) fl_X8_11 sh_249 rfl fx_249_3 (by decide) dX8_fits_25 ?_
      refine V.iload_n 0 dX8_fits_28 rfl rfl ?_
      refine V.iconst (v := 1) dX8_fits_29 rfl ?_
      refine V.iadd dX8_fits_30 ?_
      obtain ⟨r68, hc69, hF⟩ := bp_s hF
      refine V.callNi mf_X11_at ml_X8_49 (s_X11_at (Or.inl io_250) hc69) (by decide) rfl rfl (Nat.le_of_ble_eq_true rfl) dX8_fits_31 ?_
      refine V.aload_n 1 dX8_fits_34 rfl rfl ?_
      refine V.getR (v := 250) fl_X8_11 sh_249 rfl fx_249_3 (by decide) dX8_fits_35 ?_
      refine V.iload_n 0 dX8_fits_38 rfl rfl ?_
      refine V.iconst (v := 2) dX8_fits_39 rfl ?_
      refine V.iadd dX8_fits_40 ?_
      obtain ⟨r70, hc71, hF⟩ := bp_s hF
      refine V.callNi mf_X11_at ml_X8_49 (s_X11_at (Or.inl io_250) hc71) (by decide) rfl rfl (Nat.le_of_ble_eq_true rfl) dX8_fits_41 ?_
      obtain ⟨r72, h74, hc73, hF⟩ := bd_s hF
      refine V.callVi mf_X8_calmBy ml_X8_66 sh_249 (s_X8_calmBy hc73) (by decide) rfl rfl (Nat.le_of_ble_eq_true rfl) dX8_fits_44 ?_
      refine V.istore [(4, _), (3, _), (0, _), (1, _), (2, _)] dX8_fits_47 (by decide) rfl ?_
      refine V.iload 0 dX8_fits_49 rfl ?_
      refine V.aload_n 2 dX8_fits_51 rfl rfl ?_
      refine V.getR (v := 250) fl_X8_11 sh_249 rfl fx_249_3 (by decide) dX8_fits_52 ?_
      refine V.iload_n 1 dX8_fits_55 rfl rfl ?_
      refine V.iconst (v := 3) dX8_fits_56 rfl ?_
      refine V.iadd dX8_fits_57 ?_
      obtain ⟨r75, hc76, hF⟩ := bp_s hF
      refine V.callNi mf_X11_at ml_X8_49 (s_X11_at (Or.inl io_250) hc76) (by decide) rfl rfl (Nat.le_of_ble_eq_true rfl) dX8_fits_58 ?_
      refine V.icmp_lt (tgt := 68) dX8_fits_61 rfl (fun c => ?_) (fun c => ?_)
      · replace hF := (if_pos c).symm.trans hF
        refine V.iconst (v := 0) dX8_fits_68 rfl ?_
        exact V.sub [2, 3, 4, 1] rfl (v_X8_fits_69 ih hF)
      · replace hF := (if_neg c).symm.trans hF
        refine V.iconst (v := 1) dX8_fits_64 rfl ?_
        refine V.goto (tgt := 69) dX8_fits_65 rfl ?_
        exact V.sub [2, 3, 4, 1] rfl (v_X8_fits_69 ih hF)
def X8_fits (n : Nat) (x1 : Int32) (h : Mm) : Option (Bool × Mm) := (X8_fits_2 n n x1 (0) h)
set_option maxRecDepth 100000 in
set_option maxHeartbeats 4000000 in
theorem s_X8_fits {X : WX} {o : Mm} {n : Nat} {x1 : Int32} {rv : Bool} {hz : Mm} {h : Mm} (hF : X8_fits n x1 h = some (rv, hz)) : Sat X yX8_fits cX8_fits 5 (some .boolean) 6 [.ref (xa X 249), .int x1] true o h (some (.int (b2i rv))) hz := by
  unfold X8_fits at hF
  refine Sat.mk (own := RX8) rfl (by decide +kernel) (Nat.le_of_ble_eq_true rfl) (fun G => ?_)
  refine V.sub (lv2 := [(0, _), (1, _)]) [0, 1] rfl ?_
  refine V.iconst (v := 0) dX8_fits_0 rfl ?_
  refine V.istore_n [(2, _), (0, _), (1, _)] dX8_fits_1 rfl (by decide) rfl ?_
  exact V.sub [1, 2, 0] rfl (v_X8_fits_2 n _ _ _ hF)
/-! MonsterCot$Watch.liked -/
theorem dX8_liked_0 : decode cX8_liked 0 = .ok (.iconst 0, 1) := by decide +kernel
theorem dX8_liked_1 : decode cX8_liked 1 = .ok (.istore_n 2, 1) := by decide +kernel
theorem dX8_liked_2 : decode cX8_liked 2 = .ok (.getstatic 70, 3) := by decide +kernel
theorem dX8_liked_5 : decode cX8_liked 5 = .ok (.astore_n 3, 1) := by decide +kernel
theorem dX8_liked_6 : decode cX8_liked 6 = .ok (.aload_n 3, 1) := by decide +kernel
theorem dX8_liked_7 : decode cX8_liked 7 = .ok (.arraylength, 1) := by decide +kernel
theorem dX8_liked_8 : decode cX8_liked 8 = .ok (.istore 4, 2) := by decide +kernel
theorem dX8_liked_10 : decode cX8_liked 10 = .ok (.iconst 0, 1) := by decide +kernel
theorem dX8_liked_11 : decode cX8_liked 11 = .ok (.istore 5, 2) := by decide +kernel
theorem dX8_liked_13 : decode cX8_liked 13 = .ok (.iload 5, 2) := by decide +kernel
theorem dX8_liked_15 : decode cX8_liked 15 = .ok (.iload 4, 2) := by decide +kernel
theorem dX8_liked_17 : decode cX8_liked 17 = .ok (.if_icmp .ge 35, 3) := by decide +kernel
theorem dX8_liked_20 : decode cX8_liked 20 = .ok (.aload_n 3, 1) := by decide +kernel
theorem dX8_liked_21 : decode cX8_liked 21 = .ok (.iload 5, 2) := by decide +kernel
theorem dX8_liked_23 : decode cX8_liked 23 = .ok (.iaload, 1) := by decide +kernel
theorem dX8_liked_24 : decode cX8_liked 24 = .ok (.istore 6, 2) := by decide +kernel
theorem dX8_liked_26 : decode cX8_liked 26 = .ok (.aload_n 0, 1) := by decide +kernel
theorem dX8_liked_27 : decode cX8_liked 27 = .ok (.iload 6, 2) := by decide +kernel
theorem dX8_liked_29 : decode cX8_liked 29 = .ok (.invokevirtual 73, 3) := by decide +kernel
theorem dX8_liked_32 : decode cX8_liked 32 = .ok (.ifCond .eq 14, 3) := by decide +kernel
theorem dX8_liked_35 : decode cX8_liked 35 = .ok (.iload_n 2, 1) := by decide +kernel
theorem dX8_liked_36 : decode cX8_liked 36 = .ok (.iload_n 1, 1) := by decide +kernel
theorem dX8_liked_37 : decode cX8_liked 37 = .ok (.if_icmp .ne 6, 3) := by decide +kernel
theorem dX8_liked_40 : decode cX8_liked 40 = .ok (.iload 6, 2) := by decide +kernel
theorem dX8_liked_42 : decode cX8_liked 42 = .ok (.ireturn, 1) := by decide +kernel
theorem dX8_liked_43 : decode cX8_liked 43 = .ok (.iinc 2 1, 3) := by decide +kernel
theorem dX8_liked_46 : decode cX8_liked 46 = .ok (.iinc 5 1, 3) := by decide +kernel
theorem dX8_liked_49 : decode cX8_liked 49 = .ok (.goto (-36), 3) := by decide +kernel
theorem dX8_liked_52 : decode cX8_liked 52 = .ok (.iload_n 1, 1) := by decide +kernel
theorem dX8_liked_53 : decode cX8_liked 53 = .ok (.iconst (-1), 1) := by decide +kernel
theorem dX8_liked_54 : decode cX8_liked 54 = .ok (.if_icmp .ne 7, 3) := by decide +kernel
theorem dX8_liked_57 : decode cX8_liked 57 = .ok (.iload_n 2, 1) := by decide +kernel
theorem dX8_liked_58 : decode cX8_liked 58 = .ok (.goto 4, 3) := by decide +kernel
theorem dX8_liked_61 : decode cX8_liked 61 = .ok (.iconst (-1), 1) := by decide +kernel
theorem dX8_liked_62 : decode cX8_liked 62 = .ok (.ireturn, 1) := by decide +kernel
def X8_liked_46 (n : Nat) (K13 : Int32 → Int32 → Int32 → Int32 → Mm → Option (Int32 × Mm)) (x1 : Int32) (x2 : Int32) (x4 : Int32) (x5 : Int32) (h : Mm) : Option (Int32 × Mm) := (K13 x1 x2 x4 (x5 + (1)) h)
set_option maxRecDepth 100000 in
set_option maxHeartbeats 4000000 in
theorem v_X8_liked_46 {X : WX} {G : GX} {o : Mm} {n : Nat} {K13 : Int32 → Int32 → Int32 → Int32 → Mm → Option (Int32 × Mm)} {rv : Int32} {hz : Mm} (hK13 : ∀ (x1 : Int32) (x2 : Int32) (x4 : Int32) (x5 : Int32) (h : Mm), K13 x1 x2 x4 x5 h = some (rv, hz) → V X G RX8 cX8_liked 7 (some .int) 7 0 0 (QR X G true o (some (.int rv)) hz) true o 13 [(0, .ref (xa X 249)), (1, .int x1), (2, .int x2), (3, .ref (xa X 1007)), (4, .int x4), (5, .int x5)] [] h) {x1 : Int32} {x2 : Int32} {x4 : Int32} {x5 : Int32} {h : Mm} (hF : X8_liked_46 n K13 x1 x2 x4 x5 h = some (rv, hz)) : V X G RX8 cX8_liked 7 (some .int) 7 0 0 (QR X G true o (some (.int rv)) hz) true o 46 [(0, .ref (xa X 249)), (1, .int x1), (2, .int x2), (3, .ref (xa X 1007)), (4, .int x4), (5, .int x5)] [] h := by
  unfold X8_liked_46 at hF
  refine V.iinc (v := (x5 + (1))) 5 [(5, _), (0, _), (1, _), (2, _), (3, _), (4, _)] dX8_liked_46 rfl rfl (by decide) rfl ?_
  refine V.goto (tgt := 13) dX8_liked_49 rfl ?_
  exact V.sub [1, 2, 3, 4, 5, 0] rfl (hK13 _ _ _ _ _ hF)
def X8_liked_13 (n : Nat) : Nat → Int32 → Int32 → Int32 → Int32 → Mm → Option (Int32 × Mm)
  | 0, _, _, _, _, _ => none
  | f + 1, x1, x2, x4, x5, h => (if x4 ≤ x5 then (if x1 = (-1) then (some (x2, h)) else (some ((-1), h))) else (if inB x5 (aln 1007) then (bd (X8_fits n (rdA h 1007 x5.toNatClampNeg) h) (fun r13 h15 => (if r13 = true then (if x2 = x1 then (some ((rdA h 1007 x5.toNatClampNeg), h15)) else (X8_liked_46 n (X8_liked_13 n f) x1 (x2 + (1)) x4 x5 h15)) else (X8_liked_46 n (X8_liked_13 n f) x1 x2 x4 x5 h15)))) else none))
set_option maxRecDepth 100000 in
set_option maxHeartbeats 4000000 in
theorem v_X8_liked_13 {X : WX} {G : GX} {o : Mm} {n : Nat} {rv : Int32} {hz : Mm} : ∀ (f : Nat) (x1 : Int32) (x2 : Int32) (x4 : Int32) (x5 : Int32) (h : Mm), X8_liked_13 n f x1 x2 x4 x5 h = some (rv, hz) → V X G RX8 cX8_liked 7 (some .int) 7 0 0 (QR X G true o (some (.int rv)) hz) true o 13 [(0, .ref (xa X 249)), (1, .int x1), (2, .int x2), (3, .ref (xa X 1007)), (4, .int x4), (5, .int x5)] [] h := by
  intro f
  induction f with
  | zero => intro x1 x2 x4 x5 h hF; exact nomatch (show (none : Option (Int32 × Mm)) = some (rv, hz) from hF)
  | succ f ih =>
    intro x1 x2 x4 x5 h hF
    unfold X8_liked_13 at hF
    refine V.iload 5 dX8_liked_13 rfl ?_
    refine V.iload 4 dX8_liked_15 rfl ?_
    refine V.icmp_ge (tgt := 52) dX8_liked_17 rfl (fun c => ?_) (fun c => ?_)
    · replace hF := (if_pos c).symm.trans hF
      refine V.iload_n 1 dX8_liked_52 rfl rfl ?_
      refine V.iconst (v := -1) dX8_liked_53 rfl ?_
      refine V.icmp_ne (tgt := 61) dX8_liked_54 rfl (fun c => ?_) (fun c => ?_)
      · replace hF := (if_neg c).symm.trans hF
        refine V.iconst (v := -1) dX8_liked_61 rfl ?_
        cases hF
        exact V.iret dX8_liked_62
      · replace hF := (if_pos c).symm.trans hF
        refine V.iload_n 2 dX8_liked_57 rfl rfl ?_
        refine V.goto (tgt := 62) dX8_liked_58 rfl ?_
        cases hF
        exact V.iret dX8_liked_62
    · replace hF := (if_neg c).symm.trans hF
      refine V.aload_n 3 dX8_liked_20 rfl rfl ?_
      refine V.iload 5 dX8_liked_21 rfl ?_
      obtain ⟨hk, hF⟩ := ck hF
      refine V.ialdA (Or.inr ⟨by decide, by decide⟩) hk dX8_liked_23 ?_
      refine V.istore [(6, _), (0, _), (1, _), (2, _), (3, _), (4, _), (5, _)] dX8_liked_24 (by decide) rfl ?_
      refine V.aload_n 1 dX8_liked_26 rfl rfl ?_
      refine V.iload 0 dX8_liked_27 rfl ?_
      obtain ⟨r13, h15, hc14, hF⟩ := bd_s hF
      refine V.callVi mf_X8_fits ml_X8_73 sh_249 (s_X8_fits hc14) (by decide) rfl rfl (Nat.le_of_ble_eq_true rfl) dX8_liked_29 ?_
      refine V.ifz_eq (tgt := 46) dX8_liked_32 rfl (fun c => ?_) (fun c => ?_)
      · replace hF := (if_neg c).symm.trans hF
        exact V.sub [1, 2, 3, 4, 5, 6] rfl (v_X8_liked_46 ih hF)
      · replace hF := (if_pos c).symm.trans hF
        refine V.iload_n 3 dX8_liked_35 rfl rfl ?_
        refine V.iload_n 2 dX8_liked_36 rfl rfl ?_
        refine V.icmp_ne (tgt := 43) dX8_liked_37 rfl (fun c => ?_) (fun c => ?_)
        · replace hF := (if_neg c).symm.trans hF
          refine V.iinc (v := (x2 + (1))) 3 [(2, _), (6, _), (0, _), (1, _), (3, _), (4, _), (5, _)] dX8_liked_43 rfl rfl (by decide) rfl ?_
          exact V.sub [2, 3, 0, 4, 5, 6] rfl (v_X8_liked_46 ih hF)
        · replace hF := (if_pos c).symm.trans hF
          refine V.iload 0 dX8_liked_40 rfl ?_
          cases hF
          exact V.iret dX8_liked_42
def X8_liked (n : Nat) (x1 : Int32) (h : Mm) : Option (Int32 × Mm) := (X8_liked_13 n n x1 (0) (Int32.ofNat (aln 1007)) (0) h)
set_option maxRecDepth 100000 in
set_option maxHeartbeats 4000000 in
theorem s_X8_liked {X : WX} {o : Mm} {n : Nat} {x1 : Int32} {rv : Int32} {hz : Mm} {h : Mm} (hF : X8_liked n x1 h = some (rv, hz)) : Sat X yX8_liked cX8_liked 7 (some .int) 7 [.ref (xa X 249), .int x1] true o h (some (.int rv)) hz := by
  unfold X8_liked at hF
  refine Sat.mk (own := RX8) rfl (by decide +kernel) (Nat.le_of_ble_eq_true rfl) (fun G => ?_)
  refine V.sub (lv2 := [(0, _), (1, _)]) [0, 1] rfl ?_
  refine V.iconst (v := 0) dX8_liked_0 rfl ?_
  refine V.istore_n [(2, _), (0, _), (1, _)] dX8_liked_1 rfl (by decide) rfl ?_
  refine V.gets zm_1007 sl_X8_70 dX8_liked_2 ?_
  refine V.astore_n [(3, _), (2, _), (0, _), (1, _)] dX8_liked_5 rfl (by decide) rfl ?_
  refine V.aload_n 0 dX8_liked_6 rfl rfl ?_
  refine V.alenA (Or.inr ⟨by decide, by decide⟩) dX8_liked_7 ?_
  refine V.istore [(4, _), (3, _), (2, _), (0, _), (1, _)] dX8_liked_8 (by decide) rfl ?_
  refine V.iconst (v := 0) dX8_liked_10 rfl ?_
  refine V.istore [(5, _), (4, _), (3, _), (2, _), (0, _), (1, _)] dX8_liked_11 (by decide) rfl ?_
  exact V.sub [4, 5, 3, 2, 1, 0] rfl (v_X8_liked_13 n _ _ _ _ _ hF)
/-! MonsterCot.likes -/
theorem dX11_likes_0 : decode cX11_likes 0 = .ok (.aload_n 0, 1) := by decide +kernel
theorem dX11_likes_1 : decode cX11_likes 1 = .ok (.getfield 42, 3) := by decide +kernel
theorem dX11_likes_4 : decode cX11_likes 4 = .ok (.invokevirtual 124, 3) := by decide +kernel
theorem dX11_likes_7 : decode cX11_likes 7 = .ok (.ifCond .eq 14, 3) := by decide +kernel
theorem dX11_likes_10 : decode cX11_likes 10 = .ok (.aload_n 0, 1) := by decide +kernel
theorem dX11_likes_11 : decode cX11_likes 11 = .ok (.getfield 91, 3) := by decide +kernel
theorem dX11_likes_14 : decode cX11_likes 14 = .ok (.iload_n 1, 1) := by decide +kernel
theorem dX11_likes_15 : decode cX11_likes 15 = .ok (.invokevirtual 321, 3) := by decide +kernel
theorem dX11_likes_18 : decode cX11_likes 18 = .ok (.goto 4, 3) := by decide +kernel
theorem dX11_likes_21 : decode cX11_likes 21 = .ok (.iconst (-1), 1) := by decide +kernel
theorem dX11_likes_22 : decode cX11_likes 22 = .ok (.ireturn, 1) := by decide +kernel
def X11_likes (n : Nat) (x1 : Int32) (h : Mm) : Option (Int32 × Mm) := (bp (X1_stands 13 h) (fun r6 => (if r6 = true then (bd (X8_liked n x1 h) (fun r8 h10 => (some (r8, h10)))) else (some ((-1), h)))))
set_option maxRecDepth 100000 in
set_option maxHeartbeats 4000000 in
theorem s_X11_likes {X : WX} {o : Mm} {n : Nat} {x1 : Int32} {rv : Int32} {hz : Mm} {h : Mm} (hF : X11_likes n x1 h = some (rv, hz)) : Sat X yX11_likes cX11_likes 2 (some .int) 8 [.ref (xa X 0), .int x1] true o h (some (.int rv)) hz := by
  unfold X11_likes at hF
  refine Sat.mk (own := RX11) rfl (by decide +kernel) (Nat.le_of_ble_eq_true rfl) (fun G => ?_)
  refine V.sub (lv2 := [(0, _), (1, _)]) [0, 1] rfl ?_
  refine V.aload_n 0 dX11_likes_0 rfl rfl ?_
  refine V.getR (v := 13) fl_X11_42 sh_0 rfl fx_0_4 (by decide) dX11_likes_1 ?_
  obtain ⟨r6, hc7, hF⟩ := bp_s hF
  refine V.callVi mf_X1_stands ml_X11_124 sh_13 (s_X1_stands (Or.inr rfl) hc7) (by decide) rfl rfl (Nat.le_of_ble_eq_true rfl) dX11_likes_4 ?_
  refine V.ifz_eq (tgt := 21) dX11_likes_7 rfl (fun c => ?_) (fun c => ?_)
  · replace hF := (if_neg c).symm.trans hF
    refine V.iconst (v := -1) dX11_likes_21 rfl ?_
    cases hF
    exact V.iret dX11_likes_22
  · replace hF := (if_pos c).symm.trans hF
    refine V.aload_n 0 dX11_likes_10 rfl rfl ?_
    refine V.getR (v := 249) fl_X11_91 sh_0 rfl fx_0_11 (by decide) dX11_likes_11 ?_
    refine V.iload_n 1 dX11_likes_14 rfl rfl ?_
    obtain ⟨r8, h10, hc9, hF⟩ := bd_s hF
    refine V.callVi mf_X8_liked ml_X11_321 sh_249 (s_X8_liked hc9) (by decide) rfl rfl (Nat.le_of_ble_eq_true rfl) dX11_likes_15 ?_
    refine V.goto (tgt := 22) dX11_likes_18 rfl ?_
    cases hF
    exact V.iret dX11_likes_22
/-! MonsterCot$Watch.apartBy -/
theorem dX8_apartBy_0 : decode cX8_apartBy 0 = .ok (.iconst 0, 1) := by decide +kernel
theorem dX8_apartBy_1 : decode cX8_apartBy 1 = .ok (.istore 5, 2) := by decide +kernel
theorem dX8_apartBy_3 : decode cX8_apartBy 3 = .ok (.getstatic 70, 3) := by decide +kernel
theorem dX8_apartBy_6 : decode cX8_apartBy 6 = .ok (.astore 6, 2) := by decide +kernel
theorem dX8_apartBy_8 : decode cX8_apartBy 8 = .ok (.aload 6, 2) := by decide +kernel
theorem dX8_apartBy_10 : decode cX8_apartBy 10 = .ok (.arraylength, 1) := by decide +kernel
theorem dX8_apartBy_11 : decode cX8_apartBy 11 = .ok (.istore 7, 2) := by decide +kernel
theorem dX8_apartBy_13 : decode cX8_apartBy 13 = .ok (.iconst 0, 1) := by decide +kernel
theorem dX8_apartBy_14 : decode cX8_apartBy 14 = .ok (.istore 8, 2) := by decide +kernel
theorem dX8_apartBy_16 : decode cX8_apartBy 16 = .ok (.iload 8, 2) := by decide +kernel
theorem dX8_apartBy_18 : decode cX8_apartBy 18 = .ok (.iload 7, 2) := by decide +kernel
theorem dX8_apartBy_20 : decode cX8_apartBy 20 = .ok (.if_icmp .ge 56, 3) := by decide +kernel
theorem dX8_apartBy_23 : decode cX8_apartBy 23 = .ok (.aload 6, 2) := by decide +kernel
theorem dX8_apartBy_25 : decode cX8_apartBy 25 = .ok (.iload 8, 2) := by decide +kernel
theorem dX8_apartBy_27 : decode cX8_apartBy 27 = .ok (.iaload, 1) := by decide +kernel
theorem dX8_apartBy_28 : decode cX8_apartBy 28 = .ok (.istore 9, 2) := by decide +kernel
theorem dX8_apartBy_30 : decode cX8_apartBy 30 = .ok (.iload_n 1, 1) := by decide +kernel
theorem dX8_apartBy_31 : decode cX8_apartBy 31 = .ok (.iload 9, 2) := by decide +kernel
theorem dX8_apartBy_33 : decode cX8_apartBy 33 = .ok (.ishr, 1) := by decide +kernel
theorem dX8_apartBy_34 : decode cX8_apartBy 34 = .ok (.iconst 1, 1) := by decide +kernel
theorem dX8_apartBy_35 : decode cX8_apartBy 35 = .ok (.iand, 1) := by decide +kernel
theorem dX8_apartBy_36 : decode cX8_apartBy 36 = .ok (.ifCond .eq 34, 3) := by decide +kernel
theorem dX8_apartBy_39 : decode cX8_apartBy 39 = .ok (.iload 5, 2) := by decide +kernel
theorem dX8_apartBy_41 : decode cX8_apartBy 41 = .ok (.aload_n 0, 1) := by decide +kernel
theorem dX8_apartBy_42 : decode cX8_apartBy 42 = .ok (.iload 9, 2) := by decide +kernel
theorem dX8_apartBy_44 : decode cX8_apartBy 44 = .ok (.iload_n 2, 1) := by decide +kernel
theorem dX8_apartBy_45 : decode cX8_apartBy 45 = .ok (.aload_n 0, 1) := by decide +kernel
theorem dX8_apartBy_46 : decode cX8_apartBy 46 = .ok (.getfield 25, 3) := by decide +kernel
theorem dX8_apartBy_49 : decode cX8_apartBy 49 = .ok (.iload_n 2, 1) := by decide +kernel
theorem dX8_apartBy_50 : decode cX8_apartBy 50 = .ok (.invokevirtual 84, 3) := by decide +kernel
theorem dX8_apartBy_53 : decode cX8_apartBy 53 = .ok (.iload_n 3, 1) := by decide +kernel
theorem dX8_apartBy_54 : decode cX8_apartBy 54 = .ok (.invokevirtual 66, 3) := by decide +kernel
theorem dX8_apartBy_57 : decode cX8_apartBy 57 = .ok (.iload 4, 2) := by decide +kernel
theorem dX8_apartBy_59 : decode cX8_apartBy 59 = .ok (.if_icmp .lt 7, 3) := by decide +kernel
theorem dX8_apartBy_62 : decode cX8_apartBy 62 = .ok (.iconst 1, 1) := by decide +kernel
theorem dX8_apartBy_63 : decode cX8_apartBy 63 = .ok (.goto 4, 3) := by decide +kernel
theorem dX8_apartBy_66 : decode cX8_apartBy 66 = .ok (.iconst (-1), 1) := by decide +kernel
theorem dX8_apartBy_67 : decode cX8_apartBy 67 = .ok (.iadd, 1) := by decide +kernel
theorem dX8_apartBy_68 : decode cX8_apartBy 68 = .ok (.istore 5, 2) := by decide +kernel
theorem dX8_apartBy_70 : decode cX8_apartBy 70 = .ok (.iinc 8 1, 3) := by decide +kernel
theorem dX8_apartBy_73 : decode cX8_apartBy 73 = .ok (.goto (-57), 3) := by decide +kernel
theorem dX8_apartBy_76 : decode cX8_apartBy 76 = .ok (.iload 5, 2) := by decide +kernel
theorem dX8_apartBy_78 : decode cX8_apartBy 78 = .ok (.invokestatic 87, 3) := by decide +kernel
theorem dX8_apartBy_81 : decode cX8_apartBy 81 = .ok (.ireturn, 1) := by decide +kernel
def X8_apartBy_70 (n : Nat) (K16 : Int32 → Int32 → Int32 → Int32 → Int32 → Int32 → Int32 → Mm → Option (Int32 × Mm)) (x1 : Int32) (x2 : Int32) (x3 : Int32) (x4 : Int32) (x5 : Int32) (x7 : Int32) (x8 : Int32) (h : Mm) : Option (Int32 × Mm) := (K16 x1 x2 x3 x4 x5 x7 (x8 + (1)) h)
set_option maxRecDepth 100000 in
set_option maxHeartbeats 4000000 in
theorem v_X8_apartBy_70 {X : WX} {G : GX} {o : Mm} {n : Nat} {K16 : Int32 → Int32 → Int32 → Int32 → Int32 → Int32 → Int32 → Mm → Option (Int32 × Mm)} {rv : Int32} {hz : Mm} (hK16 : ∀ (x1 : Int32) (x2 : Int32) (x3 : Int32) (x4 : Int32) (x5 : Int32) (x7 : Int32) (x8 : Int32) (h : Mm), K16 x1 x2 x3 x4 x5 x7 x8 h = some (rv, hz) → V X G RX8 cX8_apartBy 10 (some .int) 6 0 0 (QR X G true o (some (.int rv)) hz) true o 16 [(0, .ref (xa X 249)), (1, .int x1), (2, .int x2), (3, .int x3), (4, .int x4), (5, .int x5), (6, .ref (xa X 1007)), (7, .int x7), (8, .int x8)] [] h) {x1 : Int32} {x2 : Int32} {x3 : Int32} {x4 : Int32} {x5 : Int32} {x7 : Int32} {x8 : Int32} {h : Mm} (hF : X8_apartBy_70 n K16 x1 x2 x3 x4 x5 x7 x8 h = some (rv, hz)) : V X G RX8 cX8_apartBy 10 (some .int) 6 0 0 (QR X G true o (some (.int rv)) hz) true o 70 [(0, .ref (xa X 249)), (1, .int x1), (2, .int x2), (3, .int x3), (4, .int x4), (5, .int x5), (6, .ref (xa X 1007)), (7, .int x7), (8, .int x8)] [] h := by
  unfold X8_apartBy_70 at hF
  refine V.iinc (v := (x8 + (1))) 8 [(8, _), (0, _), (1, _), (2, _), (3, _), (4, _), (5, _), (6, _), (7, _)] dX8_apartBy_70 rfl rfl (by decide) rfl ?_
  refine V.goto (tgt := 16) dX8_apartBy_73 rfl ?_
  exact V.sub [1, 2, 3, 4, 5, 6, 7, 8, 0] rfl (hK16 _ _ _ _ _ _ _ _ hF)
def X8_apartBy_67 (n : Nat) (K16 : Int32 → Int32 → Int32 → Int32 → Int32 → Int32 → Int32 → Mm → Option (Int32 × Mm)) (x1 : Int32) (x2 : Int32) (x3 : Int32) (x4 : Int32) (x7 : Int32) (x8 : Int32) (s0 : Int32) (s1 : Int32) (h : Mm) : Option (Int32 × Mm) := (X8_apartBy_70 n K16 x1 x2 x3 x4 (s0 + s1) x7 x8 h)
set_option maxRecDepth 100000 in
set_option maxHeartbeats 4000000 in
theorem v_X8_apartBy_67 {X : WX} {G : GX} {o : Mm} {n : Nat} {K16 : Int32 → Int32 → Int32 → Int32 → Int32 → Int32 → Int32 → Mm → Option (Int32 × Mm)} {rv : Int32} {hz : Mm} (hK16 : ∀ (x1 : Int32) (x2 : Int32) (x3 : Int32) (x4 : Int32) (x5 : Int32) (x7 : Int32) (x8 : Int32) (h : Mm), K16 x1 x2 x3 x4 x5 x7 x8 h = some (rv, hz) → V X G RX8 cX8_apartBy 10 (some .int) 6 0 0 (QR X G true o (some (.int rv)) hz) true o 16 [(0, .ref (xa X 249)), (1, .int x1), (2, .int x2), (3, .int x3), (4, .int x4), (5, .int x5), (6, .ref (xa X 1007)), (7, .int x7), (8, .int x8)] [] h) {x1 : Int32} {x2 : Int32} {x3 : Int32} {x4 : Int32} {x7 : Int32} {x8 : Int32} {s0 : Int32} {s1 : Int32} {h : Mm} (hF : X8_apartBy_67 n K16 x1 x2 x3 x4 x7 x8 s0 s1 h = some (rv, hz)) : V X G RX8 cX8_apartBy 10 (some .int) 6 0 0 (QR X G true o (some (.int rv)) hz) true o 67 [(0, .ref (xa X 249)), (1, .int x1), (2, .int x2), (3, .int x3), (4, .int x4), (6, .ref (xa X 1007)), (7, .int x7), (8, .int x8)] [.int s1, .int s0] h := by
  unfold X8_apartBy_67 at hF
  refine V.iadd dX8_apartBy_67 ?_
  refine V.istore [(5, _), (0, _), (1, _), (2, _), (3, _), (4, _), (6, _), (7, _), (8, _)] dX8_apartBy_68 (by decide) rfl ?_
  exact V.sub [1, 2, 3, 4, 5, 0, 6, 7, 8] rfl (v_X8_apartBy_70 hK16 hF)
def X8_apartBy_16 (n : Nat) : Nat → Int32 → Int32 → Int32 → Int32 → Int32 → Int32 → Int32 → Mm → Option (Int32 × Mm)
  | 0, _, _, _, _, _, _, _, _ => none
  | f + 1, x1, x2, x3, x4, x5, x7, x8, h => (if x7 ≤ x8 then (bp (J9_abs_0f7a4 x5 h) (fun r36 => (some (r36, h)))) else (if inB x8 (aln 1007) then (if ((x1 >>> ((rdA h 1007 x8.toNatClampNeg) &&& 31)) &&& (1)) = 0 then (X8_apartBy_70 n (X8_apartBy_16 n f) x1 x2 x3 x4 x5 x7 x8 h) else (bp (X1_pagesOf 13 x2 h) (fun r38 => (bd (X8_calmBy n (rdA h 1007 x8.toNatClampNeg) x2 r38 x3 h) (fun r40 h42 => (if r40 < x4 then (X8_apartBy_67 n (X8_apartBy_16 n f) x1 x2 x3 x4 x7 x8 x5 (-1) h42) else (X8_apartBy_67 n (X8_apartBy_16 n f) x1 x2 x3 x4 x7 x8 x5 (1) h42))))))) else none))
set_option maxRecDepth 100000 in
set_option maxHeartbeats 4000000 in
theorem v_X8_apartBy_16 {X : WX} {G : GX} {o : Mm} {n : Nat} {rv : Int32} {hz : Mm} : ∀ (f : Nat) (x1 : Int32) (x2 : Int32) (x3 : Int32) (x4 : Int32) (x5 : Int32) (x7 : Int32) (x8 : Int32) (h : Mm), X8_apartBy_16 n f x1 x2 x3 x4 x5 x7 x8 h = some (rv, hz) → V X G RX8 cX8_apartBy 10 (some .int) 6 0 0 (QR X G true o (some (.int rv)) hz) true o 16 [(0, .ref (xa X 249)), (1, .int x1), (2, .int x2), (3, .int x3), (4, .int x4), (5, .int x5), (6, .ref (xa X 1007)), (7, .int x7), (8, .int x8)] [] h := by
  intro f
  induction f with
  | zero => intro x1 x2 x3 x4 x5 x7 x8 h hF; exact nomatch (show (none : Option (Int32 × Mm)) = some (rv, hz) from hF)
  | succ f ih =>
    intro x1 x2 x3 x4 x5 x7 x8 h hF
    unfold X8_apartBy_16 at hF
    refine V.iload 8 dX8_apartBy_16 rfl ?_
    refine V.iload 7 dX8_apartBy_18 rfl ?_
    refine V.icmp_ge (tgt := 76) dX8_apartBy_20 rfl (fun c => ?_) (fun c => ?_)
    · replace hF := (if_pos c).symm.trans hF
      refine V.iload 5 dX8_apartBy_76 rfl ?_
      obtain ⟨r36, hc37, hF⟩ := bp_s hF
      refine V.callSi mf_J9_abs_0f7a4 ml_X8_87 (s_J9_abs_0f7a4 hc37) (by decide) rfl rfl (Nat.le_of_ble_eq_true rfl) dX8_apartBy_78 ?_
      cases hF
      exact V.iret dX8_apartBy_81
    · replace hF := (if_neg c).symm.trans hF
      refine V.aload 6 dX8_apartBy_23 rfl ?_
      refine V.iload 8 dX8_apartBy_25 rfl ?_
      obtain ⟨hk, hF⟩ := ck hF
      refine V.ialdA (Or.inr ⟨by decide, by decide⟩) hk dX8_apartBy_27 ?_
      refine V.istore [(9, _), (0, _), (1, _), (2, _), (3, _), (4, _), (5, _), (6, _), (7, _), (8, _)] dX8_apartBy_28 (by decide) rfl ?_
      refine V.iload_n 2 dX8_apartBy_30 rfl rfl ?_
      refine V.iload 0 dX8_apartBy_31 rfl ?_
      refine V.ishr dX8_apartBy_33 ?_
      refine V.iconst (v := 1) dX8_apartBy_34 rfl ?_
      refine V.iand dX8_apartBy_35 ?_
      refine V.if_eq (tgt := 70) dX8_apartBy_36 rfl (fun c => ?_) (fun c => ?_)
      · replace hF := (if_pos c).symm.trans hF
        exact V.sub [1, 2, 3, 4, 5, 6, 7, 8, 9] rfl (v_X8_apartBy_70 ih hF)
      · replace hF := (if_neg c).symm.trans hF
        refine V.iload 6 dX8_apartBy_39 rfl ?_
        refine V.aload_n 1 dX8_apartBy_41 rfl rfl ?_
        refine V.iload 0 dX8_apartBy_42 rfl ?_
        refine V.iload_n 3 dX8_apartBy_44 rfl rfl ?_
        refine V.aload_n 1 dX8_apartBy_45 rfl rfl ?_
        refine V.getR (v := 13) fl_X8_25 sh_249 rfl fx_249_1 (by decide) dX8_apartBy_46 ?_
        refine V.iload_n 3 dX8_apartBy_49 rfl rfl ?_
        obtain ⟨r38, hc39, hF⟩ := bp_s hF
        refine V.callVi mf_X1_pagesOf ml_X8_84 sh_13 (s_X1_pagesOf (Or.inr rfl) hc39) (by decide) rfl rfl (Nat.le_of_ble_eq_true rfl) dX8_apartBy_50 ?_
        refine V.iload_n 4 dX8_apartBy_53 rfl rfl ?_
        obtain ⟨r40, h42, hc41, hF⟩ := bd_s hF
        refine V.callVi mf_X8_calmBy ml_X8_66 sh_249 (s_X8_calmBy hc41) (by decide) rfl rfl (Nat.le_of_ble_eq_true rfl) dX8_apartBy_54 ?_
        refine V.iload 5 dX8_apartBy_57 rfl ?_
        refine V.icmp_lt (tgt := 66) dX8_apartBy_59 rfl (fun c => ?_) (fun c => ?_)
        · replace hF := (if_pos c).symm.trans hF
          refine V.iconst (v := -1) dX8_apartBy_66 rfl ?_
          exact V.sub [1, 2, 3, 4, 5, 7, 8, 9] rfl (v_X8_apartBy_67 ih hF)
        · replace hF := (if_neg c).symm.trans hF
          refine V.iconst (v := 1) dX8_apartBy_62 rfl ?_
          refine V.goto (tgt := 67) dX8_apartBy_63 rfl ?_
          exact V.sub [1, 2, 3, 4, 5, 7, 8, 9] rfl (v_X8_apartBy_67 ih hF)
def X8_apartBy (n : Nat) (x1 : Int32) (x2 : Int32) (x3 : Int32) (x4 : Int32) (h : Mm) : Option (Int32 × Mm) := (X8_apartBy_16 n n x1 x2 x3 x4 (0) (Int32.ofNat (aln 1007)) (0) h)
set_option maxRecDepth 100000 in
set_option maxHeartbeats 4000000 in
theorem s_X8_apartBy {X : WX} {o : Mm} {n : Nat} {x1 : Int32} {x2 : Int32} {x3 : Int32} {x4 : Int32} {rv : Int32} {hz : Mm} {h : Mm} (hF : X8_apartBy n x1 x2 x3 x4 h = some (rv, hz)) : Sat X yX8_apartBy cX8_apartBy 10 (some .int) 6 [.ref (xa X 249), .int x1, .int x2, .int x3, .int x4] true o h (some (.int rv)) hz := by
  unfold X8_apartBy at hF
  refine Sat.mk (own := RX8) rfl (by decide +kernel) (Nat.le_of_ble_eq_true rfl) (fun G => ?_)
  refine V.sub (lv2 := [(0, _), (1, _), (2, _), (3, _), (4, _)]) [0, 1, 2, 3, 4] rfl ?_
  refine V.iconst (v := 0) dX8_apartBy_0 rfl ?_
  refine V.istore [(5, _), (0, _), (1, _), (2, _), (3, _), (4, _)] dX8_apartBy_1 (by decide) rfl ?_
  refine V.gets zm_1007 sl_X8_70 dX8_apartBy_3 ?_
  refine V.astore [(6, _), (5, _), (0, _), (1, _), (2, _), (3, _), (4, _)] dX8_apartBy_6 (by decide) rfl ?_
  refine V.aload 0 dX8_apartBy_8 rfl ?_
  refine V.alenA (Or.inr ⟨by decide, by decide⟩) dX8_apartBy_10 ?_
  refine V.istore [(7, _), (6, _), (5, _), (0, _), (1, _), (2, _), (3, _), (4, _)] dX8_apartBy_11 (by decide) rfl ?_
  refine V.iconst (v := 0) dX8_apartBy_13 rfl ?_
  refine V.istore [(8, _), (7, _), (6, _), (5, _), (0, _), (1, _), (2, _), (3, _), (4, _)] dX8_apartBy_14 (by decide) rfl ?_
  exact V.sub [4, 5, 6, 7, 8, 3, 2, 1, 0] rfl (v_X8_apartBy_16 n _ _ _ _ _ _ _ _ hF)
/-! MonsterCot$Watch.bookToTry -/
theorem dX8_bookToTry_0 : decode cX8_bookToTry 0 = .ok (.iconst 0, 1) := by decide +kernel
theorem dX8_bookToTry_1 : decode cX8_bookToTry 1 = .ok (.istore_n 3, 1) := by decide +kernel
theorem dX8_bookToTry_2 : decode cX8_bookToTry 2 = .ok (.getstatic 70, 3) := by decide +kernel
theorem dX8_bookToTry_5 : decode cX8_bookToTry 5 = .ok (.astore 4, 2) := by decide +kernel
theorem dX8_bookToTry_7 : decode cX8_bookToTry 7 = .ok (.aload 4, 2) := by decide +kernel
theorem dX8_bookToTry_9 : decode cX8_bookToTry 9 = .ok (.arraylength, 1) := by decide +kernel
theorem dX8_bookToTry_10 : decode cX8_bookToTry 10 = .ok (.istore 5, 2) := by decide +kernel
theorem dX8_bookToTry_12 : decode cX8_bookToTry 12 = .ok (.iconst 0, 1) := by decide +kernel
theorem dX8_bookToTry_13 : decode cX8_bookToTry 13 = .ok (.istore 6, 2) := by decide +kernel
theorem dX8_bookToTry_15 : decode cX8_bookToTry 15 = .ok (.iload 6, 2) := by decide +kernel
theorem dX8_bookToTry_17 : decode cX8_bookToTry 17 = .ok (.iload 5, 2) := by decide +kernel
theorem dX8_bookToTry_19 : decode cX8_bookToTry 19 = .ok (.if_icmp .ge 36, 3) := by decide +kernel
theorem dX8_bookToTry_22 : decode cX8_bookToTry 22 = .ok (.aload 4, 2) := by decide +kernel
theorem dX8_bookToTry_24 : decode cX8_bookToTry 24 = .ok (.iload 6, 2) := by decide +kernel
theorem dX8_bookToTry_26 : decode cX8_bookToTry 26 = .ok (.iaload, 1) := by decide +kernel
theorem dX8_bookToTry_27 : decode cX8_bookToTry 27 = .ok (.istore 7, 2) := by decide +kernel
theorem dX8_bookToTry_29 : decode cX8_bookToTry 29 = .ok (.iload_n 3, 1) := by decide +kernel
theorem dX8_bookToTry_30 : decode cX8_bookToTry 30 = .ok (.aload_n 0, 1) := by decide +kernel
theorem dX8_bookToTry_31 : decode cX8_bookToTry 31 = .ok (.iload 7, 2) := by decide +kernel
theorem dX8_bookToTry_33 : decode cX8_bookToTry 33 = .ok (.invokevirtual 73, 3) := by decide +kernel
theorem dX8_bookToTry_36 : decode cX8_bookToTry 36 = .ok (.ifCond .eq 10, 3) := by decide +kernel
theorem dX8_bookToTry_39 : decode cX8_bookToTry 39 = .ok (.iconst 1, 1) := by decide +kernel
theorem dX8_bookToTry_40 : decode cX8_bookToTry 40 = .ok (.iload 7, 2) := by decide +kernel
theorem dX8_bookToTry_42 : decode cX8_bookToTry 42 = .ok (.ishl, 1) := by decide +kernel
theorem dX8_bookToTry_43 : decode cX8_bookToTry 43 = .ok (.goto 4, 3) := by decide +kernel
theorem dX8_bookToTry_46 : decode cX8_bookToTry 46 = .ok (.iconst 0, 1) := by decide +kernel
theorem dX8_bookToTry_47 : decode cX8_bookToTry 47 = .ok (.ior, 1) := by decide +kernel
theorem dX8_bookToTry_48 : decode cX8_bookToTry 48 = .ok (.istore_n 3, 1) := by decide +kernel
theorem dX8_bookToTry_49 : decode cX8_bookToTry 49 = .ok (.iinc 6 1, 3) := by decide +kernel
theorem dX8_bookToTry_52 : decode cX8_bookToTry 52 = .ok (.goto (-37), 3) := by decide +kernel
theorem dX8_bookToTry_55 : decode cX8_bookToTry 55 = .ok (.iconst (-1), 1) := by decide +kernel
theorem dX8_bookToTry_56 : decode cX8_bookToTry 56 = .ok (.istore 4, 2) := by decide +kernel
theorem dX8_bookToTry_58 : decode cX8_bookToTry 58 = .ok (.getstatic 70, 3) := by decide +kernel
theorem dX8_bookToTry_61 : decode cX8_bookToTry 61 = .ok (.arraylength, 1) := by decide +kernel
theorem dX8_bookToTry_62 : decode cX8_bookToTry 62 = .ok (.iconst 1, 1) := by decide +kernel
theorem dX8_bookToTry_63 : decode cX8_bookToTry 63 = .ok (.iadd, 1) := by decide +kernel
theorem dX8_bookToTry_64 : decode cX8_bookToTry 64 = .ok (.istore 5, 2) := by decide +kernel
theorem dX8_bookToTry_66 : decode cX8_bookToTry 66 = .ok (.iconst 0, 1) := by decide +kernel
theorem dX8_bookToTry_67 : decode cX8_bookToTry 67 = .ok (.istore 6, 2) := by decide +kernel
theorem dX8_bookToTry_69 : decode cX8_bookToTry 69 = .ok (.iload 6, 2) := by decide +kernel
theorem dX8_bookToTry_71 : decode cX8_bookToTry 71 = .ok (.aload_n 0, 1) := by decide +kernel
theorem dX8_bookToTry_72 : decode cX8_bookToTry 72 = .ok (.getfield 25, 3) := by decide +kernel
theorem dX8_bookToTry_75 : decode cX8_bookToTry 75 = .ok (.invokevirtual 77, 3) := by decide +kernel
theorem dX8_bookToTry_78 : decode cX8_bookToTry 78 = .ok (.if_icmp .ge 39, 3) := by decide +kernel
theorem dX8_bookToTry_81 : decode cX8_bookToTry 81 = .ok (.iload_n 3, 1) := by decide +kernel
theorem dX8_bookToTry_82 : decode cX8_bookToTry 82 = .ok (.ifCond .eq 35, 3) := by decide +kernel
theorem dX8_bookToTry_85 : decode cX8_bookToTry 85 = .ok (.aload_n 0, 1) := by decide +kernel
theorem dX8_bookToTry_86 : decode cX8_bookToTry 86 = .ok (.iload_n 3, 1) := by decide +kernel
theorem dX8_bookToTry_87 : decode cX8_bookToTry 87 = .ok (.iload 6, 2) := by decide +kernel
theorem dX8_bookToTry_89 : decode cX8_bookToTry 89 = .ok (.iload_n 1, 1) := by decide +kernel
theorem dX8_bookToTry_90 : decode cX8_bookToTry 90 = .ok (.iload_n 2, 1) := by decide +kernel
theorem dX8_bookToTry_91 : decode cX8_bookToTry 91 = .ok (.invokevirtual 81, 3) := by decide +kernel
theorem dX8_bookToTry_94 : decode cX8_bookToTry 94 = .ok (.istore 7, 2) := by decide +kernel
theorem dX8_bookToTry_96 : decode cX8_bookToTry 96 = .ok (.iload 7, 2) := by decide +kernel
theorem dX8_bookToTry_98 : decode cX8_bookToTry 98 = .ok (.iload 5, 2) := by decide +kernel
theorem dX8_bookToTry_100 : decode cX8_bookToTry 100 = .ok (.if_icmp .ge 11, 3) := by decide +kernel
theorem dX8_bookToTry_103 : decode cX8_bookToTry 103 = .ok (.iload 7, 2) := by decide +kernel
theorem dX8_bookToTry_105 : decode cX8_bookToTry 105 = .ok (.istore 5, 2) := by decide +kernel
theorem dX8_bookToTry_107 : decode cX8_bookToTry 107 = .ok (.iload 6, 2) := by decide +kernel
theorem dX8_bookToTry_109 : decode cX8_bookToTry 109 = .ok (.istore 4, 2) := by decide +kernel
theorem dX8_bookToTry_111 : decode cX8_bookToTry 111 = .ok (.iinc 6 1, 3) := by decide +kernel
theorem dX8_bookToTry_114 : decode cX8_bookToTry 114 = .ok (.goto (-45), 3) := by decide +kernel
theorem dX8_bookToTry_117 : decode cX8_bookToTry 117 = .ok (.iload 4, 2) := by decide +kernel
theorem dX8_bookToTry_119 : decode cX8_bookToTry 119 = .ok (.ireturn, 1) := by decide +kernel
def X8_bookToTry_47 (n : Nat) (K15 : Int32 → Int32 → Int32 → Int32 → Int32 → Mm → Option (Int32 × Mm)) (x1 : Int32) (x2 : Int32) (x5 : Int32) (x6 : Int32) (s0 : Int32) (s1 : Int32) (h : Mm) : Option (Int32 × Mm) := (K15 x1 x2 (s0 ||| s1) x5 (x6 + (1)) h)
set_option maxRecDepth 100000 in
set_option maxHeartbeats 4000000 in
theorem v_X8_bookToTry_47 {X : WX} {G : GX} {o : Mm} {n : Nat} {K15 : Int32 → Int32 → Int32 → Int32 → Int32 → Mm → Option (Int32 × Mm)} {rv : Int32} {hz : Mm} (hK15 : ∀ (x1 : Int32) (x2 : Int32) (x3 : Int32) (x5 : Int32) (x6 : Int32) (h : Mm), K15 x1 x2 x3 x5 x6 h = some (rv, hz) → V X G RX8 cX8_bookToTry 8 (some .int) 7 0 0 (QR X G true o (some (.int rv)) hz) true o 15 [(0, .ref (xa X 249)), (1, .int x1), (2, .int x2), (3, .int x3), (4, .ref (xa X 1007)), (5, .int x5), (6, .int x6)] [] h) {x1 : Int32} {x2 : Int32} {x5 : Int32} {x6 : Int32} {s0 : Int32} {s1 : Int32} {h : Mm} (hF : X8_bookToTry_47 n K15 x1 x2 x5 x6 s0 s1 h = some (rv, hz)) : V X G RX8 cX8_bookToTry 8 (some .int) 7 0 0 (QR X G true o (some (.int rv)) hz) true o 47 [(0, .ref (xa X 249)), (1, .int x1), (2, .int x2), (4, .ref (xa X 1007)), (5, .int x5), (6, .int x6)] [.int s1, .int s0] h := by
  unfold X8_bookToTry_47 at hF
  refine V.ior dX8_bookToTry_47 ?_
  refine V.istore_n [(3, _), (0, _), (1, _), (2, _), (4, _), (5, _), (6, _)] dX8_bookToTry_48 rfl (by decide) rfl ?_
  refine V.iinc (v := (x6 + (1))) 6 [(6, _), (3, _), (0, _), (1, _), (2, _), (4, _), (5, _)] dX8_bookToTry_49 rfl rfl (by decide) rfl ?_
  refine V.goto (tgt := 15) dX8_bookToTry_52 rfl ?_
  exact V.sub [2, 3, 4, 1, 5, 6, 0] rfl (hK15 _ _ _ _ _ _ hF)
def X8_bookToTry_111 (n : Nat) (K69 : Int32 → Int32 → Int32 → Int32 → Int32 → Int32 → Mm → Option (Int32 × Mm)) (x1 : Int32) (x2 : Int32) (x3 : Int32) (x4 : Int32) (x5 : Int32) (x6 : Int32) (h : Mm) : Option (Int32 × Mm) := (K69 x1 x2 x3 x4 x5 (x6 + (1)) h)
set_option maxRecDepth 100000 in
set_option maxHeartbeats 4000000 in
theorem v_X8_bookToTry_111 {X : WX} {G : GX} {o : Mm} {n : Nat} {K69 : Int32 → Int32 → Int32 → Int32 → Int32 → Int32 → Mm → Option (Int32 × Mm)} {rv : Int32} {hz : Mm} (hK69 : ∀ (x1 : Int32) (x2 : Int32) (x3 : Int32) (x4 : Int32) (x5 : Int32) (x6 : Int32) (h : Mm), K69 x1 x2 x3 x4 x5 x6 h = some (rv, hz) → V X G RX8 cX8_bookToTry 8 (some .int) 7 0 0 (QR X G true o (some (.int rv)) hz) true o 69 [(0, .ref (xa X 249)), (1, .int x1), (2, .int x2), (3, .int x3), (4, .int x4), (5, .int x5), (6, .int x6)] [] h) {x1 : Int32} {x2 : Int32} {x3 : Int32} {x4 : Int32} {x5 : Int32} {x6 : Int32} {h : Mm} (hF : X8_bookToTry_111 n K69 x1 x2 x3 x4 x5 x6 h = some (rv, hz)) : V X G RX8 cX8_bookToTry 8 (some .int) 7 0 0 (QR X G true o (some (.int rv)) hz) true o 111 [(0, .ref (xa X 249)), (1, .int x1), (2, .int x2), (3, .int x3), (4, .int x4), (5, .int x5), (6, .int x6)] [] h := by
  unfold X8_bookToTry_111 at hF
  refine V.iinc (v := (x6 + (1))) 6 [(6, _), (0, _), (1, _), (2, _), (3, _), (4, _), (5, _)] dX8_bookToTry_111 rfl rfl (by decide) rfl ?_
  refine V.goto (tgt := 69) dX8_bookToTry_114 rfl ?_
  exact V.sub [1, 2, 3, 4, 5, 6, 0] rfl (hK69 _ _ _ _ _ _ _ hF)
def X8_bookToTry_117 (n : Nat) (x4 : Int32) (h : Mm) : Option (Int32 × Mm) := (some (x4, h))
set_option maxRecDepth 100000 in
set_option maxHeartbeats 4000000 in
theorem v_X8_bookToTry_117 {X : WX} {G : GX} {o : Mm} {n : Nat} {rv : Int32} {hz : Mm} {x4 : Int32} {h : Mm} (hF : X8_bookToTry_117 n x4 h = some (rv, hz)) : V X G RX8 cX8_bookToTry 8 (some .int) 7 0 0 (QR X G true o (some (.int rv)) hz) true o 117 [(4, .int x4)] [] h := by
  unfold X8_bookToTry_117 at hF
  refine V.iload 0 dX8_bookToTry_117 rfl ?_
  cases hF
  exact V.iret dX8_bookToTry_119
def X8_bookToTry_69 (n : Nat) : Nat → Int32 → Int32 → Int32 → Int32 → Int32 → Int32 → Mm → Option (Int32 × Mm)
  | 0, _, _, _, _, _, _, _ => none
  | f + 1, x1, x2, x3, x4, x5, x6, h => (bp (X1_books 13 h) (fun r36 => (if r36 ≤ x6 then (X8_bookToTry_117 n x4 h) else (if x3 = 0 then (X8_bookToTry_117 n x4 h) else (bd (X8_apartBy n x3 x6 x1 x2 h) (fun r38 h40 => (if x5 ≤ r38 then (X8_bookToTry_111 n (X8_bookToTry_69 n f) x1 x2 x3 x4 x5 x6 h40) else (X8_bookToTry_111 n (X8_bookToTry_69 n f) x1 x2 x3 x6 r38 x6 h40))))))))
set_option maxRecDepth 100000 in
set_option maxHeartbeats 4000000 in
theorem v_X8_bookToTry_69 {X : WX} {G : GX} {o : Mm} {n : Nat} {rv : Int32} {hz : Mm} : ∀ (f : Nat) (x1 : Int32) (x2 : Int32) (x3 : Int32) (x4 : Int32) (x5 : Int32) (x6 : Int32) (h : Mm), X8_bookToTry_69 n f x1 x2 x3 x4 x5 x6 h = some (rv, hz) → V X G RX8 cX8_bookToTry 8 (some .int) 7 0 0 (QR X G true o (some (.int rv)) hz) true o 69 [(0, .ref (xa X 249)), (1, .int x1), (2, .int x2), (3, .int x3), (4, .int x4), (5, .int x5), (6, .int x6)] [] h := by
  intro f
  induction f with
  | zero => intro x1 x2 x3 x4 x5 x6 h hF; exact nomatch (show (none : Option (Int32 × Mm)) = some (rv, hz) from hF)
  | succ f ih =>
    intro x1 x2 x3 x4 x5 x6 h hF
    unfold X8_bookToTry_69 at hF
    refine V.iload 6 dX8_bookToTry_69 rfl ?_
    refine V.aload_n 0 dX8_bookToTry_71 rfl rfl ?_
    refine V.getR (v := 13) fl_X8_25 sh_249 rfl fx_249_1 (by decide) dX8_bookToTry_72 ?_
    obtain ⟨r36, hc37, hF⟩ := bp_s hF
    refine V.callVi mf_X1_books ml_X8_77 sh_13 (s_X1_books (Or.inr rfl) hc37) (by decide) rfl rfl (Nat.le_of_ble_eq_true rfl) dX8_bookToTry_75 ?_
    refine V.icmp_ge (tgt := 117) dX8_bookToTry_78 rfl (fun c => ?_) (fun c => ?_)
    · replace hF := (if_pos c).symm.trans hF
      exact V.sub [4] rfl (v_X8_bookToTry_117 hF)
    · replace hF := (if_neg c).symm.trans hF
      refine V.iload_n 3 dX8_bookToTry_81 rfl rfl ?_
      refine V.if_eq (tgt := 117) dX8_bookToTry_82 rfl (fun c => ?_) (fun c => ?_)
      · replace hF := (if_pos c).symm.trans hF
        exact V.sub [4] rfl (v_X8_bookToTry_117 hF)
      · replace hF := (if_neg c).symm.trans hF
        refine V.aload_n 0 dX8_bookToTry_85 rfl rfl ?_
        refine V.iload_n 3 dX8_bookToTry_86 rfl rfl ?_
        refine V.iload 6 dX8_bookToTry_87 rfl ?_
        refine V.iload_n 1 dX8_bookToTry_89 rfl rfl ?_
        refine V.iload_n 2 dX8_bookToTry_90 rfl rfl ?_
        obtain ⟨r38, h40, hc39, hF⟩ := bd_s hF
        refine V.callVi mf_X8_apartBy ml_X8_81 sh_249 (s_X8_apartBy hc39) (by decide) rfl rfl (Nat.le_of_ble_eq_true rfl) dX8_bookToTry_91 ?_
        refine V.istore [(7, _), (0, _), (1, _), (2, _), (3, _), (4, _), (5, _), (6, _)] dX8_bookToTry_94 (by decide) rfl ?_
        refine V.iload 0 dX8_bookToTry_96 rfl ?_
        refine V.iload 6 dX8_bookToTry_98 rfl ?_
        refine V.icmp_ge (tgt := 111) dX8_bookToTry_100 rfl (fun c => ?_) (fun c => ?_)
        · replace hF := (if_pos c).symm.trans hF
          exact V.sub [1, 2, 3, 4, 5, 6, 7] rfl (v_X8_bookToTry_111 ih hF)
        · replace hF := (if_neg c).symm.trans hF
          refine V.iload 0 dX8_bookToTry_103 rfl ?_
          refine V.istore [(5, _), (7, _), (0, _), (1, _), (2, _), (3, _), (4, _), (6, _)] dX8_bookToTry_105 (by decide) rfl ?_
          refine V.iload 7 dX8_bookToTry_107 rfl ?_
          refine V.istore [(4, _), (5, _), (7, _), (0, _), (1, _), (2, _), (3, _), (6, _)] dX8_bookToTry_109 (by decide) rfl ?_
          exact V.sub [3, 4, 5, 6, 0, 1, 7] rfl (v_X8_bookToTry_111 ih hF)
def X8_bookToTry_15 (n : Nat) : Nat → Int32 → Int32 → Int32 → Int32 → Int32 → Mm → Option (Int32 × Mm)
  | 0, _, _, _, _, _, _ => none
  | f + 1, x1, x2, x3, x5, x6, h => (if x5 ≤ x6 then (X8_bookToTry_69 n n x1 x2 x3 (-1) ((Int32.ofNat (aln 1007)) + (1)) (0) h) else (if inB x6 (aln 1007) then (bd (X8_fits n (rdA h 1007 x6.toNatClampNeg) h) (fun r41 h43 => (if r41 = true then (X8_bookToTry_47 n (X8_bookToTry_15 n f) x1 x2 x5 x6 x3 ((1) <<< ((rdA h 1007 x6.toNatClampNeg) &&& 31)) h43) else (X8_bookToTry_47 n (X8_bookToTry_15 n f) x1 x2 x5 x6 x3 (0) h43)))) else none))
set_option maxRecDepth 100000 in
set_option maxHeartbeats 4000000 in
theorem v_X8_bookToTry_15 {X : WX} {G : GX} {o : Mm} {n : Nat} {rv : Int32} {hz : Mm} : ∀ (f : Nat) (x1 : Int32) (x2 : Int32) (x3 : Int32) (x5 : Int32) (x6 : Int32) (h : Mm), X8_bookToTry_15 n f x1 x2 x3 x5 x6 h = some (rv, hz) → V X G RX8 cX8_bookToTry 8 (some .int) 7 0 0 (QR X G true o (some (.int rv)) hz) true o 15 [(0, .ref (xa X 249)), (1, .int x1), (2, .int x2), (3, .int x3), (4, .ref (xa X 1007)), (5, .int x5), (6, .int x6)] [] h := by
  intro f
  induction f with
  | zero => intro x1 x2 x3 x5 x6 h hF; exact nomatch (show (none : Option (Int32 × Mm)) = some (rv, hz) from hF)
  | succ f ih =>
    intro x1 x2 x3 x5 x6 h hF
    unfold X8_bookToTry_15 at hF
    refine V.iload 6 dX8_bookToTry_15 rfl ?_
    refine V.iload 5 dX8_bookToTry_17 rfl ?_
    refine V.icmp_ge (tgt := 55) dX8_bookToTry_19 rfl (fun c => ?_) (fun c => ?_)
    · replace hF := (if_pos c).symm.trans hF
      refine V.iconst (v := -1) dX8_bookToTry_55 rfl ?_
      refine V.istore [(4, _), (0, _), (1, _), (2, _), (3, _), (5, _), (6, _)] dX8_bookToTry_56 (by decide) rfl ?_
      refine V.gets zm_1007 sl_X8_70 dX8_bookToTry_58 ?_
      refine V.alenA (Or.inr ⟨by decide, by decide⟩) dX8_bookToTry_61 ?_
      refine V.iconst (v := 1) dX8_bookToTry_62 rfl ?_
      refine V.iadd dX8_bookToTry_63 ?_
      refine V.istore [(5, _), (4, _), (0, _), (1, _), (2, _), (3, _), (6, _)] dX8_bookToTry_64 (by decide) rfl ?_
      refine V.iconst (v := 0) dX8_bookToTry_66 rfl ?_
      refine V.istore [(6, _), (5, _), (4, _), (0, _), (1, _), (2, _), (3, _)] dX8_bookToTry_67 (by decide) rfl ?_
      exact V.sub [3, 4, 5, 6, 2, 1, 0] rfl (v_X8_bookToTry_69 n _ _ _ _ _ _ _ hF)
    · replace hF := (if_neg c).symm.trans hF
      refine V.aload 4 dX8_bookToTry_22 rfl ?_
      refine V.iload 6 dX8_bookToTry_24 rfl ?_
      obtain ⟨hk, hF⟩ := ck hF
      refine V.ialdA (Or.inr ⟨by decide, by decide⟩) hk dX8_bookToTry_26 ?_
      refine V.istore [(7, _), (0, _), (1, _), (2, _), (3, _), (4, _), (5, _), (6, _)] dX8_bookToTry_27 (by decide) rfl ?_
      refine V.iload_n 4 dX8_bookToTry_29 rfl rfl ?_
      refine V.aload_n 1 dX8_bookToTry_30 rfl rfl ?_
      refine V.iload 0 dX8_bookToTry_31 rfl ?_
      obtain ⟨r41, h43, hc42, hF⟩ := bd_s hF
      refine V.callVi mf_X8_fits ml_X8_73 sh_249 (s_X8_fits hc42) (by decide) rfl rfl (Nat.le_of_ble_eq_true rfl) dX8_bookToTry_33 ?_
      refine V.ifz_eq (tgt := 46) dX8_bookToTry_36 rfl (fun c => ?_) (fun c => ?_)
      · replace hF := (if_neg c).symm.trans hF
        refine V.iconst (v := 0) dX8_bookToTry_46 rfl ?_
        exact V.sub [1, 2, 3, 5, 6, 7] rfl (v_X8_bookToTry_47 ih hF)
      · replace hF := (if_pos c).symm.trans hF
        refine V.iconst (v := 1) dX8_bookToTry_39 rfl ?_
        refine V.iload 0 dX8_bookToTry_40 rfl ?_
        refine V.ishl dX8_bookToTry_42 ?_
        refine V.goto (tgt := 47) dX8_bookToTry_43 rfl ?_
        exact V.sub [1, 2, 3, 5, 6, 7] rfl (v_X8_bookToTry_47 ih hF)
def X8_bookToTry (n : Nat) (x1 : Int32) (x2 : Int32) (h : Mm) : Option (Int32 × Mm) := (X8_bookToTry_15 n n x1 x2 (0) (Int32.ofNat (aln 1007)) (0) h)
set_option maxRecDepth 100000 in
set_option maxHeartbeats 4000000 in
theorem s_X8_bookToTry {X : WX} {o : Mm} {n : Nat} {x1 : Int32} {x2 : Int32} {rv : Int32} {hz : Mm} {h : Mm} (hF : X8_bookToTry n x1 x2 h = some (rv, hz)) : Sat X yX8_bookToTry cX8_bookToTry 8 (some .int) 7 [.ref (xa X 249), .int x1, .int x2] true o h (some (.int rv)) hz := by
  unfold X8_bookToTry at hF
  refine Sat.mk (own := RX8) rfl (by decide +kernel) (Nat.le_of_ble_eq_true rfl) (fun G => ?_)
  refine V.sub (lv2 := [(0, _), (1, _), (2, _)]) [0, 1, 2] rfl ?_
  refine V.iconst (v := 0) dX8_bookToTry_0 rfl ?_
  refine V.istore_n [(3, _), (0, _), (1, _), (2, _)] dX8_bookToTry_1 rfl (by decide) rfl ?_
  refine V.gets zm_1007 sl_X8_70 dX8_bookToTry_2 ?_
  refine V.astore [(4, _), (3, _), (0, _), (1, _), (2, _)] dX8_bookToTry_5 (by decide) rfl ?_
  refine V.aload 0 dX8_bookToTry_7 rfl ?_
  refine V.alenA (Or.inr ⟨by decide, by decide⟩) dX8_bookToTry_9 ?_
  refine V.istore [(5, _), (4, _), (3, _), (0, _), (1, _), (2, _)] dX8_bookToTry_10 (by decide) rfl ?_
  refine V.iconst (v := 0) dX8_bookToTry_12 rfl ?_
  refine V.istore [(6, _), (5, _), (4, _), (3, _), (0, _), (1, _), (2, _)] dX8_bookToTry_13 (by decide) rfl ?_
  exact V.sub [4, 5, 6, 3, 2, 1, 0] rfl (v_X8_bookToTry_15 n _ _ _ _ _ _ hF)
/-! MonsterCot.probe -/
theorem dX11_probe_0 : decode cX11_probe 0 = .ok (.aload_n 0, 1) := by decide +kernel
theorem dX11_probe_1 : decode cX11_probe 1 = .ok (.getfield 42, 3) := by decide +kernel
theorem dX11_probe_4 : decode cX11_probe 4 = .ok (.iload_n 1, 1) := by decide +kernel
theorem dX11_probe_5 : decode cX11_probe 5 = .ok (.invokevirtual 153, 3) := by decide +kernel
theorem dX11_probe_8 : decode cX11_probe 8 = .ok (.ifCond .eq 25, 3) := by decide +kernel
theorem dX11_probe_11 : decode cX11_probe 11 = .ok (.iload_n 2, 1) := by decide +kernel
theorem dX11_probe_12 : decode cX11_probe 12 = .ok (.ifCond .lt 21, 3) := by decide +kernel
theorem dX11_probe_15 : decode cX11_probe 15 = .ok (.iload_n 2, 1) := by decide +kernel
theorem dX11_probe_16 : decode cX11_probe 16 = .ok (.bipush 99, 2) := by decide +kernel
theorem dX11_probe_18 : decode cX11_probe 18 = .ok (.if_icmp .gt 15, 3) := by decide +kernel
theorem dX11_probe_21 : decode cX11_probe 21 = .ok (.aload_n 0, 1) := by decide +kernel
theorem dX11_probe_22 : decode cX11_probe 22 = .ok (.getfield 91, 3) := by decide +kernel
theorem dX11_probe_25 : decode cX11_probe 25 = .ok (.iload_n 1, 1) := by decide +kernel
theorem dX11_probe_26 : decode cX11_probe 26 = .ok (.iload_n 2, 1) := by decide +kernel
theorem dX11_probe_27 : decode cX11_probe 27 = .ok (.invokevirtual 324, 3) := by decide +kernel
theorem dX11_probe_30 : decode cX11_probe 30 = .ok (.goto 4, 3) := by decide +kernel
theorem dX11_probe_33 : decode cX11_probe 33 = .ok (.iconst (-1), 1) := by decide +kernel
theorem dX11_probe_34 : decode cX11_probe 34 = .ok (.ireturn, 1) := by decide +kernel
def X11_probe (n : Nat) (x1 : Int32) (x2 : Int32) (h : Mm) : Option (Int32 × Mm) := (bp (X1_hasHouse 13 x1 h) (fun r6 => (if r6 = true then (if x2 < 0 then (some ((-1), h)) else (if (99) < x2 then (some ((-1), h)) else (bd (X8_bookToTry n x1 x2 h) (fun r8 h10 => (some (r8, h10)))))) else (some ((-1), h)))))
set_option maxRecDepth 100000 in
set_option maxHeartbeats 4000000 in
theorem s_X11_probe {X : WX} {o : Mm} {n : Nat} {x1 : Int32} {x2 : Int32} {rv : Int32} {hz : Mm} {h : Mm} (hF : X11_probe n x1 x2 h = some (rv, hz)) : Sat X yX11_probe cX11_probe 3 (some .int) 8 [.ref (xa X 0), .int x1, .int x2] true o h (some (.int rv)) hz := by
  unfold X11_probe at hF
  refine Sat.mk (own := RX11) rfl (by decide +kernel) (Nat.le_of_ble_eq_true rfl) (fun G => ?_)
  refine V.sub (lv2 := [(0, _), (1, _), (2, _)]) [0, 1, 2] rfl ?_
  refine V.aload_n 0 dX11_probe_0 rfl rfl ?_
  refine V.getR (v := 13) fl_X11_42 sh_0 rfl fx_0_4 (by decide) dX11_probe_1 ?_
  refine V.iload_n 1 dX11_probe_4 rfl rfl ?_
  obtain ⟨r6, hc7, hF⟩ := bp_s hF
  refine V.callVi mf_X1_hasHouse ml_X11_153 sh_13 (s_X1_hasHouse (Or.inr rfl) hc7) (by decide) rfl rfl (Nat.le_of_ble_eq_true rfl) dX11_probe_5 ?_
  refine V.ifz_eq (tgt := 33) dX11_probe_8 rfl (fun c => ?_) (fun c => ?_)
  · replace hF := (if_neg c).symm.trans hF
    refine V.iconst (v := -1) dX11_probe_33 rfl ?_
    cases hF
    exact V.iret dX11_probe_34
  · replace hF := (if_pos c).symm.trans hF
    refine V.iload_n 2 dX11_probe_11 rfl rfl ?_
    refine V.if_lt (tgt := 33) dX11_probe_12 rfl (fun c => ?_) (fun c => ?_)
    · replace hF := (if_pos c).symm.trans hF
      refine V.iconst (v := -1) dX11_probe_33 rfl ?_
      cases hF
      exact V.iret dX11_probe_34
    · replace hF := (if_neg c).symm.trans hF
      refine V.iload_n 2 dX11_probe_15 rfl rfl ?_
      refine V.bipush (v := 99) dX11_probe_16 (by decide) ?_
      refine V.icmp_gt (tgt := 33) dX11_probe_18 rfl (fun c => ?_) (fun c => ?_)
      · replace hF := (if_pos c).symm.trans hF
        refine V.iconst (v := -1) dX11_probe_33 rfl ?_
        cases hF
        exact V.iret dX11_probe_34
      · replace hF := (if_neg c).symm.trans hF
        refine V.aload_n 0 dX11_probe_21 rfl rfl ?_
        refine V.getR (v := 249) fl_X11_91 sh_0 rfl fx_0_11 (by decide) dX11_probe_22 ?_
        refine V.iload_n 1 dX11_probe_25 rfl rfl ?_
        refine V.iload_n 2 dX11_probe_26 rfl rfl ?_
        obtain ⟨r8, h10, hc9, hF⟩ := bd_s hF
        refine V.callVi mf_X8_bookToTry ml_X11_324 sh_249 (s_X8_bookToTry hc9) (by decide) rfl rfl (Nat.le_of_ble_eq_true rfl) dX11_probe_27 ?_
        refine V.goto (tgt := 34) dX11_probe_30 rfl ?_
        cases hF
        exact V.iret dX11_probe_34
/-! MonsterCot$Search.calmBehindSet -/
theorem dX6_calmBehindSet_0 : decode cX6_calmBehindSet 0 = .ok (.aload_n 0, 1) := by decide +kernel
theorem dX6_calmBehindSet_1 : decode cX6_calmBehindSet 1 = .ok (.getfield 34, 3) := by decide +kernel
theorem dX6_calmBehindSet_4 : decode cX6_calmBehindSet 4 = .ok (.getfield 45, 3) := by decide +kernel
theorem dX6_calmBehindSet_7 : decode cX6_calmBehindSet 7 = .ok (.aload_n 0, 1) := by decide +kernel
theorem dX6_calmBehindSet_8 : decode cX6_calmBehindSet 8 = .ok (.getfield 9, 3) := by decide +kernel
theorem dX6_calmBehindSet_11 : decode cX6_calmBehindSet 11 = .ok (.invokestatic 48, 3) := by decide +kernel
theorem dX6_calmBehindSet_14 : decode cX6_calmBehindSet 14 = .ok (.aload_n 0, 1) := by decide +kernel
theorem dX6_calmBehindSet_15 : decode cX6_calmBehindSet 15 = .ok (.getfield 34, 3) := by decide +kernel
theorem dX6_calmBehindSet_18 : decode cX6_calmBehindSet 18 = .ok (.getfield 83, 3) := by decide +kernel
theorem dX6_calmBehindSet_21 : decode cX6_calmBehindSet 21 = .ok (.aload_n 0, 1) := by decide +kernel
theorem dX6_calmBehindSet_22 : decode cX6_calmBehindSet 22 = .ok (.getfield 34, 3) := by decide +kernel
theorem dX6_calmBehindSet_25 : decode cX6_calmBehindSet 25 = .ok (.getfield 86, 3) := by decide +kernel
theorem dX6_calmBehindSet_28 : decode cX6_calmBehindSet 28 = .ok (.invokestatic 79, 3) := by decide +kernel
theorem dX6_calmBehindSet_31 : decode cX6_calmBehindSet 31 = .ok (.istore_n 2, 1) := by decide +kernel
theorem dX6_calmBehindSet_32 : decode cX6_calmBehindSet 32 = .ok (.aload_n 0, 1) := by decide +kernel
theorem dX6_calmBehindSet_33 : decode cX6_calmBehindSet 33 = .ok (.getfield 34, 3) := by decide +kernel
theorem dX6_calmBehindSet_36 : decode cX6_calmBehindSet 36 = .ok (.getfield 89, 3) := by decide +kernel
theorem dX6_calmBehindSet_39 : decode cX6_calmBehindSet 39 = .ok (.aload_n 0, 1) := by decide +kernel
theorem dX6_calmBehindSet_40 : decode cX6_calmBehindSet 40 = .ok (.getfield 34, 3) := by decide +kernel
theorem dX6_calmBehindSet_43 : decode cX6_calmBehindSet 43 = .ok (.getfield 86, 3) := by decide +kernel
theorem dX6_calmBehindSet_46 : decode cX6_calmBehindSet 46 = .ok (.invokestatic 79, 3) := by decide +kernel
theorem dX6_calmBehindSet_49 : decode cX6_calmBehindSet 49 = .ok (.istore_n 3, 1) := by decide +kernel
theorem dX6_calmBehindSet_50 : decode cX6_calmBehindSet 50 = .ok (.aload_n 0, 1) := by decide +kernel
theorem dX6_calmBehindSet_51 : decode cX6_calmBehindSet 51 = .ok (.getfield 34, 3) := by decide +kernel
theorem dX6_calmBehindSet_54 : decode cX6_calmBehindSet 54 = .ok (.getfield 52, 3) := by decide +kernel
theorem dX6_calmBehindSet_57 : decode cX6_calmBehindSet 57 = .ok (.istore 4, 2) := by decide +kernel
theorem dX6_calmBehindSet_59 : decode cX6_calmBehindSet 59 = .ok (.iconst 0, 1) := by decide +kernel
theorem dX6_calmBehindSet_60 : decode cX6_calmBehindSet 60 = .ok (.istore 5, 2) := by decide +kernel
theorem dX6_calmBehindSet_62 : decode cX6_calmBehindSet 62 = .ok (.iload 5, 2) := by decide +kernel
theorem dX6_calmBehindSet_64 : decode cX6_calmBehindSet 64 = .ok (.aload_n 0, 1) := by decide +kernel
theorem dX6_calmBehindSet_65 : decode cX6_calmBehindSet 65 = .ok (.getfield 28, 3) := by decide +kernel
theorem dX6_calmBehindSet_68 : decode cX6_calmBehindSet 68 = .ok (.invokevirtual 59, 3) := by decide +kernel
theorem dX6_calmBehindSet_71 : decode cX6_calmBehindSet 71 = .ok (.if_icmp .ge 122, 3) := by decide +kernel
theorem dX6_calmBehindSet_74 : decode cX6_calmBehindSet 74 = .ok (.iload_n 1, 1) := by decide +kernel
theorem dX6_calmBehindSet_75 : decode cX6_calmBehindSet 75 = .ok (.iload 5, 2) := by decide +kernel
theorem dX6_calmBehindSet_77 : decode cX6_calmBehindSet 77 = .ok (.ishr, 1) := by decide +kernel
theorem dX6_calmBehindSet_78 : decode cX6_calmBehindSet 78 = .ok (.iconst 1, 1) := by decide +kernel
theorem dX6_calmBehindSet_79 : decode cX6_calmBehindSet 79 = .ok (.iand, 1) := by decide +kernel
theorem dX6_calmBehindSet_80 : decode cX6_calmBehindSet 80 = .ok (.ifCond .eq 107, 3) := by decide +kernel
theorem dX6_calmBehindSet_83 : decode cX6_calmBehindSet 83 = .ok (.aload_n 0, 1) := by decide +kernel
theorem dX6_calmBehindSet_84 : decode cX6_calmBehindSet 84 = .ok (.getfield 28, 3) := by decide +kernel
theorem dX6_calmBehindSet_87 : decode cX6_calmBehindSet 87 = .ok (.iload 5, 2) := by decide +kernel
theorem dX6_calmBehindSet_89 : decode cX6_calmBehindSet 89 = .ok (.invokevirtual 95, 3) := by decide +kernel
theorem dX6_calmBehindSet_92 : decode cX6_calmBehindSet 92 = .ok (.istore 6, 2) := by decide +kernel
theorem dX6_calmBehindSet_94 : decode cX6_calmBehindSet 94 = .ok (.iload_n 3, 1) := by decide +kernel
theorem dX6_calmBehindSet_95 : decode cX6_calmBehindSet 95 = .ok (.iload 6, 2) := by decide +kernel
theorem dX6_calmBehindSet_97 : decode cX6_calmBehindSet 97 = .ok (.iadd, 1) := by decide +kernel
theorem dX6_calmBehindSet_98 : decode cX6_calmBehindSet 98 = .ok (.aload_n 0, 1) := by decide +kernel
theorem dX6_calmBehindSet_99 : decode cX6_calmBehindSet 99 = .ok (.getfield 28, 3) := by decide +kernel
theorem dX6_calmBehindSet_102 : decode cX6_calmBehindSet 102 = .ok (.aload_n 0, 1) := by decide +kernel
theorem dX6_calmBehindSet_103 : decode cX6_calmBehindSet 103 = .ok (.getfield 34, 3) := by decide +kernel
theorem dX6_calmBehindSet_106 : decode cX6_calmBehindSet 106 = .ok (.getfield 86, 3) := by decide +kernel
theorem dX6_calmBehindSet_109 : decode cX6_calmBehindSet 109 = .ok (.invokevirtual 92, 3) := by decide +kernel
theorem dX6_calmBehindSet_112 : decode cX6_calmBehindSet 112 = .ok (.if_icmp .le 5, 3) := by decide +kernel
theorem dX6_calmBehindSet_115 : decode cX6_calmBehindSet 115 = .ok (.iconst (-1), 1) := by decide +kernel
theorem dX6_calmBehindSet_116 : decode cX6_calmBehindSet 116 = .ok (.ireturn, 1) := by decide +kernel
theorem dX6_calmBehindSet_117 : decode cX6_calmBehindSet 117 = .ok (.aload_n 0, 1) := by decide +kernel
theorem dX6_calmBehindSet_118 : decode cX6_calmBehindSet 118 = .ok (.getfield 28, 3) := by decide +kernel
theorem dX6_calmBehindSet_121 : decode cX6_calmBehindSet 121 = .ok (.iload 5, 2) := by decide +kernel
theorem dX6_calmBehindSet_123 : decode cX6_calmBehindSet 123 = .ok (.invokevirtual 76, 3) := by decide +kernel
theorem dX6_calmBehindSet_126 : decode cX6_calmBehindSet 126 = .ok (.istore 7, 2) := by decide +kernel
theorem dX6_calmBehindSet_128 : decode cX6_calmBehindSet 128 = .ok (.aload_n 0, 1) := by decide +kernel
theorem dX6_calmBehindSet_129 : decode cX6_calmBehindSet 129 = .ok (.getfield 18, 3) := by decide +kernel
theorem dX6_calmBehindSet_132 : decode cX6_calmBehindSet 132 = .ok (.iload 4, 2) := by decide +kernel
theorem dX6_calmBehindSet_134 : decode cX6_calmBehindSet 134 = .ok (.iload 5, 2) := by decide +kernel
theorem dX6_calmBehindSet_136 : decode cX6_calmBehindSet 136 = .ok (.iload 6, 2) := by decide +kernel
theorem dX6_calmBehindSet_138 : decode cX6_calmBehindSet 138 = .ok (.iload_n 2, 1) := by decide +kernel
theorem dX6_calmBehindSet_139 : decode cX6_calmBehindSet 139 = .ok (.aload_n 0, 1) := by decide +kernel
theorem dX6_calmBehindSet_140 : decode cX6_calmBehindSet 140 = .ok (.getfield 9, 3) := by decide +kernel
theorem dX6_calmBehindSet_143 : decode cX6_calmBehindSet 143 = .ok (.iload 7, 2) := by decide +kernel
theorem dX6_calmBehindSet_145 : decode cX6_calmBehindSet 145 = .ok (.invokestatic 79, 3) := by decide +kernel
theorem dX6_calmBehindSet_148 : decode cX6_calmBehindSet 148 = .ok (.aload_n 0, 1) := by decide +kernel
theorem dX6_calmBehindSet_149 : decode cX6_calmBehindSet 149 = .ok (.getfield 34, 3) := by decide +kernel
theorem dX6_calmBehindSet_152 : decode cX6_calmBehindSet 152 = .ok (.getfield 107, 3) := by decide +kernel
theorem dX6_calmBehindSet_155 : decode cX6_calmBehindSet 155 = .ok (.iload_n 3, 1) := by decide +kernel
theorem dX6_calmBehindSet_156 : decode cX6_calmBehindSet 156 = .ok (.invokevirtual 146, 3) := by decide +kernel
theorem dX6_calmBehindSet_159 : decode cX6_calmBehindSet 159 = .ok (.istore 4, 2) := by decide +kernel
theorem dX6_calmBehindSet_161 : decode cX6_calmBehindSet 161 = .ok (.aload_n 0, 1) := by decide +kernel
theorem dX6_calmBehindSet_162 : decode cX6_calmBehindSet 162 = .ok (.getfield 9, 3) := by decide +kernel
theorem dX6_calmBehindSet_165 : decode cX6_calmBehindSet 165 = .ok (.iload 7, 2) := by decide +kernel
theorem dX6_calmBehindSet_167 : decode cX6_calmBehindSet 167 = .ok (.aload_n 0, 1) := by decide +kernel
theorem dX6_calmBehindSet_168 : decode cX6_calmBehindSet 168 = .ok (.getfield 9, 3) := by decide +kernel
theorem dX6_calmBehindSet_171 : decode cX6_calmBehindSet 171 = .ok (.iload 7, 2) := by decide +kernel
theorem dX6_calmBehindSet_173 : decode cX6_calmBehindSet 173 = .ok (.invokestatic 79, 3) := by decide +kernel
theorem dX6_calmBehindSet_176 : decode cX6_calmBehindSet 176 = .ok (.invokestatic 123, 3) := by decide +kernel
theorem dX6_calmBehindSet_179 : decode cX6_calmBehindSet 179 = .ok (.invokestatic 126, 3) := by decide +kernel
theorem dX6_calmBehindSet_182 : decode cX6_calmBehindSet 182 = .ok (.iload_n 3, 1) := by decide +kernel
theorem dX6_calmBehindSet_183 : decode cX6_calmBehindSet 183 = .ok (.iload 6, 2) := by decide +kernel
theorem dX6_calmBehindSet_185 : decode cX6_calmBehindSet 185 = .ok (.iadd, 1) := by decide +kernel
theorem dX6_calmBehindSet_186 : decode cX6_calmBehindSet 186 = .ok (.istore_n 3, 1) := by decide +kernel
theorem dX6_calmBehindSet_187 : decode cX6_calmBehindSet 187 = .ok (.iinc 5 1, 3) := by decide +kernel
theorem dX6_calmBehindSet_190 : decode cX6_calmBehindSet 190 = .ok (.goto (-128), 3) := by decide +kernel
theorem dX6_calmBehindSet_193 : decode cX6_calmBehindSet 193 = .ok (.iload 4, 2) := by decide +kernel
theorem dX6_calmBehindSet_195 : decode cX6_calmBehindSet 195 = .ok (.ireturn, 1) := by decide +kernel
def X6_calmBehindSet_187 (n : Nat) (K62 : Int32 → Int32 → Int32 → Int32 → Int32 → Mm → Option (Int32 × Mm)) (x1 : Int32) (x2 : Int32) (x3 : Int32) (x4 : Int32) (x5 : Int32) (h : Mm) : Option (Int32 × Mm) := (K62 x1 x2 x3 x4 (x5 + (1)) h)
set_option maxRecDepth 100000 in
set_option maxHeartbeats 4000000 in
theorem v_X6_calmBehindSet_187 {X : WX} {G : GX} {o : Mm} {n : Nat} {K62 : Int32 → Int32 → Int32 → Int32 → Int32 → Mm → Option (Int32 × Mm)} {rv : Int32} {hz : Mm} (hK62 : ∀ (x1 : Int32) (x2 : Int32) (x3 : Int32) (x4 : Int32) (x5 : Int32) (h : Mm), K62 x1 x2 x3 x4 x5 h = some (rv, hz) → V X G RX6 cX6_calmBehindSet 8 (some .int) 5 0 0 (QR X G true o (some (.int rv)) hz) true o 62 [(0, .ref (xa X 246)), (1, .int x1), (2, .int x2), (3, .int x3), (4, .int x4), (5, .int x5)] [] h) {x1 : Int32} {x2 : Int32} {x3 : Int32} {x4 : Int32} {x5 : Int32} {h : Mm} (hF : X6_calmBehindSet_187 n K62 x1 x2 x3 x4 x5 h = some (rv, hz)) : V X G RX6 cX6_calmBehindSet 8 (some .int) 5 0 0 (QR X G true o (some (.int rv)) hz) true o 187 [(0, .ref (xa X 246)), (1, .int x1), (2, .int x2), (3, .int x3), (4, .int x4), (5, .int x5)] [] h := by
  unfold X6_calmBehindSet_187 at hF
  refine V.iinc (v := (x5 + (1))) 5 [(5, _), (0, _), (1, _), (2, _), (3, _), (4, _)] dX6_calmBehindSet_187 rfl rfl (by decide) rfl ?_
  refine V.goto (tgt := 62) dX6_calmBehindSet_190 rfl ?_
  exact V.sub [1, 2, 3, 4, 5, 0] rfl (hK62 _ _ _ _ _ _ hF)
def X6_calmBehindSet_62 (n : Nat) : Nat → Int32 → Int32 → Int32 → Int32 → Int32 → Mm → Option (Int32 × Mm)
  | 0, _, _, _, _, _, _ => none
  | f + 1, x1, x2, x3, x4, x5, h => (bp (X1_books 13 h) (fun r109 => (if r109 ≤ x5 then (some (x4, h)) else (if ((x1 >>> (x5 &&& 31)) &&& (1)) = 0 then (X6_calmBehindSet_187 n (X6_calmBehindSet_62 n f) x1 x2 x3 x4 x5 h) else (bp (X1_pagesOf 13 x5 h) (fun r111 => (bp (X1_strengthOf 13 (h.1 27 5) h) (fun r113 => (if (x3 + r111) ≤ r113 then (bp (X1_kindOf 13 x5 h) (fun r115 => (bp (X11_at 247 r115 h) (fun r117 => (bd (X9_calmBehind n x4 x5 r111 x2 r117 (h.1 27 6) x3 h) (fun r119 h121 => (bp (X11_at 247 r115 h121) (fun r122 => (bp (X9_moreBored r122 h121) (fun r124 => (bd (X11_put 247 r115 r124 h121) (fun _ h128 => (X6_calmBehindSet_187 n (X6_calmBehindSet_62 n f) x1 x2 (x3 + r111) r119 x5 h128))))))))))))) else (some ((-1), h)))))))))))
set_option maxRecDepth 100000 in
set_option maxHeartbeats 4000000 in
theorem v_X6_calmBehindSet_62 {X : WX} {G : GX} {o : Mm} {n : Nat} {rv : Int32} {hz : Mm} : ∀ (f : Nat) (x1 : Int32) (x2 : Int32) (x3 : Int32) (x4 : Int32) (x5 : Int32) (h : Mm), X6_calmBehindSet_62 n f x1 x2 x3 x4 x5 h = some (rv, hz) → V X G RX6 cX6_calmBehindSet 8 (some .int) 5 0 0 (QR X G true o (some (.int rv)) hz) true o 62 [(0, .ref (xa X 246)), (1, .int x1), (2, .int x2), (3, .int x3), (4, .int x4), (5, .int x5)] [] h := by
  intro f
  induction f with
  | zero => intro x1 x2 x3 x4 x5 h hF; exact nomatch (show (none : Option (Int32 × Mm)) = some (rv, hz) from hF)
  | succ f ih =>
    intro x1 x2 x3 x4 x5 h hF
    unfold X6_calmBehindSet_62 at hF
    refine V.iload 5 dX6_calmBehindSet_62 rfl ?_
    refine V.aload_n 0 dX6_calmBehindSet_64 rfl rfl ?_
    refine V.getR (v := 13) fl_X6_28 sh_246 rfl fx_246_1 (by decide) dX6_calmBehindSet_65 ?_
    obtain ⟨r109, hc110, hF⟩ := bp_s hF
    refine V.callVi mf_X1_books ml_X6_59 sh_13 (s_X1_books (Or.inr rfl) hc110) (by decide) rfl rfl (Nat.le_of_ble_eq_true rfl) dX6_calmBehindSet_68 ?_
    refine V.icmp_ge (tgt := 193) dX6_calmBehindSet_71 rfl (fun c => ?_) (fun c => ?_)
    · replace hF := (if_pos c).symm.trans hF
      refine V.iload 4 dX6_calmBehindSet_193 rfl ?_
      cases hF
      exact V.iret dX6_calmBehindSet_195
    · replace hF := (if_neg c).symm.trans hF
      refine V.iload_n 1 dX6_calmBehindSet_74 rfl rfl ?_
      refine V.iload 5 dX6_calmBehindSet_75 rfl ?_
      refine V.ishr dX6_calmBehindSet_77 ?_
      refine V.iconst (v := 1) dX6_calmBehindSet_78 rfl ?_
      refine V.iand dX6_calmBehindSet_79 ?_
      refine V.if_eq (tgt := 187) dX6_calmBehindSet_80 rfl (fun c => ?_) (fun c => ?_)
      · replace hF := (if_pos c).symm.trans hF
        exact (v_X6_calmBehindSet_187 ih hF)
      · replace hF := (if_neg c).symm.trans hF
        refine V.aload_n 0 dX6_calmBehindSet_83 rfl rfl ?_
        refine V.getR (v := 13) fl_X6_28 sh_246 rfl fx_246_1 (by decide) dX6_calmBehindSet_84 ?_
        refine V.iload 5 dX6_calmBehindSet_87 rfl ?_
        obtain ⟨r111, hc112, hF⟩ := bp_s hF
        refine V.callVi mf_X1_pagesOf ml_X6_95 sh_13 (s_X1_pagesOf (Or.inr rfl) hc112) (by decide) rfl rfl (Nat.le_of_ble_eq_true rfl) dX6_calmBehindSet_89 ?_
        refine V.istore [(6, _), (0, _), (1, _), (2, _), (3, _), (4, _), (5, _)] dX6_calmBehindSet_92 (by decide) rfl ?_
        refine V.iload_n 4 dX6_calmBehindSet_94 rfl rfl ?_
        refine V.iload 0 dX6_calmBehindSet_95 rfl ?_
        refine V.iadd dX6_calmBehindSet_97 ?_
        refine V.aload_n 1 dX6_calmBehindSet_98 rfl rfl ?_
        refine V.getR (v := 13) fl_X6_28 sh_246 rfl fx_246_1 (by decide) dX6_calmBehindSet_99 ?_
        refine V.aload_n 1 dX6_calmBehindSet_102 rfl rfl ?_
        refine V.getR (v := 27) fl_X6_34 sh_246 rfl fx_246_3 (by decide) dX6_calmBehindSet_103 ?_
        refine V.getI fl_X6_86 sh_27 rfl km_27 dX6_calmBehindSet_106 ?_
        obtain ⟨r113, hc114, hF⟩ := bp_s hF
        refine V.callVi mf_X1_strengthOf ml_X6_92 sh_13 (s_X1_strengthOf (Or.inr rfl) hc114) (by decide) rfl rfl (Nat.le_of_ble_eq_true rfl) dX6_calmBehindSet_109 ?_
        refine V.icmp_le (tgt := 117) dX6_calmBehindSet_112 rfl (fun c => ?_) (fun c => ?_)
        · replace hF := (if_pos c).symm.trans hF
          refine V.aload_n 1 dX6_calmBehindSet_117 rfl rfl ?_
          refine V.getR (v := 13) fl_X6_28 sh_246 rfl fx_246_1 (by decide) dX6_calmBehindSet_118 ?_
          refine V.iload 6 dX6_calmBehindSet_121 rfl ?_
          obtain ⟨r115, hc116, hF⟩ := bp_s hF
          refine V.callVi mf_X1_kindOf ml_X6_76 sh_13 (s_X1_kindOf (Or.inr rfl) hc116) (by decide) rfl rfl (Nat.le_of_ble_eq_true rfl) dX6_calmBehindSet_123 ?_
          refine V.istore [(7, _), (6, _), (0, _), (1, _), (2, _), (3, _), (4, _), (5, _)] dX6_calmBehindSet_126 (by decide) rfl ?_
          refine V.aload_n 2 dX6_calmBehindSet_128 rfl rfl ?_
          refine V.getR (v := 26) fl_X6_18 sh_246 rfl fx_246_0 (by decide) dX6_calmBehindSet_129 ?_
          refine V.iload 6 dX6_calmBehindSet_132 rfl ?_
          refine V.iload 7 dX6_calmBehindSet_134 rfl ?_
          refine V.iload 1 dX6_calmBehindSet_136 rfl ?_
          refine V.iload_n 4 dX6_calmBehindSet_138 rfl rfl ?_
          refine V.aload_n 2 dX6_calmBehindSet_139 rfl rfl ?_
          refine V.getR (v := 247) fl_X6_9 sh_246 rfl fx_246_4 (by decide) dX6_calmBehindSet_140 ?_
          refine V.iload 0 dX6_calmBehindSet_143 rfl ?_
          obtain ⟨r117, hc118, hF⟩ := bp_s hF
          refine V.callNi mf_X11_at ml_X6_79 (s_X11_at (Or.inl io_247) hc118) (by decide) rfl rfl (Nat.le_of_ble_eq_true rfl) dX6_calmBehindSet_145 ?_
          refine V.aload_n 2 dX6_calmBehindSet_148 rfl rfl ?_
          refine V.getR (v := 27) fl_X6_34 sh_246 rfl fx_246_3 (by decide) dX6_calmBehindSet_149 ?_
          refine V.getI fl_X6_107 sh_27 rfl km_27 dX6_calmBehindSet_152 ?_
          refine V.iload_n 5 dX6_calmBehindSet_155 rfl rfl ?_
          obtain ⟨r119, h121, hc120, hF⟩ := bd_s hF
          refine V.callVi mf_X9_calmBehind ml_X6_146 sh_26 (s_X9_calmBehind hc120) (by decide) rfl rfl (Nat.le_of_ble_eq_true rfl) dX6_calmBehindSet_156 ?_
          refine V.istore [(4, _), (7, _), (6, _), (0, _), (1, _), (2, _), (3, _), (5, _)] dX6_calmBehindSet_159 (by decide) rfl ?_
          refine V.aload_n 3 dX6_calmBehindSet_161 rfl rfl ?_
          refine V.getR (v := 247) fl_X6_9 sh_246 rfl fx_246_4 (by decide) dX6_calmBehindSet_162 ?_
          refine V.iload 1 dX6_calmBehindSet_165 rfl ?_
          refine V.aload_n 3 dX6_calmBehindSet_167 rfl rfl ?_
          refine V.getR (v := 247) fl_X6_9 sh_246 rfl fx_246_4 (by decide) dX6_calmBehindSet_168 ?_
          refine V.iload 1 dX6_calmBehindSet_171 rfl ?_
          obtain ⟨r122, hc123, hF⟩ := bp_s hF
          refine V.callNi mf_X11_at ml_X6_79 (s_X11_at (Or.inl io_247) hc123) (by decide) rfl rfl (Nat.le_of_ble_eq_true rfl) dX6_calmBehindSet_173 ?_
          obtain ⟨r124, hc125, hF⟩ := bp_s hF
          refine V.callSi mf_X9_moreBored ml_X6_123 (s_X9_moreBored hc125) (by decide) rfl rfl (Nat.le_of_ble_eq_true rfl) dX6_calmBehindSet_176 ?_
          obtain ⟨r126, h128, hc127, hF⟩ := bd_s hF
          refine V.callNv mf_X11_put ml_X6_126 (s_X11_put io_247 hc127) (by decide) rfl rfl (Nat.le_of_ble_eq_true rfl) dX6_calmBehindSet_179 ?_
          refine V.iload_n 6 dX6_calmBehindSet_182 rfl rfl ?_
          refine V.iload 2 dX6_calmBehindSet_183 rfl ?_
          refine V.iadd dX6_calmBehindSet_185 ?_
          refine V.istore_n [(3, _), (4, _), (7, _), (6, _), (0, _), (1, _), (2, _), (5, _)] dX6_calmBehindSet_186 rfl (by decide) rfl ?_
          exact V.sub [4, 5, 6, 0, 1, 7] rfl (v_X6_calmBehindSet_187 ih hF)
        · replace hF := (if_neg c).symm.trans hF
          refine V.iconst (v := -1) dX6_calmBehindSet_115 rfl ?_
          cases hF
          exact V.iret dX6_calmBehindSet_116
def X6_calmBehindSet (n : Nat) (x1 : Int32) (h : Mm) : Option (Int32 × Mm) := (bd (X11_copy 28 247 h) (fun _ h131 => (bp (X11_at 30 (h131.1 27 5) h131) (fun r132 => (bp (X11_at 29 (h131.1 27 5) h131) (fun r134 => (X6_calmBehindSet_62 n n x1 r132 r134 (h131.1 27 4) (0) h131)))))))
set_option maxRecDepth 100000 in
set_option maxHeartbeats 4000000 in
theorem s_X6_calmBehindSet {X : WX} {o : Mm} {n : Nat} {x1 : Int32} {rv : Int32} {hz : Mm} {h : Mm} (hF : X6_calmBehindSet n x1 h = some (rv, hz)) : Sat X yX6_calmBehindSet cX6_calmBehindSet 8 (some .int) 5 [.ref (xa X 246), .int x1] true o h (some (.int rv)) hz := by
  unfold X6_calmBehindSet at hF
  refine Sat.mk (own := RX6) rfl (by decide +kernel) (Nat.le_of_ble_eq_true rfl) (fun G => ?_)
  refine V.sub (lv2 := [(0, _), (1, _)]) [0, 1] rfl ?_
  refine V.aload_n 0 dX6_calmBehindSet_0 rfl rfl ?_
  refine V.getR (v := 27) fl_X6_34 sh_246 rfl fx_246_3 (by decide) dX6_calmBehindSet_1 ?_
  refine V.getR (v := 28) fl_X6_45 sh_27 rfl fx_27_0 (by decide) dX6_calmBehindSet_4 ?_
  refine V.aload_n 0 dX6_calmBehindSet_7 rfl rfl ?_
  refine V.getR (v := 247) fl_X6_9 sh_246 rfl fx_246_4 (by decide) dX6_calmBehindSet_8 ?_
  obtain ⟨r129, h131, hc130, hF⟩ := bd_s hF
  refine V.callNv mf_X11_copy ml_X6_48 (s_X11_copy io_28 io_247 hc130) (by decide) rfl rfl (Nat.le_of_ble_eq_true rfl) dX6_calmBehindSet_11 ?_
  refine V.aload_n 0 dX6_calmBehindSet_14 rfl rfl ?_
  refine V.getR (v := 27) fl_X6_34 sh_246 rfl fx_246_3 (by decide) dX6_calmBehindSet_15 ?_
  refine V.getR (v := 30) fl_X6_83 sh_27 rfl fx_27_2 (by decide) dX6_calmBehindSet_18 ?_
  refine V.aload_n 0 dX6_calmBehindSet_21 rfl rfl ?_
  refine V.getR (v := 27) fl_X6_34 sh_246 rfl fx_246_3 (by decide) dX6_calmBehindSet_22 ?_
  refine V.getI fl_X6_86 sh_27 rfl km_27 dX6_calmBehindSet_25 ?_
  obtain ⟨r132, hc133, hF⟩ := bp_s hF
  refine V.callNi mf_X11_at ml_X6_79 (s_X11_at (Or.inl io_30) hc133) (by decide) rfl rfl (Nat.le_of_ble_eq_true rfl) dX6_calmBehindSet_28 ?_
  refine V.istore_n [(2, _), (0, _), (1, _)] dX6_calmBehindSet_31 rfl (by decide) rfl ?_
  refine V.aload_n 1 dX6_calmBehindSet_32 rfl rfl ?_
  refine V.getR (v := 27) fl_X6_34 sh_246 rfl fx_246_3 (by decide) dX6_calmBehindSet_33 ?_
  refine V.getR (v := 29) fl_X6_89 sh_27 rfl fx_27_1 (by decide) dX6_calmBehindSet_36 ?_
  refine V.aload_n 1 dX6_calmBehindSet_39 rfl rfl ?_
  refine V.getR (v := 27) fl_X6_34 sh_246 rfl fx_246_3 (by decide) dX6_calmBehindSet_40 ?_
  refine V.getI fl_X6_86 sh_27 rfl km_27 dX6_calmBehindSet_43 ?_
  obtain ⟨r134, hc135, hF⟩ := bp_s hF
  refine V.callNi mf_X11_at ml_X6_79 (s_X11_at (Or.inl io_29) hc135) (by decide) rfl rfl (Nat.le_of_ble_eq_true rfl) dX6_calmBehindSet_46 ?_
  refine V.istore_n [(3, _), (2, _), (0, _), (1, _)] dX6_calmBehindSet_49 rfl (by decide) rfl ?_
  refine V.aload_n 2 dX6_calmBehindSet_50 rfl rfl ?_
  refine V.getR (v := 27) fl_X6_34 sh_246 rfl fx_246_3 (by decide) dX6_calmBehindSet_51 ?_
  refine V.getI fl_X6_52 sh_27 rfl km_27 dX6_calmBehindSet_54 ?_
  refine V.istore [(4, _), (3, _), (2, _), (0, _), (1, _)] dX6_calmBehindSet_57 (by decide) rfl ?_
  refine V.iconst (v := 0) dX6_calmBehindSet_59 rfl ?_
  refine V.istore [(5, _), (4, _), (3, _), (2, _), (0, _), (1, _)] dX6_calmBehindSet_60 (by decide) rfl ?_
  exact V.sub [4, 5, 3, 2, 1, 0] rfl (v_X6_calmBehindSet_62 n _ _ _ _ _ _ hF)
/-! MonsterCot$Search.setsFor -/
theorem dX6_setsFor_0 : decode cX6_setsFor 0 = .ok (.iconst 0, 1) := by decide +kernel
theorem dX6_setsFor_1 : decode cX6_setsFor 1 = .ok (.istore_n 3, 1) := by decide +kernel
theorem dX6_setsFor_2 : decode cX6_setsFor 2 = .ok (.iconst 0, 1) := by decide +kernel
theorem dX6_setsFor_3 : decode cX6_setsFor 3 = .ok (.istore 4, 2) := by decide +kernel
theorem dX6_setsFor_5 : decode cX6_setsFor 5 = .ok (.iload 4, 2) := by decide +kernel
theorem dX6_setsFor_7 : decode cX6_setsFor 7 = .ok (.iconst 1, 1) := by decide +kernel
theorem dX6_setsFor_8 : decode cX6_setsFor 8 = .ok (.aload_n 0, 1) := by decide +kernel
theorem dX6_setsFor_9 : decode cX6_setsFor 9 = .ok (.getfield 28, 3) := by decide +kernel
theorem dX6_setsFor_12 : decode cX6_setsFor 12 = .ok (.invokevirtual 59, 3) := by decide +kernel
theorem dX6_setsFor_15 : decode cX6_setsFor 15 = .ok (.ishl, 1) := by decide +kernel
theorem dX6_setsFor_16 : decode cX6_setsFor 16 = .ok (.if_icmp .ge 43, 3) := by decide +kernel
theorem dX6_setsFor_19 : decode cX6_setsFor 19 = .ok (.iload 4, 2) := by decide +kernel
theorem dX6_setsFor_21 : decode cX6_setsFor 21 = .ok (.aload_n 0, 1) := by decide +kernel
theorem dX6_setsFor_22 : decode cX6_setsFor 22 = .ok (.getfield 34, 3) := by decide +kernel
theorem dX6_setsFor_25 : decode cX6_setsFor 25 = .ok (.getfield 65, 3) := by decide +kernel
theorem dX6_setsFor_28 : decode cX6_setsFor 28 = .ok (.iand, 1) := by decide +kernel
theorem dX6_setsFor_29 : decode cX6_setsFor 29 = .ok (.ifCond .ne 24, 3) := by decide +kernel
theorem dX6_setsFor_32 : decode cX6_setsFor 32 = .ok (.aload_n 0, 1) := by decide +kernel
theorem dX6_setsFor_33 : decode cX6_setsFor 33 = .ok (.iload 4, 2) := by decide +kernel
theorem dX6_setsFor_35 : decode cX6_setsFor 35 = .ok (.invokevirtual 159, 3) := by decide +kernel
theorem dX6_setsFor_38 : decode cX6_setsFor 38 = .ok (.iload_n 1, 1) := by decide +kernel
theorem dX6_setsFor_39 : decode cX6_setsFor 39 = .ok (.if_icmp .ne 14, 3) := by decide +kernel
theorem dX6_setsFor_42 : decode cX6_setsFor 42 = .ok (.iload_n 3, 1) := by decide +kernel
theorem dX6_setsFor_43 : decode cX6_setsFor 43 = .ok (.iload_n 2, 1) := by decide +kernel
theorem dX6_setsFor_44 : decode cX6_setsFor 44 = .ok (.if_icmp .ne 6, 3) := by decide +kernel
theorem dX6_setsFor_47 : decode cX6_setsFor 47 = .ok (.iload 4, 2) := by decide +kernel
theorem dX6_setsFor_49 : decode cX6_setsFor 49 = .ok (.ireturn, 1) := by decide +kernel
theorem dX6_setsFor_50 : decode cX6_setsFor 50 = .ok (.iinc 3 1, 3) := by decide +kernel
theorem dX6_setsFor_53 : decode cX6_setsFor 53 = .ok (.iinc 4 1, 3) := by decide +kernel
theorem dX6_setsFor_56 : decode cX6_setsFor 56 = .ok (.goto (-51), 3) := by decide +kernel
theorem dX6_setsFor_59 : decode cX6_setsFor 59 = .ok (.iload_n 2, 1) := by decide +kernel
theorem dX6_setsFor_60 : decode cX6_setsFor 60 = .ok (.iconst (-1), 1) := by decide +kernel
theorem dX6_setsFor_61 : decode cX6_setsFor 61 = .ok (.if_icmp .ne 7, 3) := by decide +kernel
theorem dX6_setsFor_64 : decode cX6_setsFor 64 = .ok (.iload_n 3, 1) := by decide +kernel
theorem dX6_setsFor_65 : decode cX6_setsFor 65 = .ok (.goto 4, 3) := by decide +kernel
theorem dX6_setsFor_68 : decode cX6_setsFor 68 = .ok (.iconst (-1), 1) := by decide +kernel
theorem dX6_setsFor_69 : decode cX6_setsFor 69 = .ok (.ireturn, 1) := by decide +kernel
def X6_setsFor_53 (n : Nat) (K5 : Int32 → Int32 → Int32 → Int32 → Mm → Option (Int32 × Mm)) (x1 : Int32) (x2 : Int32) (x3 : Int32) (x4 : Int32) (h : Mm) : Option (Int32 × Mm) := (K5 x1 x2 x3 (x4 + (1)) h)
set_option maxRecDepth 100000 in
set_option maxHeartbeats 4000000 in
theorem v_X6_setsFor_53 {X : WX} {G : GX} {o : Mm} {n : Nat} {K5 : Int32 → Int32 → Int32 → Int32 → Mm → Option (Int32 × Mm)} {rv : Int32} {hz : Mm} (hK5 : ∀ (x1 : Int32) (x2 : Int32) (x3 : Int32) (x4 : Int32) (h : Mm), K5 x1 x2 x3 x4 h = some (rv, hz) → V X G RX6 cX6_setsFor 5 (some .int) 6 0 0 (QR X G true o (some (.int rv)) hz) true o 5 [(0, .ref (xa X 246)), (1, .int x1), (2, .int x2), (3, .int x3), (4, .int x4)] [] h) {x1 : Int32} {x2 : Int32} {x3 : Int32} {x4 : Int32} {h : Mm} (hF : X6_setsFor_53 n K5 x1 x2 x3 x4 h = some (rv, hz)) : V X G RX6 cX6_setsFor 5 (some .int) 6 0 0 (QR X G true o (some (.int rv)) hz) true o 53 [(0, .ref (xa X 246)), (1, .int x1), (2, .int x2), (3, .int x3), (4, .int x4)] [] h := by
  unfold X6_setsFor_53 at hF
  refine V.iinc (v := (x4 + (1))) 4 [(4, _), (0, _), (1, _), (2, _), (3, _)] dX6_setsFor_53 rfl rfl (by decide) rfl ?_
  refine V.goto (tgt := 5) dX6_setsFor_56 rfl ?_
  exact V.sub [1, 2, 3, 4, 0] rfl (hK5 _ _ _ _ _ hF)
def X6_setsFor_5 (n : Nat) : Nat → Int32 → Int32 → Int32 → Int32 → Mm → Option (Int32 × Mm)
  | 0, _, _, _, _, _ => none
  | f + 1, x1, x2, x3, x4, h => (bp (X1_books 13 h) (fun r21 => (if ((1) <<< (r21 &&& 31)) ≤ x4 then (if x2 = (-1) then (some (x3, h)) else (some ((-1), h))) else (if (x4 &&& (h.1 27 9)) = 0 then (bd (X6_calmBehindSet n x4 h) (fun r23 h25 => (if r23 = x1 then (if x3 = x2 then (some (x4, h25)) else (X6_setsFor_53 n (X6_setsFor_5 n f) x1 x2 (x3 + (1)) x4 h25)) else (X6_setsFor_53 n (X6_setsFor_5 n f) x1 x2 x3 x4 h25)))) else (X6_setsFor_53 n (X6_setsFor_5 n f) x1 x2 x3 x4 h)))))
set_option maxRecDepth 100000 in
set_option maxHeartbeats 4000000 in
theorem v_X6_setsFor_5 {X : WX} {G : GX} {o : Mm} {n : Nat} {rv : Int32} {hz : Mm} : ∀ (f : Nat) (x1 : Int32) (x2 : Int32) (x3 : Int32) (x4 : Int32) (h : Mm), X6_setsFor_5 n f x1 x2 x3 x4 h = some (rv, hz) → V X G RX6 cX6_setsFor 5 (some .int) 6 0 0 (QR X G true o (some (.int rv)) hz) true o 5 [(0, .ref (xa X 246)), (1, .int x1), (2, .int x2), (3, .int x3), (4, .int x4)] [] h := by
  intro f
  induction f with
  | zero => intro x1 x2 x3 x4 h hF; exact nomatch (show (none : Option (Int32 × Mm)) = some (rv, hz) from hF)
  | succ f ih =>
    intro x1 x2 x3 x4 h hF
    unfold X6_setsFor_5 at hF
    refine V.iload 4 dX6_setsFor_5 rfl ?_
    refine V.iconst (v := 1) dX6_setsFor_7 rfl ?_
    refine V.aload_n 0 dX6_setsFor_8 rfl rfl ?_
    refine V.getR (v := 13) fl_X6_28 sh_246 rfl fx_246_1 (by decide) dX6_setsFor_9 ?_
    obtain ⟨r21, hc22, hF⟩ := bp_s hF
    refine V.callVi mf_X1_books ml_X6_59 sh_13 (s_X1_books (Or.inr rfl) hc22) (by decide) rfl rfl (Nat.le_of_ble_eq_true rfl) dX6_setsFor_12 ?_
    refine V.ishl dX6_setsFor_15 ?_
    refine V.icmp_ge (tgt := 59) dX6_setsFor_16 rfl (fun c => ?_) (fun c => ?_)
    · replace hF := (if_pos c).symm.trans hF
      refine V.iload_n 2 dX6_setsFor_59 rfl rfl ?_
      refine V.iconst (v := -1) dX6_setsFor_60 rfl ?_
      refine V.icmp_ne (tgt := 68) dX6_setsFor_61 rfl (fun c => ?_) (fun c => ?_)
      · replace hF := (if_neg c).symm.trans hF
        refine V.iconst (v := -1) dX6_setsFor_68 rfl ?_
        cases hF
        exact V.iret dX6_setsFor_69
      · replace hF := (if_pos c).symm.trans hF
        refine V.iload_n 3 dX6_setsFor_64 rfl rfl ?_
        refine V.goto (tgt := 69) dX6_setsFor_65 rfl ?_
        cases hF
        exact V.iret dX6_setsFor_69
    · replace hF := (if_neg c).symm.trans hF
      refine V.iload 4 dX6_setsFor_19 rfl ?_
      refine V.aload_n 0 dX6_setsFor_21 rfl rfl ?_
      refine V.getR (v := 27) fl_X6_34 sh_246 rfl fx_246_3 (by decide) dX6_setsFor_22 ?_
      refine V.getI fl_X6_65 sh_27 rfl km_27 dX6_setsFor_25 ?_
      refine V.iand dX6_setsFor_28 ?_
      refine V.if_ne (tgt := 53) dX6_setsFor_29 rfl (fun c => ?_) (fun c => ?_)
      · replace hF := (if_neg c).symm.trans hF
        exact (v_X6_setsFor_53 ih hF)
      · replace hF := (if_pos c).symm.trans hF
        refine V.aload_n 0 dX6_setsFor_32 rfl rfl ?_
        refine V.iload 4 dX6_setsFor_33 rfl ?_
        obtain ⟨r23, h25, hc24, hF⟩ := bd_s hF
        refine V.callVi mf_X6_calmBehindSet ml_X6_159 sh_246 (s_X6_calmBehindSet hc24) (by decide) rfl rfl (Nat.le_of_ble_eq_true rfl) dX6_setsFor_35 ?_
        refine V.iload_n 1 dX6_setsFor_38 rfl rfl ?_
        refine V.icmp_ne (tgt := 53) dX6_setsFor_39 rfl (fun c => ?_) (fun c => ?_)
        · replace hF := (if_neg c).symm.trans hF
          exact (v_X6_setsFor_53 ih hF)
        · replace hF := (if_pos c).symm.trans hF
          refine V.iload_n 3 dX6_setsFor_42 rfl rfl ?_
          refine V.iload_n 2 dX6_setsFor_43 rfl rfl ?_
          refine V.icmp_ne (tgt := 50) dX6_setsFor_44 rfl (fun c => ?_) (fun c => ?_)
          · replace hF := (if_neg c).symm.trans hF
            refine V.iinc (v := (x3 + (1))) 3 [(3, _), (0, _), (1, _), (2, _), (4, _)] dX6_setsFor_50 rfl rfl (by decide) rfl ?_
            exact V.sub [1, 2, 3, 0, 4] rfl (v_X6_setsFor_53 ih hF)
          · replace hF := (if_pos c).symm.trans hF
            refine V.iload 4 dX6_setsFor_47 rfl ?_
            cases hF
            exact V.iret dX6_setsFor_49
def X6_setsFor (n : Nat) (x1 : Int32) (x2 : Int32) (h : Mm) : Option (Int32 × Mm) := (X6_setsFor_5 n n x1 x2 (0) (0) h)
set_option maxRecDepth 100000 in
set_option maxHeartbeats 4000000 in
theorem s_X6_setsFor {X : WX} {o : Mm} {n : Nat} {x1 : Int32} {x2 : Int32} {rv : Int32} {hz : Mm} {h : Mm} (hF : X6_setsFor n x1 x2 h = some (rv, hz)) : Sat X yX6_setsFor cX6_setsFor 5 (some .int) 6 [.ref (xa X 246), .int x1, .int x2] true o h (some (.int rv)) hz := by
  unfold X6_setsFor at hF
  refine Sat.mk (own := RX6) rfl (by decide +kernel) (Nat.le_of_ble_eq_true rfl) (fun G => ?_)
  refine V.sub (lv2 := [(0, _), (1, _), (2, _)]) [0, 1, 2] rfl ?_
  refine V.iconst (v := 0) dX6_setsFor_0 rfl ?_
  refine V.istore_n [(3, _), (0, _), (1, _), (2, _)] dX6_setsFor_1 rfl (by decide) rfl ?_
  refine V.iconst (v := 0) dX6_setsFor_2 rfl ?_
  refine V.istore [(4, _), (3, _), (0, _), (1, _), (2, _)] dX6_setsFor_3 (by decide) rfl ?_
  exact V.sub [2, 3, 4, 1, 0] rfl (v_X6_setsFor_5 n _ _ _ _ _ hF)
/-! MonsterCot.which -/
theorem dX11_which_0 : decode cX11_which 0 = .ok (.aload_n 0, 1) := by decide +kernel
theorem dX11_which_1 : decode cX11_which 1 = .ok (.getfield 42, 3) := by decide +kernel
theorem dX11_which_4 : decode cX11_which 4 = .ok (.invokevirtual 124, 3) := by decide +kernel
theorem dX11_which_7 : decode cX11_which 7 = .ok (.ifCond .eq 25, 3) := by decide +kernel
theorem dX11_which_10 : decode cX11_which 10 = .ok (.iload_n 1, 1) := by decide +kernel
theorem dX11_which_11 : decode cX11_which 11 = .ok (.ifCond .lt 21, 3) := by decide +kernel
theorem dX11_which_14 : decode cX11_which 14 = .ok (.iload_n 1, 1) := by decide +kernel
theorem dX11_which_15 : decode cX11_which 15 = .ok (.bipush 99, 2) := by decide +kernel
theorem dX11_which_17 : decode cX11_which 17 = .ok (.if_icmp .gt 15, 3) := by decide +kernel
theorem dX11_which_20 : decode cX11_which 20 = .ok (.aload_n 0, 1) := by decide +kernel
theorem dX11_which_21 : decode cX11_which 21 = .ok (.getfield 84, 3) := by decide +kernel
theorem dX11_which_24 : decode cX11_which 24 = .ok (.iload_n 1, 1) := by decide +kernel
theorem dX11_which_25 : decode cX11_which 25 = .ok (.iload_n 2, 1) := by decide +kernel
theorem dX11_which_26 : decode cX11_which 26 = .ok (.invokevirtual 327, 3) := by decide +kernel
theorem dX11_which_29 : decode cX11_which 29 = .ok (.goto 4, 3) := by decide +kernel
theorem dX11_which_32 : decode cX11_which 32 = .ok (.iconst (-1), 1) := by decide +kernel
theorem dX11_which_33 : decode cX11_which 33 = .ok (.ireturn, 1) := by decide +kernel
def X11_which (n : Nat) (x1 : Int32) (x2 : Int32) (h : Mm) : Option (Int32 × Mm) := (bp (X1_stands 13 h) (fun r6 => (if r6 = true then (if x1 < 0 then (some ((-1), h)) else (if (99) < x1 then (some ((-1), h)) else (bd (X6_setsFor n x1 x2 h) (fun r8 h10 => (some (r8, h10)))))) else (some ((-1), h)))))
set_option maxRecDepth 100000 in
set_option maxHeartbeats 4000000 in
theorem s_X11_which {X : WX} {o : Mm} {n : Nat} {x1 : Int32} {x2 : Int32} {rv : Int32} {hz : Mm} {h : Mm} (hF : X11_which n x1 x2 h = some (rv, hz)) : Sat X yX11_which cX11_which 3 (some .int) 7 [.ref (xa X 0), .int x1, .int x2] true o h (some (.int rv)) hz := by
  unfold X11_which at hF
  refine Sat.mk (own := RX11) rfl (by decide +kernel) (Nat.le_of_ble_eq_true rfl) (fun G => ?_)
  refine V.sub (lv2 := [(0, _), (1, _), (2, _)]) [0, 1, 2] rfl ?_
  refine V.aload_n 0 dX11_which_0 rfl rfl ?_
  refine V.getR (v := 13) fl_X11_42 sh_0 rfl fx_0_4 (by decide) dX11_which_1 ?_
  obtain ⟨r6, hc7, hF⟩ := bp_s hF
  refine V.callVi mf_X1_stands ml_X11_124 sh_13 (s_X1_stands (Or.inr rfl) hc7) (by decide) rfl rfl (Nat.le_of_ble_eq_true rfl) dX11_which_4 ?_
  refine V.ifz_eq (tgt := 32) dX11_which_7 rfl (fun c => ?_) (fun c => ?_)
  · replace hF := (if_neg c).symm.trans hF
    refine V.iconst (v := -1) dX11_which_32 rfl ?_
    cases hF
    exact V.iret dX11_which_33
  · replace hF := (if_pos c).symm.trans hF
    refine V.iload_n 1 dX11_which_10 rfl rfl ?_
    refine V.if_lt (tgt := 32) dX11_which_11 rfl (fun c => ?_) (fun c => ?_)
    · replace hF := (if_pos c).symm.trans hF
      refine V.iconst (v := -1) dX11_which_32 rfl ?_
      cases hF
      exact V.iret dX11_which_33
    · replace hF := (if_neg c).symm.trans hF
      refine V.iload_n 1 dX11_which_14 rfl rfl ?_
      refine V.bipush (v := 99) dX11_which_15 (by decide) ?_
      refine V.icmp_gt (tgt := 32) dX11_which_17 rfl (fun c => ?_) (fun c => ?_)
      · replace hF := (if_pos c).symm.trans hF
        refine V.iconst (v := -1) dX11_which_32 rfl ?_
        cases hF
        exact V.iret dX11_which_33
      · replace hF := (if_neg c).symm.trans hF
        refine V.aload_n 0 dX11_which_20 rfl rfl ?_
        refine V.getR (v := 246) fl_X11_84 sh_0 rfl fx_0_10 (by decide) dX11_which_21 ?_
        refine V.iload_n 1 dX11_which_24 rfl rfl ?_
        refine V.iload_n 2 dX11_which_25 rfl rfl ?_
        obtain ⟨r8, h10, hc9, hF⟩ := bd_s hF
        refine V.callVi mf_X6_setsFor ml_X11_327 sh_246 (s_X6_setsFor hc9) (by decide) rfl rfl (Nat.le_of_ble_eq_true rfl) dX11_which_26 ?_
        refine V.goto (tgt := 33) dX11_which_29 rfl ?_
        cases hF
        exact V.iret dX11_which_33
/-! MonsterCot.canPlay -/
theorem dX11_canPlay_0 : decode cX11_canPlay 0 = .ok (.aload_n 0, 1) := by decide +kernel
theorem dX11_canPlay_1 : decode cX11_canPlay 1 = .ok (.getfield 42, 3) := by decide +kernel
theorem dX11_canPlay_4 : decode cX11_canPlay 4 = .ok (.iload_n 1, 1) := by decide +kernel
theorem dX11_canPlay_5 : decode cX11_canPlay 5 = .ok (.invokevirtual 153, 3) := by decide +kernel
theorem dX11_canPlay_8 : decode cX11_canPlay 8 = .ok (.ifCond .eq 34, 3) := by decide +kernel
theorem dX11_canPlay_11 : decode cX11_canPlay 11 = .ok (.aload_n 0, 1) := by decide +kernel
theorem dX11_canPlay_12 : decode cX11_canPlay 12 = .ok (.getfield 42, 3) := by decide +kernel
theorem dX11_canPlay_15 : decode cX11_canPlay 15 = .ok (.iload_n 2, 1) := by decide +kernel
theorem dX11_canPlay_16 : decode cX11_canPlay 16 = .ok (.invokevirtual 153, 3) := by decide +kernel
theorem dX11_canPlay_19 : decode cX11_canPlay 19 = .ok (.ifCond .eq 23, 3) := by decide +kernel
theorem dX11_canPlay_22 : decode cX11_canPlay 22 = .ok (.iload_n 1, 1) := by decide +kernel
theorem dX11_canPlay_23 : decode cX11_canPlay 23 = .ok (.iload_n 2, 1) := by decide +kernel
theorem dX11_canPlay_24 : decode cX11_canPlay 24 = .ok (.if_icmp .eq 18, 3) := by decide +kernel
theorem dX11_canPlay_27 : decode cX11_canPlay 27 = .ok (.aload_n 0, 1) := by decide +kernel
theorem dX11_canPlay_28 : decode cX11_canPlay 28 = .ok (.getfield 42, 3) := by decide +kernel
theorem dX11_canPlay_31 : decode cX11_canPlay 31 = .ok (.iload_n 3, 1) := by decide +kernel
theorem dX11_canPlay_32 : decode cX11_canPlay 32 = .ok (.invokevirtual 137, 3) := by decide +kernel
theorem dX11_canPlay_35 : decode cX11_canPlay 35 = .ok (.ifCond .eq 7, 3) := by decide +kernel
theorem dX11_canPlay_38 : decode cX11_canPlay 38 = .ok (.iconst 1, 1) := by decide +kernel
theorem dX11_canPlay_39 : decode cX11_canPlay 39 = .ok (.goto 4, 3) := by decide +kernel
theorem dX11_canPlay_42 : decode cX11_canPlay 42 = .ok (.iconst 0, 1) := by decide +kernel
theorem dX11_canPlay_43 : decode cX11_canPlay 43 = .ok (.ireturn, 1) := by decide +kernel
def X11_canPlay (x1 : Int32) (x2 : Int32) (x3 : Int32) (h : Mm) : Option Bool := (bp (X1_hasHouse 13 x1 h) (fun r7 => (if r7 = true then (bp (X1_hasHouse 13 x2 h) (fun r9 => (if r9 = true then (if x1 = x2 then (some false) else (bp (X1_hasBook 13 x3 h) (fun r11 => (if r11 = true then (some true) else (some false))))) else (some false)))) else (some false))))
set_option maxRecDepth 100000 in
set_option maxHeartbeats 4000000 in
theorem s_X11_canPlay {X : WX} {o : Mm} {x1 : Int32} {x2 : Int32} {x3 : Int32} {rv : Bool} {h : Mm} (hF : X11_canPlay x1 x2 x3 h = some rv) : Sat X yX11_canPlay cX11_canPlay 4 (some .boolean) 4 [.ref (xa X 0), .int x1, .int x2, .int x3] true o h (some (.int (b2i rv))) h := by
  unfold X11_canPlay at hF
  refine Sat.mk (own := RX11) rfl (by decide +kernel) (Nat.le_of_ble_eq_true rfl) (fun G => ?_)
  refine V.sub (lv2 := [(0, _), (1, _), (2, _), (3, _)]) [0, 1, 2, 3] rfl ?_
  refine V.aload_n 0 dX11_canPlay_0 rfl rfl ?_
  refine V.getR (v := 13) fl_X11_42 sh_0 rfl fx_0_4 (by decide) dX11_canPlay_1 ?_
  refine V.iload_n 1 dX11_canPlay_4 rfl rfl ?_
  obtain ⟨r7, hc8, hF⟩ := bp_s hF
  refine V.callVi mf_X1_hasHouse ml_X11_153 sh_13 (s_X1_hasHouse (Or.inr rfl) hc8) (by decide) rfl rfl (Nat.le_of_ble_eq_true rfl) dX11_canPlay_5 ?_
  refine V.ifz_eq (tgt := 42) dX11_canPlay_8 rfl (fun c => ?_) (fun c => ?_)
  · replace hF := (if_neg c).symm.trans hF
    refine V.iconst (v := 0) dX11_canPlay_42 rfl ?_
    cases hF
    exact V.bret dX11_canPlay_43
  · replace hF := (if_pos c).symm.trans hF
    refine V.aload_n 0 dX11_canPlay_11 rfl rfl ?_
    refine V.getR (v := 13) fl_X11_42 sh_0 rfl fx_0_4 (by decide) dX11_canPlay_12 ?_
    refine V.iload_n 2 dX11_canPlay_15 rfl rfl ?_
    obtain ⟨r9, hc10, hF⟩ := bp_s hF
    refine V.callVi mf_X1_hasHouse ml_X11_153 sh_13 (s_X1_hasHouse (Or.inr rfl) hc10) (by decide) rfl rfl (Nat.le_of_ble_eq_true rfl) dX11_canPlay_16 ?_
    refine V.ifz_eq (tgt := 42) dX11_canPlay_19 rfl (fun c => ?_) (fun c => ?_)
    · replace hF := (if_neg c).symm.trans hF
      refine V.iconst (v := 0) dX11_canPlay_42 rfl ?_
      cases hF
      exact V.bret dX11_canPlay_43
    · replace hF := (if_pos c).symm.trans hF
      refine V.iload_n 1 dX11_canPlay_22 rfl rfl ?_
      refine V.iload_n 2 dX11_canPlay_23 rfl rfl ?_
      refine V.icmp_eq (tgt := 42) dX11_canPlay_24 rfl (fun c => ?_) (fun c => ?_)
      · replace hF := (if_pos c).symm.trans hF
        refine V.iconst (v := 0) dX11_canPlay_42 rfl ?_
        cases hF
        exact V.bret dX11_canPlay_43
      · replace hF := (if_neg c).symm.trans hF
        refine V.aload_n 0 dX11_canPlay_27 rfl rfl ?_
        refine V.getR (v := 13) fl_X11_42 sh_0 rfl fx_0_4 (by decide) dX11_canPlay_28 ?_
        refine V.iload_n 3 dX11_canPlay_31 rfl rfl ?_
        obtain ⟨r11, hc12, hF⟩ := bp_s hF
        refine V.callVi mf_X1_hasBook ml_X11_137 sh_13 (s_X1_hasBook (Or.inr rfl) hc12) (by decide) rfl rfl (Nat.le_of_ble_eq_true rfl) dX11_canPlay_32 ?_
        refine V.ifz_eq (tgt := 42) dX11_canPlay_35 rfl (fun c => ?_) (fun c => ?_)
        · replace hF := (if_neg c).symm.trans hF
          refine V.iconst (v := 0) dX11_canPlay_42 rfl ?_
          cases hF
          exact V.bret dX11_canPlay_43
        · replace hF := (if_pos c).symm.trans hF
          refine V.iconst (v := 1) dX11_canPlay_38 rfl ?_
          refine V.goto (tgt := 43) dX11_canPlay_39 rfl ?_
          cases hF
          exact V.bret dX11_canPlay_43
/-! MonsterCot$Search.enoughBehind -/
theorem dX6_enoughBehind_0 : decode cX6_enoughBehind 0 = .ok (.aload_n 0, 1) := by decide +kernel
theorem dX6_enoughBehind_1 : decode cX6_enoughBehind 1 = .ok (.getfield 34, 3) := by decide +kernel
theorem dX6_enoughBehind_4 : decode cX6_enoughBehind 4 = .ok (.getfield 45, 3) := by decide +kernel
theorem dX6_enoughBehind_7 : decode cX6_enoughBehind 7 = .ok (.aload_n 0, 1) := by decide +kernel
theorem dX6_enoughBehind_8 : decode cX6_enoughBehind 8 = .ok (.getfield 28, 3) := by decide +kernel
theorem dX6_enoughBehind_11 : decode cX6_enoughBehind 11 = .ok (.iload_n 3, 1) := by decide +kernel
theorem dX6_enoughBehind_12 : decode cX6_enoughBehind 12 = .ok (.invokevirtual 76, 3) := by decide +kernel
theorem dX6_enoughBehind_15 : decode cX6_enoughBehind 15 = .ok (.invokestatic 79, 3) := by decide +kernel
theorem dX6_enoughBehind_18 : decode cX6_enoughBehind 18 = .ok (.istore 6, 2) := by decide +kernel
theorem dX6_enoughBehind_20 : decode cX6_enoughBehind 20 = .ok (.iload 4, 2) := by decide +kernel
theorem dX6_enoughBehind_22 : decode cX6_enoughBehind 22 = .ok (.ifCond .ne 8, 3) := by decide +kernel
theorem dX6_enoughBehind_25 : decode cX6_enoughBehind 25 = .ok (.iload 6, 2) := by decide +kernel
theorem dX6_enoughBehind_27 : decode cX6_enoughBehind 27 = .ok (.goto 8, 3) := by decide +kernel
theorem dX6_enoughBehind_30 : decode cX6_enoughBehind 30 = .ok (.iload 6, 2) := by decide +kernel
theorem dX6_enoughBehind_32 : decode cX6_enoughBehind 32 = .ok (.invokestatic 123, 3) := by decide +kernel
theorem dX6_enoughBehind_35 : decode cX6_enoughBehind 35 = .ok (.istore 7, 2) := by decide +kernel
theorem dX6_enoughBehind_37 : decode cX6_enoughBehind 37 = .ok (.aload_n 0, 1) := by decide +kernel
theorem dX6_enoughBehind_38 : decode cX6_enoughBehind 38 = .ok (.getfield 18, 3) := by decide +kernel
theorem dX6_enoughBehind_41 : decode cX6_enoughBehind 41 = .ok (.aload_n 0, 1) := by decide +kernel
theorem dX6_enoughBehind_42 : decode cX6_enoughBehind 42 = .ok (.getfield 34, 3) := by decide +kernel
theorem dX6_enoughBehind_45 : decode cX6_enoughBehind 45 = .ok (.getfield 52, 3) := by decide +kernel
theorem dX6_enoughBehind_48 : decode cX6_enoughBehind 48 = .ok (.iload_n 3, 1) := by decide +kernel
theorem dX6_enoughBehind_49 : decode cX6_enoughBehind 49 = .ok (.iload 4, 2) := by decide +kernel
theorem dX6_enoughBehind_51 : decode cX6_enoughBehind 51 = .ok (.aload_n 0, 1) := by decide +kernel
theorem dX6_enoughBehind_52 : decode cX6_enoughBehind 52 = .ok (.getfield 34, 3) := by decide +kernel
theorem dX6_enoughBehind_55 : decode cX6_enoughBehind 55 = .ok (.getfield 83, 3) := by decide +kernel
theorem dX6_enoughBehind_58 : decode cX6_enoughBehind 58 = .ok (.iload_n 1, 1) := by decide +kernel
theorem dX6_enoughBehind_59 : decode cX6_enoughBehind 59 = .ok (.invokestatic 79, 3) := by decide +kernel
theorem dX6_enoughBehind_62 : decode cX6_enoughBehind 62 = .ok (.iload 6, 2) := by decide +kernel
theorem dX6_enoughBehind_64 : decode cX6_enoughBehind 64 = .ok (.aload_n 0, 1) := by decide +kernel
theorem dX6_enoughBehind_65 : decode cX6_enoughBehind 65 = .ok (.getfield 34, 3) := by decide +kernel
theorem dX6_enoughBehind_68 : decode cX6_enoughBehind 68 = .ok (.getfield 107, 3) := by decide +kernel
theorem dX6_enoughBehind_71 : decode cX6_enoughBehind 71 = .ok (.aload_n 0, 1) := by decide +kernel
theorem dX6_enoughBehind_72 : decode cX6_enoughBehind 72 = .ok (.getfield 34, 3) := by decide +kernel
theorem dX6_enoughBehind_75 : decode cX6_enoughBehind 75 = .ok (.getfield 89, 3) := by decide +kernel
theorem dX6_enoughBehind_78 : decode cX6_enoughBehind 78 = .ok (.iload_n 1, 1) := by decide +kernel
theorem dX6_enoughBehind_79 : decode cX6_enoughBehind 79 = .ok (.invokestatic 79, 3) := by decide +kernel
theorem dX6_enoughBehind_82 : decode cX6_enoughBehind 82 = .ok (.invokevirtual 146, 3) := by decide +kernel
theorem dX6_enoughBehind_85 : decode cX6_enoughBehind 85 = .ok (.istore 8, 2) := by decide +kernel
theorem dX6_enoughBehind_87 : decode cX6_enoughBehind 87 = .ok (.aload_n 0, 1) := by decide +kernel
theorem dX6_enoughBehind_88 : decode cX6_enoughBehind 88 = .ok (.getfield 18, 3) := by decide +kernel
theorem dX6_enoughBehind_91 : decode cX6_enoughBehind 91 = .ok (.iload 8, 2) := by decide +kernel
theorem dX6_enoughBehind_93 : decode cX6_enoughBehind 93 = .ok (.iload_n 3, 1) := by decide +kernel
theorem dX6_enoughBehind_94 : decode cX6_enoughBehind 94 = .ok (.iload 5, 2) := by decide +kernel
theorem dX6_enoughBehind_96 : decode cX6_enoughBehind 96 = .ok (.aload_n 0, 1) := by decide +kernel
theorem dX6_enoughBehind_97 : decode cX6_enoughBehind 97 = .ok (.getfield 34, 3) := by decide +kernel
theorem dX6_enoughBehind_100 : decode cX6_enoughBehind 100 = .ok (.getfield 83, 3) := by decide +kernel
theorem dX6_enoughBehind_103 : decode cX6_enoughBehind 103 = .ok (.iload_n 2, 1) := by decide +kernel
theorem dX6_enoughBehind_104 : decode cX6_enoughBehind 104 = .ok (.invokestatic 79, 3) := by decide +kernel
theorem dX6_enoughBehind_107 : decode cX6_enoughBehind 107 = .ok (.iload 7, 2) := by decide +kernel
theorem dX6_enoughBehind_109 : decode cX6_enoughBehind 109 = .ok (.aload_n 0, 1) := by decide +kernel
theorem dX6_enoughBehind_110 : decode cX6_enoughBehind 110 = .ok (.getfield 34, 3) := by decide +kernel
theorem dX6_enoughBehind_113 : decode cX6_enoughBehind 113 = .ok (.getfield 107, 3) := by decide +kernel
theorem dX6_enoughBehind_116 : decode cX6_enoughBehind 116 = .ok (.aload_n 0, 1) := by decide +kernel
theorem dX6_enoughBehind_117 : decode cX6_enoughBehind 117 = .ok (.getfield 34, 3) := by decide +kernel
theorem dX6_enoughBehind_120 : decode cX6_enoughBehind 120 = .ok (.getfield 89, 3) := by decide +kernel
theorem dX6_enoughBehind_123 : decode cX6_enoughBehind 123 = .ok (.iload_n 2, 1) := by decide +kernel
theorem dX6_enoughBehind_124 : decode cX6_enoughBehind 124 = .ok (.invokestatic 79, 3) := by decide +kernel
theorem dX6_enoughBehind_127 : decode cX6_enoughBehind 127 = .ok (.invokevirtual 146, 3) := by decide +kernel
theorem dX6_enoughBehind_130 : decode cX6_enoughBehind 130 = .ok (.istore 8, 2) := by decide +kernel
theorem dX6_enoughBehind_132 : decode cX6_enoughBehind 132 = .ok (.iload 8, 2) := by decide +kernel
theorem dX6_enoughBehind_134 : decode cX6_enoughBehind 134 = .ok (.aload_n 0, 1) := by decide +kernel
theorem dX6_enoughBehind_135 : decode cX6_enoughBehind 135 = .ok (.getfield 28, 3) := by decide +kernel
theorem dX6_enoughBehind_138 : decode cX6_enoughBehind 138 = .ok (.invokevirtual 104, 3) := by decide +kernel
theorem dX6_enoughBehind_141 : decode cX6_enoughBehind 141 = .ok (.if_icmp .lt 7, 3) := by decide +kernel
theorem dX6_enoughBehind_144 : decode cX6_enoughBehind 144 = .ok (.iconst 1, 1) := by decide +kernel
theorem dX6_enoughBehind_145 : decode cX6_enoughBehind 145 = .ok (.goto 4, 3) := by decide +kernel
theorem dX6_enoughBehind_148 : decode cX6_enoughBehind 148 = .ok (.iconst 0, 1) := by decide +kernel
theorem dX6_enoughBehind_149 : decode cX6_enoughBehind 149 = .ok (.ireturn, 1) := by decide +kernel
def X6_enoughBehind_35 (n : Nat) (x1 : Int32) (x2 : Int32) (x3 : Int32) (x4 : Int32) (x5 : Int32) (x6 : Int32) (s0 : Int32) (h : Mm) : Option (Bool × Mm) := (bp (X11_at 30 x1 h) (fun r45 => (bp (X11_at 29 x1 h) (fun r47 => (bd (X9_calmBehind n (h.1 27 4) x3 x4 r45 x6 (h.1 27 6) r47 h) (fun r49 h51 => (bp (X11_at 30 x2 h51) (fun r52 => (bp (X11_at 29 x2 h51) (fun r54 => (bd (X9_calmBehind n r49 x3 x5 r52 s0 (h51.1 27 6) r54 h51) (fun r56 h58 => (bp (X1_enough 13 h58) (fun r59 => (if r56 < r59 then (some (false, h58)) else (some (true, h58)))))))))))))))))
set_option maxRecDepth 100000 in
set_option maxHeartbeats 4000000 in
theorem v_X6_enoughBehind_35 {X : WX} {G : GX} {o : Mm} {n : Nat} {rv : Bool} {hz : Mm} {x1 : Int32} {x2 : Int32} {x3 : Int32} {x4 : Int32} {x5 : Int32} {x6 : Int32} {s0 : Int32} {h : Mm} (hF : X6_enoughBehind_35 n x1 x2 x3 x4 x5 x6 s0 h = some (rv, hz)) : V X G RX6 cX6_enoughBehind 9 (some .boolean) 5 0 0 (QR X G true o (some (.int (b2i rv))) hz) true o 35 [(0, .ref (xa X 246)), (1, .int x1), (2, .int x2), (3, .int x3), (4, .int x4), (5, .int x5), (6, .int x6)] [.int s0] h := by
  unfold X6_enoughBehind_35 at hF
  refine V.istore [(7, _), (0, _), (1, _), (2, _), (3, _), (4, _), (5, _), (6, _)] dX6_enoughBehind_35 (by decide) rfl ?_
  refine V.aload_n 1 dX6_enoughBehind_37 rfl rfl ?_
  refine V.getR (v := 26) fl_X6_18 sh_246 rfl fx_246_0 (by decide) dX6_enoughBehind_38 ?_
  refine V.aload_n 1 dX6_enoughBehind_41 rfl rfl ?_
  refine V.getR (v := 27) fl_X6_34 sh_246 rfl fx_246_3 (by decide) dX6_enoughBehind_42 ?_
  refine V.getI fl_X6_52 sh_27 rfl km_27 dX6_enoughBehind_45 ?_
  refine V.iload_n 4 dX6_enoughBehind_48 rfl rfl ?_
  refine V.iload 5 dX6_enoughBehind_49 rfl ?_
  refine V.aload_n 1 dX6_enoughBehind_51 rfl rfl ?_
  refine V.getR (v := 27) fl_X6_34 sh_246 rfl fx_246_3 (by decide) dX6_enoughBehind_52 ?_
  refine V.getR (v := 30) fl_X6_83 sh_27 rfl fx_27_2 (by decide) dX6_enoughBehind_55 ?_
  refine V.iload_n 2 dX6_enoughBehind_58 rfl rfl ?_
  obtain ⟨r45, hc46, hF⟩ := bp_s hF
  refine V.callNi mf_X11_at ml_X6_79 (s_X11_at (Or.inl io_30) hc46) (by decide) rfl rfl (Nat.le_of_ble_eq_true rfl) dX6_enoughBehind_59 ?_
  refine V.iload 7 dX6_enoughBehind_62 rfl ?_
  refine V.aload_n 1 dX6_enoughBehind_64 rfl rfl ?_
  refine V.getR (v := 27) fl_X6_34 sh_246 rfl fx_246_3 (by decide) dX6_enoughBehind_65 ?_
  refine V.getI fl_X6_107 sh_27 rfl km_27 dX6_enoughBehind_68 ?_
  refine V.aload_n 1 dX6_enoughBehind_71 rfl rfl ?_
  refine V.getR (v := 27) fl_X6_34 sh_246 rfl fx_246_3 (by decide) dX6_enoughBehind_72 ?_
  refine V.getR (v := 29) fl_X6_89 sh_27 rfl fx_27_1 (by decide) dX6_enoughBehind_75 ?_
  refine V.iload_n 2 dX6_enoughBehind_78 rfl rfl ?_
  obtain ⟨r47, hc48, hF⟩ := bp_s hF
  refine V.callNi mf_X11_at ml_X6_79 (s_X11_at (Or.inl io_29) hc48) (by decide) rfl rfl (Nat.le_of_ble_eq_true rfl) dX6_enoughBehind_79 ?_
  obtain ⟨r49, h51, hc50, hF⟩ := bd_s hF
  refine V.callVi mf_X9_calmBehind ml_X6_146 sh_26 (s_X9_calmBehind hc50) (by decide) rfl rfl (Nat.le_of_ble_eq_true rfl) dX6_enoughBehind_82 ?_
  refine V.istore [(8, _), (7, _), (0, _), (1, _), (2, _), (3, _), (4, _), (5, _), (6, _)] dX6_enoughBehind_85 (by decide) rfl ?_
  refine V.aload_n 2 dX6_enoughBehind_87 rfl rfl ?_
  refine V.getR (v := 26) fl_X6_18 sh_246 rfl fx_246_0 (by decide) dX6_enoughBehind_88 ?_
  refine V.iload 0 dX6_enoughBehind_91 rfl ?_
  refine V.iload_n 5 dX6_enoughBehind_93 rfl rfl ?_
  refine V.iload 7 dX6_enoughBehind_94 rfl ?_
  refine V.aload_n 2 dX6_enoughBehind_96 rfl rfl ?_
  refine V.getR (v := 27) fl_X6_34 sh_246 rfl fx_246_3 (by decide) dX6_enoughBehind_97 ?_
  refine V.getR (v := 30) fl_X6_83 sh_27 rfl fx_27_2 (by decide) dX6_enoughBehind_100 ?_
  refine V.iload_n 4 dX6_enoughBehind_103 rfl rfl ?_
  obtain ⟨r52, hc53, hF⟩ := bp_s hF
  refine V.callNi mf_X11_at ml_X6_79 (s_X11_at (Or.inl io_30) hc53) (by decide) rfl rfl (Nat.le_of_ble_eq_true rfl) dX6_enoughBehind_104 ?_
  refine V.iload 1 dX6_enoughBehind_107 rfl ?_
  refine V.aload_n 2 dX6_enoughBehind_109 rfl rfl ?_
  refine V.getR (v := 27) fl_X6_34 sh_246 rfl fx_246_3 (by decide) dX6_enoughBehind_110 ?_
  refine V.getI fl_X6_107 sh_27 rfl km_27 dX6_enoughBehind_113 ?_
  refine V.aload_n 2 dX6_enoughBehind_116 rfl rfl ?_
  refine V.getR (v := 27) fl_X6_34 sh_246 rfl fx_246_3 (by decide) dX6_enoughBehind_117 ?_
  refine V.getR (v := 29) fl_X6_89 sh_27 rfl fx_27_1 (by decide) dX6_enoughBehind_120 ?_
  refine V.iload_n 4 dX6_enoughBehind_123 rfl rfl ?_
  obtain ⟨r54, hc55, hF⟩ := bp_s hF
  refine V.callNi mf_X11_at ml_X6_79 (s_X11_at (Or.inl io_29) hc55) (by decide) rfl rfl (Nat.le_of_ble_eq_true rfl) dX6_enoughBehind_124 ?_
  obtain ⟨r56, h58, hc57, hF⟩ := bd_s hF
  refine V.callVi mf_X9_calmBehind ml_X6_146 sh_26 (s_X9_calmBehind hc57) (by decide) rfl rfl (Nat.le_of_ble_eq_true rfl) dX6_enoughBehind_127 ?_
  refine V.istore [(8, _), (7, _), (0, _), (1, _), (2, _), (3, _), (4, _), (5, _), (6, _)] dX6_enoughBehind_130 (by decide) rfl ?_
  refine V.iload 0 dX6_enoughBehind_132 rfl ?_
  refine V.aload_n 2 dX6_enoughBehind_134 rfl rfl ?_
  refine V.getR (v := 13) fl_X6_28 sh_246 rfl fx_246_1 (by decide) dX6_enoughBehind_135 ?_
  obtain ⟨r59, hc60, hF⟩ := bp_s hF
  refine V.callVi mf_X1_enough ml_X6_104 sh_13 (s_X1_enough (Or.inr rfl) hc60) (by decide) rfl rfl (Nat.le_of_ble_eq_true rfl) dX6_enoughBehind_138 ?_
  refine V.icmp_lt (tgt := 148) dX6_enoughBehind_141 rfl (fun c => ?_) (fun c => ?_)
  · replace hF := (if_pos c).symm.trans hF
    refine V.iconst (v := 0) dX6_enoughBehind_148 rfl ?_
    cases hF
    exact V.bret dX6_enoughBehind_149
  · replace hF := (if_neg c).symm.trans hF
    refine V.iconst (v := 1) dX6_enoughBehind_144 rfl ?_
    refine V.goto (tgt := 149) dX6_enoughBehind_145 rfl ?_
    cases hF
    exact V.bret dX6_enoughBehind_149
def X6_enoughBehind (n : Nat) (x1 : Int32) (x2 : Int32) (x3 : Int32) (x4 : Int32) (x5 : Int32) (h : Mm) : Option (Bool × Mm) := (bp (X1_kindOf 13 x3 h) (fun r61 => (bp (X11_at 28 r61 h) (fun r63 => (if x4 = 0 then (X6_enoughBehind_35 n x1 x2 x3 x4 x5 r63 r63 h) else (bp (X9_moreBored r63 h) (fun r65 => (X6_enoughBehind_35 n x1 x2 x3 x4 x5 r63 r65 h))))))))
set_option maxRecDepth 100000 in
set_option maxHeartbeats 4000000 in
theorem s_X6_enoughBehind {X : WX} {o : Mm} {n : Nat} {x1 : Int32} {x2 : Int32} {x3 : Int32} {x4 : Int32} {x5 : Int32} {rv : Bool} {hz : Mm} {h : Mm} (hF : X6_enoughBehind n x1 x2 x3 x4 x5 h = some (rv, hz)) : Sat X yX6_enoughBehind cX6_enoughBehind 9 (some .boolean) 5 [.ref (xa X 246), .int x1, .int x2, .int x3, .int x4, .int x5] true o h (some (.int (b2i rv))) hz := by
  unfold X6_enoughBehind at hF
  refine Sat.mk (own := RX6) rfl (by decide +kernel) (Nat.le_of_ble_eq_true rfl) (fun G => ?_)
  refine V.sub (lv2 := [(0, _), (1, _), (2, _), (3, _), (4, _), (5, _)]) [0, 1, 2, 3, 4, 5] rfl ?_
  refine V.aload_n 0 dX6_enoughBehind_0 rfl rfl ?_
  refine V.getR (v := 27) fl_X6_34 sh_246 rfl fx_246_3 (by decide) dX6_enoughBehind_1 ?_
  refine V.getR (v := 28) fl_X6_45 sh_27 rfl fx_27_0 (by decide) dX6_enoughBehind_4 ?_
  refine V.aload_n 0 dX6_enoughBehind_7 rfl rfl ?_
  refine V.getR (v := 13) fl_X6_28 sh_246 rfl fx_246_1 (by decide) dX6_enoughBehind_8 ?_
  refine V.iload_n 3 dX6_enoughBehind_11 rfl rfl ?_
  obtain ⟨r61, hc62, hF⟩ := bp_s hF
  refine V.callVi mf_X1_kindOf ml_X6_76 sh_13 (s_X1_kindOf (Or.inr rfl) hc62) (by decide) rfl rfl (Nat.le_of_ble_eq_true rfl) dX6_enoughBehind_12 ?_
  obtain ⟨r63, hc64, hF⟩ := bp_s hF
  refine V.callNi mf_X11_at ml_X6_79 (s_X11_at (Or.inl io_28) hc64) (by decide) rfl rfl (Nat.le_of_ble_eq_true rfl) dX6_enoughBehind_15 ?_
  refine V.istore [(6, _), (0, _), (1, _), (2, _), (3, _), (4, _), (5, _)] dX6_enoughBehind_18 (by decide) rfl ?_
  refine V.iload 5 dX6_enoughBehind_20 rfl ?_
  refine V.if_ne (tgt := 30) dX6_enoughBehind_22 rfl (fun c => ?_) (fun c => ?_)
  · replace hF := (if_neg c).symm.trans hF
    refine V.iload 0 dX6_enoughBehind_30 rfl ?_
    obtain ⟨r65, hc66, hF⟩ := bp_s hF
    refine V.callSi mf_X9_moreBored ml_X6_123 (s_X9_moreBored hc66) (by decide) rfl rfl (Nat.le_of_ble_eq_true rfl) dX6_enoughBehind_32 ?_
    exact V.sub [1, 2, 3, 4, 5, 6, 0] rfl (v_X6_enoughBehind_35 hF)
  · replace hF := (if_pos c).symm.trans hF
    refine V.iload 0 dX6_enoughBehind_25 rfl ?_
    refine V.goto (tgt := 35) dX6_enoughBehind_27 rfl ?_
    exact V.sub [1, 2, 3, 4, 5, 6, 0] rfl (v_X6_enoughBehind_35 hF)
/-! MonsterCot$Search.gain -/
theorem dX6_gain_0 : decode cX6_gain 0 = .ok (.iload_n 0, 1) := by decide +kernel
theorem dX6_gain_1 : decode cX6_gain 1 = .ok (.ifCond .eq 8, 3) := by decide +kernel
theorem dX6_gain_4 : decode cX6_gain 4 = .ok (.bipush 9, 2) := by decide +kernel
theorem dX6_gain_6 : decode cX6_gain 6 = .ok (.iload_n 1, 1) := by decide +kernel
theorem dX6_gain_7 : decode cX6_gain 7 = .ok (.isub, 1) := by decide +kernel
theorem dX6_gain_8 : decode cX6_gain 8 = .ok (.ireturn, 1) := by decide +kernel
theorem dX6_gain_9 : decode cX6_gain 9 = .ok (.iload_n 1, 1) := by decide +kernel
theorem dX6_gain_10 : decode cX6_gain 10 = .ok (.iload_n 2, 1) := by decide +kernel
theorem dX6_gain_11 : decode cX6_gain 11 = .ok (.if_icmp .ge 10, 3) := by decide +kernel
theorem dX6_gain_14 : decode cX6_gain 14 = .ok (.iload_n 1, 1) := by decide +kernel
theorem dX6_gain_15 : decode cX6_gain 15 = .ok (.ineg, 1) := by decide +kernel
theorem dX6_gain_16 : decode cX6_gain 16 = .ok (.iconst 2, 1) := by decide +kernel
theorem dX6_gain_17 : decode cX6_gain 17 = .ok (.isub, 1) := by decide +kernel
theorem dX6_gain_18 : decode cX6_gain 18 = .ok (.goto 5, 3) := by decide +kernel
theorem dX6_gain_21 : decode cX6_gain 21 = .ok (.iload_n 1, 1) := by decide +kernel
theorem dX6_gain_22 : decode cX6_gain 22 = .ok (.ineg, 1) := by decide +kernel
theorem dX6_gain_23 : decode cX6_gain 23 = .ok (.ireturn, 1) := by decide +kernel
def X6_gain (x0 : Bool) (x1 : Int32) (x2 : Int32) (h : Mm) : Option Int32 := (if x0 = true then (some ((9) - x1)) else (if x2 ≤ x1 then (some (-x1)) else (some ((-x1) - (2)))))
set_option maxRecDepth 100000 in
set_option maxHeartbeats 4000000 in
theorem s_X6_gain {X : WX} {o : Mm} {x0 : Bool} {x1 : Int32} {x2 : Int32} {rv : Int32} {h : Mm} (hF : X6_gain x0 x1 x2 h = some rv) : Sat X yX6_gain cX6_gain 3 (some .int) 1 [.int (b2i x0), .int x1, .int x2] true o h (some (.int rv)) h := by
  unfold X6_gain at hF
  refine Sat.mk (own := RX6) rfl (by decide +kernel) (Nat.le_of_ble_eq_true rfl) (fun G => ?_)
  refine V.sub (lv2 := [(0, _), (1, _), (2, _)]) [0, 1, 2] rfl ?_
  refine V.iload_n 0 dX6_gain_0 rfl rfl ?_
  refine V.ifz_eq (tgt := 9) dX6_gain_1 rfl (fun c => ?_) (fun c => ?_)
  · replace hF := (if_neg c).symm.trans hF
    refine V.iload_n 1 dX6_gain_9 rfl rfl ?_
    refine V.iload_n 2 dX6_gain_10 rfl rfl ?_
    refine V.icmp_ge (tgt := 21) dX6_gain_11 rfl (fun c => ?_) (fun c => ?_)
    · replace hF := (if_pos c).symm.trans hF
      refine V.iload_n 1 dX6_gain_21 rfl rfl ?_
      refine V.ineg dX6_gain_22 ?_
      cases hF
      exact V.iret dX6_gain_23
    · replace hF := (if_neg c).symm.trans hF
      refine V.iload_n 1 dX6_gain_14 rfl rfl ?_
      refine V.ineg dX6_gain_15 ?_
      refine V.iconst (v := 2) dX6_gain_16 rfl ?_
      refine V.isub dX6_gain_17 ?_
      refine V.goto (tgt := 23) dX6_gain_18 rfl ?_
      cases hF
      exact V.iret dX6_gain_23
  · replace hF := (if_pos c).symm.trans hF
    refine V.bipush (v := 9) dX6_gain_4 (by decide) ?_
    refine V.iload_n 1 dX6_gain_6 rfl rfl ?_
    refine V.isub dX6_gain_7 ?_
    cases hF
    exact V.iret dX6_gain_8
/-! MonsterCot.game -/
theorem dX11_game_0 : decode cX11_game 0 = .ok (.aload_n 0, 1) := by decide +kernel
theorem dX11_game_1 : decode cX11_game 1 = .ok (.iload_n 1, 1) := by decide +kernel
theorem dX11_game_2 : decode cX11_game 2 = .ok (.iload_n 2, 1) := by decide +kernel
theorem dX11_game_3 : decode cX11_game 3 = .ok (.iload_n 3, 1) := by decide +kernel
theorem dX11_game_4 : decode cX11_game 4 = .ok (.invokevirtual 330, 3) := by decide +kernel
theorem dX11_game_7 : decode cX11_game 7 = .ok (.ifCond .eq 14, 3) := by decide +kernel
theorem dX11_game_10 : decode cX11_game 10 = .ok (.iload 6, 2) := by decide +kernel
theorem dX11_game_12 : decode cX11_game 12 = .ok (.ifCond .lt 9, 3) := by decide +kernel
theorem dX11_game_15 : decode cX11_game 15 = .ok (.iload 6, 2) := by decide +kernel
theorem dX11_game_17 : decode cX11_game 17 = .ok (.iconst 1, 1) := by decide +kernel
theorem dX11_game_18 : decode cX11_game 18 = .ok (.if_icmp .le 7, 3) := by decide +kernel
theorem dX11_game_21 : decode cX11_game 21 = .ok (.ldc_w 261, 3) := by decide +kernel
theorem dX11_game_24 : decode cX11_game 24 = .ok (.ireturn, 1) := by decide +kernel
theorem dX11_game_25 : decode cX11_game 25 = .ok (.aload_n 0, 1) := by decide +kernel
theorem dX11_game_26 : decode cX11_game 26 = .ok (.getfield 42, 3) := by decide +kernel
theorem dX11_game_29 : decode cX11_game 29 = .ok (.iload_n 3, 1) := by decide +kernel
theorem dX11_game_30 : decode cX11_game 30 = .ok (.invokevirtual 140, 3) := by decide +kernel
theorem dX11_game_33 : decode cX11_game 33 = .ok (.istore 7, 2) := by decide +kernel
theorem dX11_game_35 : decode cX11_game 35 = .ok (.iload 4, 2) := by decide +kernel
theorem dX11_game_37 : decode cX11_game 37 = .ok (.ifCond .lt 22, 3) := by decide +kernel
theorem dX11_game_40 : decode cX11_game 40 = .ok (.iload 4, 2) := by decide +kernel
theorem dX11_game_42 : decode cX11_game 42 = .ok (.iload 7, 2) := by decide +kernel
theorem dX11_game_44 : decode cX11_game 44 = .ok (.if_icmp .gt 15, 3) := by decide +kernel
theorem dX11_game_47 : decode cX11_game 47 = .ok (.iload 5, 2) := by decide +kernel
theorem dX11_game_49 : decode cX11_game 49 = .ok (.ifCond .lt 10, 3) := by decide +kernel
theorem dX11_game_52 : decode cX11_game 52 = .ok (.iload 5, 2) := by decide +kernel
theorem dX11_game_54 : decode cX11_game 54 = .ok (.iload 7, 2) := by decide +kernel
theorem dX11_game_56 : decode cX11_game 56 = .ok (.if_icmp .le 7, 3) := by decide +kernel
theorem dX11_game_59 : decode cX11_game 59 = .ok (.ldc_w 261, 3) := by decide +kernel
theorem dX11_game_62 : decode cX11_game 62 = .ok (.ireturn, 1) := by decide +kernel
theorem dX11_game_63 : decode cX11_game 63 = .ok (.aload_n 0, 1) := by decide +kernel
theorem dX11_game_64 : decode cX11_game 64 = .ok (.getfield 84, 3) := by decide +kernel
theorem dX11_game_67 : decode cX11_game 67 = .ok (.iload_n 1, 1) := by decide +kernel
theorem dX11_game_68 : decode cX11_game 68 = .ok (.iload_n 2, 1) := by decide +kernel
theorem dX11_game_69 : decode cX11_game 69 = .ok (.iload_n 3, 1) := by decide +kernel
theorem dX11_game_70 : decode cX11_game 70 = .ok (.iload 4, 2) := by decide +kernel
theorem dX11_game_72 : decode cX11_game 72 = .ok (.iload 5, 2) := by decide +kernel
theorem dX11_game_74 : decode cX11_game 74 = .ok (.invokevirtual 334, 3) := by decide +kernel
theorem dX11_game_77 : decode cX11_game 77 = .ok (.istore 8, 2) := by decide +kernel
theorem dX11_game_79 : decode cX11_game 79 = .ok (.iload 6, 2) := by decide +kernel
theorem dX11_game_81 : decode cX11_game 81 = .ok (.ifCond .ne 15, 3) := by decide +kernel
theorem dX11_game_84 : decode cX11_game 84 = .ok (.iload 8, 2) := by decide +kernel
theorem dX11_game_86 : decode cX11_game 86 = .ok (.iload 4, 2) := by decide +kernel
theorem dX11_game_88 : decode cX11_game 88 = .ok (.iload 5, 2) := by decide +kernel
theorem dX11_game_90 : decode cX11_game 90 = .ok (.invokestatic 337, 3) := by decide +kernel
theorem dX11_game_93 : decode cX11_game 93 = .ok (.goto 12, 3) := by decide +kernel
theorem dX11_game_96 : decode cX11_game 96 = .ok (.iload 8, 2) := by decide +kernel
theorem dX11_game_98 : decode cX11_game 98 = .ok (.iload 5, 2) := by decide +kernel
theorem dX11_game_100 : decode cX11_game 100 = .ok (.iload 4, 2) := by decide +kernel
theorem dX11_game_102 : decode cX11_game 102 = .ok (.invokestatic 337, 3) := by decide +kernel
theorem dX11_game_105 : decode cX11_game 105 = .ok (.ireturn, 1) := by decide +kernel
def X11_game_21 (n : Nat) (h : Mm) : Option (Int32 × Mm) := (some ((-1000000), h))
set_option maxRecDepth 100000 in
set_option maxHeartbeats 4000000 in
theorem v_X11_game_21 {X : WX} {G : GX} {o : Mm} {n : Nat} {rv : Int32} {hz : Mm} {h : Mm} (hF : X11_game_21 n h = some (rv, hz)) : V X G RX11 cX11_game 9 (some .int) 6 0 0 (QR X G true o (some (.int rv)) hz) true o 21 [] [] h := by
  unfold X11_game_21 at hF
  refine V.ldcw (v := -1000000) dX11_game_21 kc_X11_261 ?_
  cases hF
  exact V.iret dX11_game_24
def X11_game_59 (n : Nat) (h : Mm) : Option (Int32 × Mm) := (some ((-1000000), h))
set_option maxRecDepth 100000 in
set_option maxHeartbeats 4000000 in
theorem v_X11_game_59 {X : WX} {G : GX} {o : Mm} {n : Nat} {rv : Int32} {hz : Mm} {h : Mm} (hF : X11_game_59 n h = some (rv, hz)) : V X G RX11 cX11_game 9 (some .int) 6 0 0 (QR X G true o (some (.int rv)) hz) true o 59 [] [] h := by
  unfold X11_game_59 at hF
  refine V.ldcw (v := -1000000) dX11_game_59 kc_X11_261 ?_
  cases hF
  exact V.iret dX11_game_62
def X11_game (n : Nat) (x1 : Int32) (x2 : Int32) (x3 : Int32) (x4 : Int32) (x5 : Int32) (x6 : Int32) (h : Mm) : Option (Int32 × Mm) := (bp (X11_canPlay x1 x2 x3 h) (fun r23 => (if r23 = true then (if x6 < 0 then (X11_game_21 n h) else (if x6 ≤ (1) then (bp (X1_pagesOf 13 x3 h) (fun r25 => (if x4 < 0 then (X11_game_59 n h) else (if r25 < x4 then (X11_game_59 n h) else (if x5 < 0 then (X11_game_59 n h) else (if x5 ≤ r25 then (bd (X6_enoughBehind n x1 x2 x3 x4 x5 h) (fun r27 h29 => (if x6 = 0 then (bp (X6_gain r27 x4 x5 h29) (fun r32 => (some (r32, h29)))) else (bp (X6_gain r27 x5 x4 h29) (fun r30 => (some (r30, h29))))))) else (X11_game_59 n h))))))) else (X11_game_21 n h))) else (X11_game_21 n h))))
set_option maxRecDepth 100000 in
set_option maxHeartbeats 4000000 in
theorem s_X11_game {X : WX} {o : Mm} {n : Nat} {x1 : Int32} {x2 : Int32} {x3 : Int32} {x4 : Int32} {x5 : Int32} {x6 : Int32} {rv : Int32} {hz : Mm} {h : Mm} (hF : X11_game n x1 x2 x3 x4 x5 x6 h = some (rv, hz)) : Sat X yX11_game cX11_game 9 (some .int) 6 [.ref (xa X 0), .int x1, .int x2, .int x3, .int x4, .int x5, .int x6] true o h (some (.int rv)) hz := by
  unfold X11_game at hF
  refine Sat.mk (own := RX11) rfl (by decide +kernel) (Nat.le_of_ble_eq_true rfl) (fun G => ?_)
  refine V.sub (lv2 := [(0, _), (1, _), (2, _), (3, _), (4, _), (5, _), (6, _)]) [0, 1, 2, 3, 4, 5, 6] rfl ?_
  refine V.aload_n 0 dX11_game_0 rfl rfl ?_
  refine V.iload_n 1 dX11_game_1 rfl rfl ?_
  refine V.iload_n 2 dX11_game_2 rfl rfl ?_
  refine V.iload_n 3 dX11_game_3 rfl rfl ?_
  obtain ⟨r23, hc24, hF⟩ := bp_s hF
  refine V.callVi mf_X11_canPlay ml_X11_330 sh_0 (s_X11_canPlay hc24) (by decide) rfl rfl (Nat.le_of_ble_eq_true rfl) dX11_game_4 ?_
  refine V.ifz_eq (tgt := 21) dX11_game_7 rfl (fun c => ?_) (fun c => ?_)
  · replace hF := (if_neg c).symm.trans hF
    exact V.sub [] rfl (v_X11_game_21 hF)
  · replace hF := (if_pos c).symm.trans hF
    refine V.iload 6 dX11_game_10 rfl ?_
    refine V.if_lt (tgt := 21) dX11_game_12 rfl (fun c => ?_) (fun c => ?_)
    · replace hF := (if_pos c).symm.trans hF
      exact V.sub [] rfl (v_X11_game_21 hF)
    · replace hF := (if_neg c).symm.trans hF
      refine V.iload 6 dX11_game_15 rfl ?_
      refine V.iconst (v := 1) dX11_game_17 rfl ?_
      refine V.icmp_le (tgt := 25) dX11_game_18 rfl (fun c => ?_) (fun c => ?_)
      · replace hF := (if_pos c).symm.trans hF
        refine V.aload_n 0 dX11_game_25 rfl rfl ?_
        refine V.getR (v := 13) fl_X11_42 sh_0 rfl fx_0_4 (by decide) dX11_game_26 ?_
        refine V.iload_n 3 dX11_game_29 rfl rfl ?_
        obtain ⟨r25, hc26, hF⟩ := bp_s hF
        refine V.callVi mf_X1_pagesOf ml_X11_140 sh_13 (s_X1_pagesOf (Or.inr rfl) hc26) (by decide) rfl rfl (Nat.le_of_ble_eq_true rfl) dX11_game_30 ?_
        refine V.istore [(7, _), (0, _), (1, _), (2, _), (3, _), (4, _), (5, _), (6, _)] dX11_game_33 (by decide) rfl ?_
        refine V.iload 5 dX11_game_35 rfl ?_
        refine V.if_lt (tgt := 59) dX11_game_37 rfl (fun c => ?_) (fun c => ?_)
        · replace hF := (if_pos c).symm.trans hF
          exact V.sub [] rfl (v_X11_game_59 hF)
        · replace hF := (if_neg c).symm.trans hF
          refine V.iload 5 dX11_game_40 rfl ?_
          refine V.iload 0 dX11_game_42 rfl ?_
          refine V.icmp_gt (tgt := 59) dX11_game_44 rfl (fun c => ?_) (fun c => ?_)
          · replace hF := (if_pos c).symm.trans hF
            exact V.sub [] rfl (v_X11_game_59 hF)
          · replace hF := (if_neg c).symm.trans hF
            refine V.iload 6 dX11_game_47 rfl ?_
            refine V.if_lt (tgt := 59) dX11_game_49 rfl (fun c => ?_) (fun c => ?_)
            · replace hF := (if_pos c).symm.trans hF
              exact V.sub [] rfl (v_X11_game_59 hF)
            · replace hF := (if_neg c).symm.trans hF
              refine V.iload 6 dX11_game_52 rfl ?_
              refine V.iload 0 dX11_game_54 rfl ?_
              refine V.icmp_le (tgt := 63) dX11_game_56 rfl (fun c => ?_) (fun c => ?_)
              · replace hF := (if_pos c).symm.trans hF
                refine V.aload_n 1 dX11_game_63 rfl rfl ?_
                refine V.getR (v := 246) fl_X11_84 sh_0 rfl fx_0_10 (by decide) dX11_game_64 ?_
                refine V.iload_n 2 dX11_game_67 rfl rfl ?_
                refine V.iload_n 3 dX11_game_68 rfl rfl ?_
                refine V.iload_n 4 dX11_game_69 rfl rfl ?_
                refine V.iload 5 dX11_game_70 rfl ?_
                refine V.iload 6 dX11_game_72 rfl ?_
                obtain ⟨r27, h29, hc28, hF⟩ := bd_s hF
                refine V.callVi mf_X6_enoughBehind ml_X11_334 sh_246 (s_X6_enoughBehind hc28) (by decide) rfl rfl (Nat.le_of_ble_eq_true rfl) dX11_game_74 ?_
                refine V.istore [(8, _), (7, _), (0, _), (1, _), (2, _), (3, _), (4, _), (5, _), (6, _)] dX11_game_77 (by decide) rfl ?_
                refine V.iload 8 dX11_game_79 rfl ?_
                refine V.if_ne (tgt := 96) dX11_game_81 rfl (fun c => ?_) (fun c => ?_)
                · replace hF := (if_neg c).symm.trans hF
                  refine V.iload 0 dX11_game_96 rfl ?_
                  refine V.iload 7 dX11_game_98 rfl ?_
                  refine V.iload 6 dX11_game_100 rfl ?_
                  obtain ⟨r30, hc31, hF⟩ := bp_s hF
                  refine V.callSi mf_X6_gain ml_X11_337 (s_X6_gain hc31) (by decide) rfl rfl (Nat.le_of_ble_eq_true rfl) dX11_game_102 ?_
                  cases hF
                  exact V.iret dX11_game_105
                · replace hF := (if_pos c).symm.trans hF
                  refine V.iload 0 dX11_game_84 rfl ?_
                  refine V.iload 6 dX11_game_86 rfl ?_
                  refine V.iload 7 dX11_game_88 rfl ?_
                  obtain ⟨r32, hc33, hF⟩ := bp_s hF
                  refine V.callSi mf_X6_gain ml_X11_337 (s_X6_gain hc33) (by decide) rfl rfl (Nat.le_of_ble_eq_true rfl) dX11_game_90 ?_
                  refine V.goto (tgt := 105) dX11_game_93 rfl ?_
                  cases hF
                  exact V.iret dX11_game_105
              · replace hF := (if_neg c).symm.trans hF
                exact V.sub [] rfl (v_X11_game_59 hF)
      · replace hF := (if_neg c).symm.trans hF
        exact V.sub [] rfl (v_X11_game_21 hF)
