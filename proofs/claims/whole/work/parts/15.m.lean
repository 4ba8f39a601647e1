/-! MonsterCot$Search.findLeast -/
theorem dX6_findLeast_0 : decode cX6_findLeast 0 = .ok (.aload_n 0, 1) := by decide +kernel
theorem dX6_findLeast_1 : decode cX6_findLeast 1 = .ok (.iconst 0, 1) := by decide +kernel
theorem dX6_findLeast_2 : decode cX6_findLeast 2 = .ok (.putfield 38, 3) := by decide +kernel
theorem dX6_findLeast_5 : decode cX6_findLeast 5 = .ok (.aload_n 0, 1) := by decide +kernel
theorem dX6_findLeast_6 : decode cX6_findLeast 6 = .ok (.bipush 28, 2) := by decide +kernel
theorem dX6_findLeast_8 : decode cX6_findLeast 8 = .ok (.putfield 42, 3) := by decide +kernel
theorem dX6_findLeast_11 : decode cX6_findLeast 11 = .ok (.aload_n 0, 1) := by decide +kernel
theorem dX6_findLeast_12 : decode cX6_findLeast 12 = .ok (.getfield 34, 3) := by decide +kernel
theorem dX6_findLeast_15 : decode cX6_findLeast 15 = .ok (.getfield 45, 3) := by decide +kernel
theorem dX6_findLeast_18 : decode cX6_findLeast 18 = .ok (.aload_n 0, 1) := by decide +kernel
theorem dX6_findLeast_19 : decode cX6_findLeast 19 = .ok (.getfield 9, 3) := by decide +kernel
theorem dX6_findLeast_22 : decode cX6_findLeast 22 = .ok (.invokestatic 48, 3) := by decide +kernel
theorem dX6_findLeast_25 : decode cX6_findLeast 25 = .ok (.aload_n 0, 1) := by decide +kernel
theorem dX6_findLeast_26 : decode cX6_findLeast 26 = .ok (.iconst 1, 1) := by decide +kernel
theorem dX6_findLeast_27 : decode cX6_findLeast 27 = .ok (.iconst 0, 1) := by decide +kernel
theorem dX6_findLeast_28 : decode cX6_findLeast 28 = .ok (.iconst 0, 1) := by decide +kernel
theorem dX6_findLeast_29 : decode cX6_findLeast 29 = .ok (.iconst 0, 1) := by decide +kernel
theorem dX6_findLeast_30 : decode cX6_findLeast 30 = .ok (.aload_n 0, 1) := by decide +kernel
theorem dX6_findLeast_31 : decode cX6_findLeast 31 = .ok (.getfield 34, 3) := by decide +kernel
theorem dX6_findLeast_34 : decode cX6_findLeast 34 = .ok (.getfield 52, 3) := by decide +kernel
theorem dX6_findLeast_37 : decode cX6_findLeast 37 = .ok (.invokevirtual 55, 3) := by decide +kernel
theorem dX6_findLeast_40 : decode cX6_findLeast 40 = .ok (.aload_n 0, 1) := by decide +kernel
theorem dX6_findLeast_41 : decode cX6_findLeast 41 = .ok (.getfield 38, 3) := by decide +kernel
theorem dX6_findLeast_44 : decode cX6_findLeast 44 = .ok (.ifCond .le 7, 3) := by decide +kernel
theorem dX6_findLeast_47 : decode cX6_findLeast 47 = .ok (.iconst 1, 1) := by decide +kernel
theorem dX6_findLeast_48 : decode cX6_findLeast 48 = .ok (.goto 4, 3) := by decide +kernel
theorem dX6_findLeast_51 : decode cX6_findLeast 51 = .ok (.iconst 0, 1) := by decide +kernel
theorem dX6_findLeast_52 : decode cX6_findLeast 52 = .ok (.ireturn, 1) := by decide +kernel
def X6_findLeast (n : Nat) (h : Mm) : Option (Bool × Mm) := (bd (X11_copy 28 247 (wI (wI h 246 6 (0 : Int32)) 246 7 (28 : Int32))) (fun _ h9 => (bd (X6_growRow n (X6_growRowBy n 9) (1 : Int32) (0 : Int32) (0 : Int32) (0 : Int32) (h9.1 27 4) h9) (fun _ h12 => (if (h12.1 246 6) ≤ 0 then (some (false, h12)) else (some (true, h12)))))))
set_option maxRecDepth 100000 in
set_option maxHeartbeats 4000000 in
theorem s_X6_findLeast {X : WX} {o : Mm} {n : Nat} {rv : Bool} {hz : Mm} {h : Mm} (hF : X6_findLeast n h = some (rv, hz)) : Sat X yX6_findLeast cX6_findLeast 1 (some .boolean) 35 [.ref (xa X 246)] true o h (some (.int (b2i rv))) hz := by
  unfold X6_findLeast at hF
  refine Sat.mk (own := RX6) rfl (by decide +kernel) (Nat.le_of_ble_eq_true rfl) (fun G => ?_)
  refine V.sub (lv2 := [(0, _)]) [0] rfl ?_
  refine V.aload_n 0 dX6_findLeast_0 rfl rfl ?_
  refine V.iconst (v := 0) dX6_findLeast_1 rfl ?_
  refine V.putI fl_X6_38 rfl (tyX6_ok 6 (by decide)) rfl rfl sh_246 rfl km_246 dX6_findLeast_2 ?_
  refine V.aload_n 0 dX6_findLeast_5 rfl rfl ?_
  refine V.bipush (v := 28) dX6_findLeast_6 (by decide) ?_
  refine V.putI fl_X6_42 rfl (tyX6_ok 7 (by decide)) rfl rfl sh_246 rfl km_246 dX6_findLeast_8 ?_
  refine V.aload_n 0 dX6_findLeast_11 rfl rfl ?_
  refine V.getR (v := 27) fl_X6_34 sh_246 rfl fx_246_3 (by decide) dX6_findLeast_12 ?_
  refine V.getR (v := 28) fl_X6_45 sh_27 rfl fx_27_0 (by decide) dX6_findLeast_15 ?_
  refine V.aload_n 0 dX6_findLeast_18 rfl rfl ?_
  refine V.getR (v := 247) fl_X6_9 sh_246 rfl fx_246_4 (by decide) dX6_findLeast_19 ?_
  obtain ⟨r7, h9, hc8, hF⟩ := bd_s hF
  refine V.callNv mf_X11_copy ml_X6_48 (s_X11_copy io_28 io_247 hc8) (by decide) rfl rfl (Nat.le_of_ble_eq_true rfl) dX6_findLeast_22 ?_
  refine V.aload_n 0 dX6_findLeast_25 rfl rfl ?_
  refine V.iconst (v := 1) dX6_findLeast_26 rfl ?_
  refine V.iconst (v := 0) dX6_findLeast_27 rfl ?_
  refine V.iconst (v := 0) dX6_findLeast_28 rfl ?_
  refine V.iconst (v := 0) dX6_findLeast_29 rfl ?_
  refine V.aload_n 0 dX6_findLeast_30 rfl rfl ?_
  refine V.getR (v := 27) fl_X6_34 sh_246 rfl fx_246_3 (by decide) dX6_findLeast_31 ?_
  refine V.getI fl_X6_52 sh_27 rfl km_27 dX6_findLeast_34 ?_
  obtain ⟨r10, h12, hc11, hF⟩ := bd_s hF
  refine V.callVv mf_X6_growRow ml_X6_55 sh_246 (s_X6_growRow (dr := 33) (by decide) (s_X6_growRowBy 9) hc11) (by decide) rfl rfl (Nat.le_of_ble_eq_true rfl) dX6_findLeast_37 ?_
  refine V.aload_n 0 dX6_findLeast_40 rfl rfl ?_
  refine V.getI fl_X6_38 sh_246 rfl km_246 dX6_findLeast_41 ?_
  refine V.if_le (tgt := 51) dX6_findLeast_44 rfl (fun c => ?_) (fun c => ?_)
  · replace hF := ip c hF
    refine V.iconst (v := 0) dX6_findLeast_51 rfl ?_
    cases hF
    exact V.bret dX6_findLeast_52
  · replace hF := iq c hF
    refine V.iconst (v := 1) dX6_findLeast_47 rfl ?_
    refine V.goto (tgt := 52) dX6_findLeast_48 rfl ?_
    cases hF
    exact V.bret dX6_findLeast_52
/-! MonsterCot.least -/
theorem dX11_least_0 : decode cX11_least 0 = .ok (.aload_n 0, 1) := by decide +kernel
theorem dX11_least_1 : decode cX11_least 1 = .ok (.getfield 42, 3) := by decide +kernel
theorem dX11_least_4 : decode cX11_least 4 = .ok (.invokevirtual 124, 3) := by decide +kernel
theorem dX11_least_7 : decode cX11_least 7 = .ok (.ifCond .eq 12, 3) := by decide +kernel
theorem dX11_least_10 : decode cX11_least 10 = .ok (.iload_n 1, 1) := by decide +kernel
theorem dX11_least_11 : decode cX11_least 11 = .ok (.ifCond .lt 8, 3) := by decide +kernel
theorem dX11_least_14 : decode cX11_least 14 = .ok (.iload_n 1, 1) := by decide +kernel
theorem dX11_least_15 : decode cX11_least 15 = .ok (.iconst 1, 1) := by decide +kernel
theorem dX11_least_16 : decode cX11_least 16 = .ok (.if_icmp .le 5, 3) := by decide +kernel
theorem dX11_least_19 : decode cX11_least 19 = .ok (.iconst (-1), 1) := by decide +kernel
theorem dX11_least_20 : decode cX11_least 20 = .ok (.ireturn, 1) := by decide +kernel
theorem dX11_least_21 : decode cX11_least 21 = .ok (.aload_n 0, 1) := by decide +kernel
theorem dX11_least_22 : decode cX11_least 22 = .ok (.getfield 65, 3) := by decide +kernel
theorem dX11_least_25 : decode cX11_least 25 = .ok (.getfield 128, 3) := by decide +kernel
theorem dX11_least_28 : decode cX11_least 28 = .ok (.aload_n 0, 1) := by decide +kernel
theorem dX11_least_29 : decode cX11_least 29 = .ok (.getfield 42, 3) := by decide +kernel
theorem dX11_least_32 : decode cX11_least 32 = .ok (.invokevirtual 131, 3) := by decide +kernel
theorem dX11_least_35 : decode cX11_least 35 = .ok (.if_icmp .lt 5, 3) := by decide +kernel
theorem dX11_least_38 : decode cX11_least 38 = .ok (.iconst 0, 1) := by decide +kernel
theorem dX11_least_39 : decode cX11_least 39 = .ok (.ireturn, 1) := by decide +kernel
theorem dX11_least_40 : decode cX11_least 40 = .ok (.aload_n 0, 1) := by decide +kernel
theorem dX11_least_41 : decode cX11_least 41 = .ok (.getfield 84, 3) := by decide +kernel
theorem dX11_least_44 : decode cX11_least 44 = .ok (.invokevirtual 300, 3) := by decide +kernel
theorem dX11_least_47 : decode cX11_least 47 = .ok (.ifCond .ne 5, 3) := by decide +kernel
theorem dX11_least_50 : decode cX11_least 50 = .ok (.iconst (-1), 1) := by decide +kernel
theorem dX11_least_51 : decode cX11_least 51 = .ok (.ireturn, 1) := by decide +kernel
theorem dX11_least_52 : decode cX11_least 52 = .ok (.iload_n 1, 1) := by decide +kernel
theorem dX11_least_53 : decode cX11_least 53 = .ok (.ifCond .ne 13, 3) := by decide +kernel
theorem dX11_least_56 : decode cX11_least 56 = .ok (.aload_n 0, 1) := by decide +kernel
theorem dX11_least_57 : decode cX11_least 57 = .ok (.getfield 84, 3) := by decide +kernel
theorem dX11_least_60 : decode cX11_least 60 = .ok (.getfield 303, 3) := by decide +kernel
theorem dX11_least_63 : decode cX11_least 63 = .ok (.goto 10, 3) := by decide +kernel
theorem dX11_least_66 : decode cX11_least 66 = .ok (.aload_n 0, 1) := by decide +kernel
theorem dX11_least_67 : decode cX11_least 67 = .ok (.getfield 84, 3) := by decide +kernel
theorem dX11_least_70 : decode cX11_least 70 = .ok (.getfield 306, 3) := by decide +kernel
theorem dX11_least_73 : decode cX11_least 73 = .ok (.ireturn, 1) := by decide +kernel
def X11_least (n : Nat) (x1 : Int32) (h : Mm) : Option (Int32 × Mm) := (bp (X1_stands 13 h) (fun r8 => (if r8 = true then (if x1 < 0 then (some ((-1 : Int32), h)) else (if x1 ≤ (1 : Int32) then (bp (X1_enough 13 h) (fun r10 => (if (h.1 27 4) < r10 then (bd (X6_findLeast n h) (fun r12 h14 => (if r12 = true then (if x1 = 0 then (some ((h14.1 246 7), h14)) else (some ((h14.1 246 6), h14))) else (some ((-1 : Int32), h14))))) else (some ((0 : Int32), h))))) else (some ((-1 : Int32), h)))) else (some ((-1 : Int32), h)))))
set_option maxRecDepth 100000 in
set_option maxHeartbeats 4000000 in
theorem s_X11_least {X : WX} {o : Mm} {n : Nat} {x1 : Int32} {rv : Int32} {hz : Mm} {h : Mm} (hF : X11_least n x1 h = some (rv, hz)) : Sat X yX11_least cX11_least 2 (some .int) 36 [.ref (xa X 0), .int x1] true o h (some (.int rv)) hz := by
  unfold X11_least at hF
  refine Sat.mk (own := RX11) rfl (by decide +kernel) (Nat.le_of_ble_eq_true rfl) (fun G => ?_)
  refine V.sub (lv2 := [(0, _), (1, _)]) [0, 1] rfl ?_
  refine V.aload_n 0 dX11_least_0 rfl rfl ?_
  refine V.getR (v := 13) fl_X11_42 sh_0 rfl fx_0_4 (by decide) dX11_least_1 ?_
  obtain ⟨r8, hc9, hF⟩ := bp_s hF
  refine V.callVi mf_X1_stands ml_X11_124 sh_13 (s_X1_stands (Or.inr rfl) hc9) (by decide) rfl rfl (Nat.le_of_ble_eq_true rfl) dX11_least_4 ?_
  refine V.ifz_eq (tgt := 19) dX11_least_7 rfl (fun c => ?_) (fun c => ?_)
  · replace hF := iq c hF
    refine V.iconst (v := -1) dX11_least_19 rfl ?_
    cases hF
    exact V.iret dX11_least_20
  · replace hF := ip c hF
    refine V.iload_n 1 dX11_least_10 rfl rfl ?_
    refine V.if_lt (tgt := 19) dX11_least_11 rfl (fun c => ?_) (fun c => ?_)
    · replace hF := ip c hF
      refine V.iconst (v := -1) dX11_least_19 rfl ?_
      cases hF
      exact V.iret dX11_least_20
    · replace hF := iq c hF
      refine V.iload_n 1 dX11_least_14 rfl rfl ?_
      refine V.iconst (v := 1) dX11_least_15 rfl ?_
      refine V.icmp_le (tgt := 21) dX11_least_16 rfl (fun c => ?_) (fun c => ?_)
      · replace hF := ip c hF
        refine V.aload_n 0 dX11_least_21 rfl rfl ?_
        refine V.getR (v := 27) fl_X11_65 sh_0 rfl fx_0_7 (by decide) dX11_least_22 ?_
        refine V.getI fl_X11_128 sh_27 rfl km_27 dX11_least_25 ?_
        refine V.aload_n 0 dX11_least_28 rfl rfl ?_
        refine V.getR (v := 13) fl_X11_42 sh_0 rfl fx_0_4 (by decide) dX11_least_29 ?_
        obtain ⟨r10, hc11, hF⟩ := bp_s hF
        refine V.callVi mf_X1_enough ml_X11_131 sh_13 (s_X1_enough (Or.inr rfl) hc11) (by decide) rfl rfl (Nat.le_of_ble_eq_true rfl) dX11_least_32 ?_
        refine V.icmp_lt (tgt := 40) dX11_least_35 rfl (fun c => ?_) (fun c => ?_)
        · replace hF := ip c hF
          refine V.aload_n 0 dX11_least_40 rfl rfl ?_
          refine V.getR (v := 246) fl_X11_84 sh_0 rfl fx_0_10 (by decide) dX11_least_41 ?_
          obtain ⟨r12, h14, hc13, hF⟩ := bd_s hF
          refine V.callVi mf_X6_findLeast ml_X11_300 sh_246 (s_X6_findLeast hc13) (by decide) rfl rfl (Nat.le_of_ble_eq_true rfl) dX11_least_44 ?_
          refine V.ifz_ne (tgt := 52) dX11_least_47 rfl (fun c => ?_) (fun c => ?_)
          · replace hF := ip c hF
            refine V.iload_n 1 dX11_least_52 rfl rfl ?_
            refine V.if_ne (tgt := 66) dX11_least_53 rfl (fun c => ?_) (fun c => ?_)
            · replace hF := iq c hF
              refine V.aload_n 0 dX11_least_66 rfl rfl ?_
              refine V.getR (v := 246) fl_X11_84 sh_0 rfl fx_0_10 (by decide) dX11_least_67 ?_
              refine V.getI fl_X11_306 sh_246 rfl km_246 dX11_least_70 ?_
              cases hF
              exact V.iret dX11_least_73
            · replace hF := ip c hF
              refine V.aload_n 0 dX11_least_56 rfl rfl ?_
              refine V.getR (v := 246) fl_X11_84 sh_0 rfl fx_0_10 (by decide) dX11_least_57 ?_
              refine V.getI fl_X11_303 sh_246 rfl km_246 dX11_least_60 ?_
              refine V.goto (tgt := 73) dX11_least_63 rfl ?_
              cases hF
              exact V.iret dX11_least_73
          · replace hF := iq c hF
            refine V.iconst (v := -1) dX11_least_50 rfl ?_
            cases hF
            exact V.iret dX11_least_51
        · replace hF := iq c hF
          refine V.iconst (v := 0) dX11_least_38 rfl ?_
          cases hF
          exact V.iret dX11_least_39
      · replace hF := iq c hF
        refine V.iconst (v := -1) dX11_least_19 rfl ?_
        cases hF
        exact V.iret dX11_least_20
/-! MonsterCot.best -/
theorem dX11_best_0 : decode cX11_best 0 = .ok (.iload_n 1, 1) := by decide +kernel
theorem dX11_best_1 : decode cX11_best 1 = .ok (.iconst 1, 1) := by decide +kernel
theorem dX11_best_2 : decode cX11_best 2 = .ok (.if_icmp .lt 18, 3) := by decide +kernel
theorem dX11_best_5 : decode cX11_best 5 = .ok (.iload_n 1, 1) := by decide +kernel
theorem dX11_best_6 : decode cX11_best 6 = .ok (.bipush 9, 2) := by decide +kernel
theorem dX11_best_8 : decode cX11_best 8 = .ok (.if_icmp .gt 12, 3) := by decide +kernel
theorem dX11_best_11 : decode cX11_best 11 = .ok (.iload_n 2, 1) := by decide +kernel
theorem dX11_best_12 : decode cX11_best 12 = .ok (.ifCond .lt 8, 3) := by decide +kernel
theorem dX11_best_15 : decode cX11_best 15 = .ok (.iload_n 2, 1) := by decide +kernel
theorem dX11_best_16 : decode cX11_best 16 = .ok (.iconst 1, 1) := by decide +kernel
theorem dX11_best_17 : decode cX11_best 17 = .ok (.if_icmp .le 5, 3) := by decide +kernel
theorem dX11_best_20 : decode cX11_best 20 = .ok (.iconst (-1), 1) := by decide +kernel
theorem dX11_best_21 : decode cX11_best 21 = .ok (.ireturn, 1) := by decide +kernel
theorem dX11_best_22 : decode cX11_best 22 = .ok (.iconst (-1), 1) := by decide +kernel
theorem dX11_best_23 : decode cX11_best 23 = .ok (.istore_n 3, 1) := by decide +kernel
theorem dX11_best_24 : decode cX11_best 24 = .ok (.iconst (-1), 1) := by decide +kernel
theorem dX11_best_25 : decode cX11_best 25 = .ok (.istore 4, 2) := by decide +kernel
theorem dX11_best_27 : decode cX11_best 27 = .ok (.iconst 0, 1) := by decide +kernel
theorem dX11_best_28 : decode cX11_best 28 = .ok (.istore 5, 2) := by decide +kernel
theorem dX11_best_30 : decode cX11_best 30 = .ok (.iload 5, 2) := by decide +kernel
theorem dX11_best_32 : decode cX11_best 32 = .ok (.aload_n 0, 1) := by decide +kernel
theorem dX11_best_33 : decode cX11_best 33 = .ok (.getfield 42, 3) := by decide +kernel
theorem dX11_best_36 : decode cX11_best 36 = .ok (.invokevirtual 309, 3) := by decide +kernel
theorem dX11_best_39 : decode cX11_best 39 = .ok (.if_icmp .ge 61, 3) := by decide +kernel
theorem dX11_best_42 : decode cX11_best 42 = .ok (.aload_n 0, 1) := by decide +kernel
theorem dX11_best_43 : decode cX11_best 43 = .ok (.getfield 58, 3) := by decide +kernel
theorem dX11_best_46 : decode cX11_best 46 = .ok (.aload_n 0, 1) := by decide +kernel
theorem dX11_best_47 : decode cX11_best 47 = .ok (.getfield 65, 3) := by decide +kernel
theorem dX11_best_50 : decode cX11_best 50 = .ok (.iload 5, 2) := by decide +kernel
theorem dX11_best_52 : decode cX11_best 52 = .ok (.iload_n 1, 1) := by decide +kernel
theorem dX11_best_53 : decode cX11_best 53 = .ok (.iconst 0, 1) := by decide +kernel
theorem dX11_best_54 : decode cX11_best 54 = .ok (.invokevirtual 195, 3) := by decide +kernel
theorem dX11_best_57 : decode cX11_best 57 = .ok (.ifCond .eq 20, 3) := by decide +kernel
theorem dX11_best_60 : decode cX11_best 60 = .ok (.aload_n 0, 1) := by decide +kernel
theorem dX11_best_61 : decode cX11_best 61 = .ok (.getfield 58, 3) := by decide +kernel
theorem dX11_best_64 : decode cX11_best 64 = .ok (.aload_n 0, 1) := by decide +kernel
theorem dX11_best_65 : decode cX11_best 65 = .ok (.getfield 65, 3) := by decide +kernel
theorem dX11_best_68 : decode cX11_best 68 = .ok (.iload 5, 2) := by decide +kernel
theorem dX11_best_70 : decode cX11_best 70 = .ok (.iload_n 1, 1) := by decide +kernel
theorem dX11_best_71 : decode cX11_best 71 = .ok (.invokevirtual 297, 3) := by decide +kernel
theorem dX11_best_74 : decode cX11_best 74 = .ok (.goto 4, 3) := by decide +kernel
theorem dX11_best_77 : decode cX11_best 77 = .ok (.iconst (-1), 1) := by decide +kernel
theorem dX11_best_78 : decode cX11_best 78 = .ok (.istore 6, 2) := by decide +kernel
theorem dX11_best_80 : decode cX11_best 80 = .ok (.iload 6, 2) := by decide +kernel
theorem dX11_best_82 : decode cX11_best 82 = .ok (.iload 4, 2) := by decide +kernel
theorem dX11_best_84 : decode cX11_best 84 = .ok (.if_icmp .le 10, 3) := by decide +kernel
theorem dX11_best_87 : decode cX11_best 87 = .ok (.iload 5, 2) := by decide +kernel
theorem dX11_best_89 : decode cX11_best 89 = .ok (.istore_n 3, 1) := by decide +kernel
theorem dX11_best_90 : decode cX11_best 90 = .ok (.iload 6, 2) := by decide +kernel
theorem dX11_best_92 : decode cX11_best 92 = .ok (.istore 4, 2) := by decide +kernel
theorem dX11_best_94 : decode cX11_best 94 = .ok (.iinc 5 1, 3) := by decide +kernel
theorem dX11_best_97 : decode cX11_best 97 = .ok (.goto (-67), 3) := by decide +kernel
theorem dX11_best_100 : decode cX11_best 100 = .ok (.iload_n 2, 1) := by decide +kernel
theorem dX11_best_101 : decode cX11_best 101 = .ok (.ifCond .ne 7, 3) := by decide +kernel
theorem dX11_best_104 : decode cX11_best 104 = .ok (.iload_n 3, 1) := by decide +kernel
theorem dX11_best_105 : decode cX11_best 105 = .ok (.goto 5, 3) := by decide +kernel
theorem dX11_best_108 : decode cX11_best 108 = .ok (.iload 4, 2) := by decide +kernel
theorem dX11_best_110 : decode cX11_best 110 = .ok (.ireturn, 1) := by decide +kernel
def X11_best_94 (n : Nat) (K30 : Int32 → Int32 → Int32 → Int32 → Int32 → Mm → Option (Int32 × Mm)) (x1 : Int32) (x2 : Int32) (x3 : Int32) (x4 : Int32) (x5 : Int32) (h : Mm) : Option (Int32 × Mm) := (K30 x1 x2 x3 x4 (x5 + (1)) h)
set_option maxRecDepth 100000 in
set_option maxHeartbeats 4000000 in
theorem v_X11_best_94 {X : WX} {G : GX} {o : Mm} {n : Nat} {K30 : Int32 → Int32 → Int32 → Int32 → Int32 → Mm → Option (Int32 × Mm)} {rv : Int32} {hz : Mm} (hK30 : ∀ (x1 : Int32) (x2 : Int32) (x3 : Int32) (x4 : Int32) (x5 : Int32) (h : Mm), K30 x1 x2 x3 x4 x5 h = some (rv, hz) → V X G RX11 cX11_best 7 (some .int) 6 0 0 (QR X G true o (some (.int rv)) hz) true o 30 [(0, .ref (xa X 0)), (1, .int x1), (2, .int x2), (3, .int x3), (4, .int x4), (5, .int x5)] [] h) {x1 : Int32} {x2 : Int32} {x3 : Int32} {x4 : Int32} {x5 : Int32} {h : Mm} (hF : X11_best_94 n K30 x1 x2 x3 x4 x5 h = some (rv, hz)) : V X G RX11 cX11_best 7 (some .int) 6 0 0 (QR X G true o (some (.int rv)) hz) true o 94 [(0, .ref (xa X 0)), (1, .int x1), (2, .int x2), (3, .int x3), (4, .int x4), (5, .int x5)] [] h := by
  unfold X11_best_94 at hF
  refine V.iinc (v := (x5 + (1))) 5 [(5, _), (0, _), (1, _), (2, _), (3, _), (4, _)] dX11_best_94 rfl rfl (by decide) rfl ?_
  refine V.goto (tgt := 30) dX11_best_97 rfl ?_
  exact V.sub [1, 2, 3, 4, 5, 0] rfl (hK30 _ _ _ _ _ _ hF)
def X11_best_78 (n : Nat) (K30 : Int32 → Int32 → Int32 → Int32 → Int32 → Mm → Option (Int32 × Mm)) (x1 : Int32) (x2 : Int32) (x3 : Int32) (x4 : Int32) (x5 : Int32) (s0 : Int32) (h : Mm) : Option (Int32 × Mm) := (if s0 ≤ x4 then (X11_best_94 n K30 x1 x2 x3 x4 x5 h) else (X11_best_94 n K30 x1 x2 x5 s0 x5 h))
set_option maxRecDepth 100000 in
set_option maxHeartbeats 4000000 in
theorem v_X11_best_78 {X : WX} {G : GX} {o : Mm} {n : Nat} {K30 : Int32 → Int32 → Int32 → Int32 → Int32 → Mm → Option (Int32 × Mm)} {rv : Int32} {hz : Mm} (hK30 : ∀ (x1 : Int32) (x2 : Int32) (x3 : Int32) (x4 : Int32) (x5 : Int32) (h : Mm), K30 x1 x2 x3 x4 x5 h = some (rv, hz) → V X G RX11 cX11_best 7 (some .int) 6 0 0 (QR X G true o (some (.int rv)) hz) true o 30 [(0, .ref (xa X 0)), (1, .int x1), (2, .int x2), (3, .int x3), (4, .int x4), (5, .int x5)] [] h) {x1 : Int32} {x2 : Int32} {x3 : Int32} {x4 : Int32} {x5 : Int32} {s0 : Int32} {h : Mm} (hF : X11_best_78 n K30 x1 x2 x3 x4 x5 s0 h = some (rv, hz)) : V X G RX11 cX11_best 7 (some .int) 6 0 0 (QR X G true o (some (.int rv)) hz) true o 78 [(0, .ref (xa X 0)), (1, .int x1), (2, .int x2), (3, .int x3), (4, .int x4), (5, .int x5)] [.int s0] h := by
  unfold X11_best_78 at hF
  refine V.istore [(6, _), (0, _), (1, _), (2, _), (3, _), (4, _), (5, _)] dX11_best_78 (by decide) rfl ?_
  refine V.iload 0 dX11_best_80 rfl ?_
  refine V.iload 5 dX11_best_82 rfl ?_
  refine V.icmp_le (tgt := 94) dX11_best_84 rfl (fun c => ?_) (fun c => ?_)
  · replace hF := ip c hF
    exact V.sub [1, 2, 3, 4, 5, 6] rfl (v_X11_best_94 hK30 hF)
  · replace hF := iq c hF
    refine V.iload 6 dX11_best_87 rfl ?_
    refine V.istore_n [(3, _), (6, _), (0, _), (1, _), (2, _), (4, _), (5, _)] dX11_best_89 rfl (by decide) rfl ?_
    refine V.iload 1 dX11_best_90 rfl ?_
    refine V.istore [(4, _), (3, _), (6, _), (0, _), (1, _), (2, _), (5, _)] dX11_best_92 (by decide) rfl ?_
    exact V.sub [3, 4, 5, 1, 0, 6] rfl (v_X11_best_94 hK30 hF)
def X11_best_30 (n : Nat) : Nat → Int32 → Int32 → Int32 → Int32 → Int32 → Mm → Option (Int32 × Mm)
  | 0, _, _, _, _, _, _ => none
  | f + 1, x1, x2, x3, x4, x5, h => (bp (X1_books 13 h) (fun r36 => (if r36 ≤ x5 then (if x2 = 0 then (some (x3, h)) else (some (x4, h))) else (bp (X9_canRead 27 x5 x1 false h) (fun r38 => (if r38 = true then (bd (X9_calmNow n 27 x5 x1 h) (fun r40 h42 => (X11_best_78 n (X11_best_30 n f) x1 x2 x3 x4 x5 r40 h42))) else (X11_best_78 n (X11_best_30 n f) x1 x2 x3 x4 x5 (-1 : Int32) h)))))))
set_option maxRecDepth 100000 in
set_option maxHeartbeats 4000000 in
theorem v_X11_best_30 {X : WX} {G : GX} {o : Mm} {n : Nat} {rv : Int32} {hz : Mm} : ∀ (f : Nat) (x1 : Int32) (x2 : Int32) (x3 : Int32) (x4 : Int32) (x5 : Int32) (h : Mm), X11_best_30 n f x1 x2 x3 x4 x5 h = some (rv, hz) → V X G RX11 cX11_best 7 (some .int) 6 0 0 (QR X G true o (some (.int rv)) hz) true o 30 [(0, .ref (xa X 0)), (1, .int x1), (2, .int x2), (3, .int x3), (4, .int x4), (5, .int x5)] [] h := by
  intro f
  induction f with
  | zero => intro x1 x2 x3 x4 x5 h hF; exact nomatch (show (none : Option (Int32 × Mm)) = some (rv, hz) from hF)
  | succ f ih =>
    intro x1 x2 x3 x4 x5 h hF
    unfold X11_best_30 at hF
    refine V.iload 5 dX11_best_30 rfl ?_
    refine V.aload_n 0 dX11_best_32 rfl rfl ?_
    refine V.getR (v := 13) fl_X11_42 sh_0 rfl fx_0_4 (by decide) dX11_best_33 ?_
    obtain ⟨r36, hc37, hF⟩ := bp_s hF
    refine V.callVi mf_X1_books ml_X11_309 sh_13 (s_X1_books (Or.inr rfl) hc37) (by decide) rfl rfl (Nat.le_of_ble_eq_true rfl) dX11_best_36 ?_
    refine V.icmp_ge (tgt := 100) dX11_best_39 rfl (fun c => ?_) (fun c => ?_)
    · replace hF := ip c hF
      refine V.iload_n 2 dX11_best_100 rfl rfl ?_
      refine V.if_ne (tgt := 108) dX11_best_101 rfl (fun c => ?_) (fun c => ?_)
      · replace hF := iq c hF
        refine V.iload 4 dX11_best_108 rfl ?_
        cases hF
        exact V.iret dX11_best_110
      · replace hF := ip c hF
        refine V.iload_n 3 dX11_best_104 rfl rfl ?_
        refine V.goto (tgt := 110) dX11_best_105 rfl ?_
        cases hF
        exact V.iret dX11_best_110
    · replace hF := iq c hF
      refine V.aload_n 0 dX11_best_42 rfl rfl ?_
      refine V.getR (v := 26) fl_X11_58 sh_0 rfl fx_0_6 (by decide) dX11_best_43 ?_
      refine V.aload_n 0 dX11_best_46 rfl rfl ?_
      refine V.getR (v := 27) fl_X11_65 sh_0 rfl fx_0_7 (by decide) dX11_best_47 ?_
      refine V.iload 5 dX11_best_50 rfl ?_
      refine V.iload_n 1 dX11_best_52 rfl rfl ?_
      refine V.iconst (v := 0) dX11_best_53 rfl ?_
      obtain ⟨r38, hc39, hF⟩ := bp_s hF
      refine V.callVi mf_X9_canRead ml_X11_195 sh_26 (s_X9_canRead isb_27 hc39) (by decide) rfl rfl (Nat.le_of_ble_eq_true rfl) dX11_best_54 ?_
      refine V.ifz_eq (tgt := 77) dX11_best_57 rfl (fun c => ?_) (fun c => ?_)
      · replace hF := iq c hF
        refine V.iconst (v := -1) dX11_best_77 rfl ?_
        exact (v_X11_best_78 ih hF)
      · replace hF := ip c hF
        refine V.aload_n 0 dX11_best_60 rfl rfl ?_
        refine V.getR (v := 26) fl_X11_58 sh_0 rfl fx_0_6 (by decide) dX11_best_61 ?_
        refine V.aload_n 0 dX11_best_64 rfl rfl ?_
        refine V.getR (v := 27) fl_X11_65 sh_0 rfl fx_0_7 (by decide) dX11_best_65 ?_
        refine V.iload 5 dX11_best_68 rfl ?_
        refine V.iload_n 1 dX11_best_70 rfl rfl ?_
        obtain ⟨r40, h42, hc41, hF⟩ := bd_s hF
        refine V.callVi mf_X9_calmNow ml_X11_297 sh_26 (s_X9_calmNow isb_27 hc41) (by decide) rfl rfl (Nat.le_of_ble_eq_true rfl) dX11_best_71 ?_
        refine V.goto (tgt := 78) dX11_best_74 rfl ?_
        exact (v_X11_best_78 ih hF)
def X11_best (n : Nat) (x1 : Int32) (x2 : Int32) (h : Mm) : Option (Int32 × Mm) := (if x1 < (1 : Int32) then (some ((-1 : Int32), h)) else (if (9 : Int32) < x1 then (some ((-1 : Int32), h)) else (if x2 < 0 then (some ((-1 : Int32), h)) else (if x2 ≤ (1 : Int32) then (X11_best_30 n n x1 x2 (-1 : Int32) (-1 : Int32) (0 : Int32) h) else (some ((-1 : Int32), h))))))
set_option maxRecDepth 100000 in
set_option maxHeartbeats 4000000 in
theorem s_X11_best {X : WX} {o : Mm} {n : Nat} {x1 : Int32} {x2 : Int32} {rv : Int32} {hz : Mm} {h : Mm} (hF : X11_best n x1 x2 h = some (rv, hz)) : Sat X yX11_best cX11_best 7 (some .int) 6 [.ref (xa X 0), .int x1, .int x2] true o h (some (.int rv)) hz := by
  unfold X11_best at hF
  refine Sat.mk (own := RX11) rfl (by decide +kernel) (Nat.le_of_ble_eq_true rfl) (fun G => ?_)
  refine V.sub (lv2 := [(0, _), (1, _), (2, _)]) [0, 1, 2] rfl ?_
  refine V.iload_n 1 dX11_best_0 rfl rfl ?_
  refine V.iconst (v := 1) dX11_best_1 rfl ?_
  refine V.icmp_lt (tgt := 20) dX11_best_2 rfl (fun c => ?_) (fun c => ?_)
  · replace hF := ip c hF
    refine V.iconst (v := -1) dX11_best_20 rfl ?_
    cases hF
    exact V.iret dX11_best_21
  · replace hF := iq c hF
    refine V.iload_n 1 dX11_best_5 rfl rfl ?_
    refine V.bipush (v := 9) dX11_best_6 (by decide) ?_
    refine V.icmp_gt (tgt := 20) dX11_best_8 rfl (fun c => ?_) (fun c => ?_)
    · replace hF := ip c hF
      refine V.iconst (v := -1) dX11_best_20 rfl ?_
      cases hF
      exact V.iret dX11_best_21
    · replace hF := iq c hF
      refine V.iload_n 2 dX11_best_11 rfl rfl ?_
      refine V.if_lt (tgt := 20) dX11_best_12 rfl (fun c => ?_) (fun c => ?_)
      · replace hF := ip c hF
        refine V.iconst (v := -1) dX11_best_20 rfl ?_
        cases hF
        exact V.iret dX11_best_21
      · replace hF := iq c hF
        refine V.iload_n 2 dX11_best_15 rfl rfl ?_
        refine V.iconst (v := 1) dX11_best_16 rfl ?_
        refine V.icmp_le (tgt := 22) dX11_best_17 rfl (fun c => ?_) (fun c => ?_)
        · replace hF := ip c hF
          refine V.iconst (v := -1) dX11_best_22 rfl ?_
          refine V.istore_n [(3, _), (0, _), (1, _), (2, _)] dX11_best_23 rfl (by decide) rfl ?_
          refine V.iconst (v := -1) dX11_best_24 rfl ?_
          refine V.istore [(4, _), (3, _), (0, _), (1, _), (2, _)] dX11_best_25 (by decide) rfl ?_
          refine V.iconst (v := 0) dX11_best_27 rfl ?_
          refine V.istore [(5, _), (4, _), (3, _), (0, _), (1, _), (2, _)] dX11_best_28 (by decide) rfl ?_
          exact V.sub [3, 4, 5, 2, 1, 0] rfl (v_X11_best_30 n _ _ _ _ _ _ hF)
        · replace hF := iq c hF
          refine V.iconst (v := -1) dX11_best_20 rfl ?_
          cases hF
          exact V.iret dX11_best_21
/-! MonsterCot$Ways.restedFrom -/
theorem dX9_restedFrom_0 : decode cX9_restedFrom 0 = .ok (.iconst 0, 1) := by decide +kernel
theorem dX9_restedFrom_1 : decode cX9_restedFrom 1 = .ok (.iload_n 0, 1) := by decide +kernel
theorem dX9_restedFrom_2 : decode cX9_restedFrom 2 = .ok (.iload_n 1, 1) := by decide +kernel
theorem dX9_restedFrom_3 : decode cX9_restedFrom 3 = .ok (.bipush 6, 2) := by decide +kernel
theorem dX9_restedFrom_5 : decode cX9_restedFrom 5 = .ok (.imul, 1) := by decide +kernel
theorem dX9_restedFrom_6 : decode cX9_restedFrom 6 = .ok (.isub, 1) := by decide +kernel
theorem dX9_restedFrom_7 : decode cX9_restedFrom 7 = .ok (.invokestatic 133, 3) := by decide +kernel
theorem dX9_restedFrom_10 : decode cX9_restedFrom 10 = .ok (.ireturn, 1) := by decide +kernel
def X9_restedFrom (x0 : Int32) (x1 : Int32) (h : Mm) : Option Int32 := (bp (J9_max_7cf53 (0 : Int32) (x0 - (x1 * (6 : Int32))) h) (fun r3 => (some r3)))
set_option maxRecDepth 100000 in
set_option maxHeartbeats 4000000 in
theorem s_X9_restedFrom {X : WX} {o : Mm} {x0 : Int32} {x1 : Int32} {rv : Int32} {h : Mm} (hF : X9_restedFrom x0 x1 h = some rv) : Sat X yX9_restedFrom cX9_restedFrom 2 (some .int) 2 [.int x0, .int x1] true o h (some (.int rv)) h := by
  unfold X9_restedFrom at hF
  refine Sat.mk (own := RX9) rfl (by decide +kernel) (Nat.le_of_ble_eq_true rfl) (fun G => ?_)
  refine V.sub (lv2 := [(0, _), (1, _)]) [0, 1] rfl ?_
  refine V.iconst (v := 0) dX9_restedFrom_0 rfl ?_
  refine V.iload_n 0 dX9_restedFrom_1 rfl rfl ?_
  refine V.iload_n 1 dX9_restedFrom_2 rfl rfl ?_
  refine V.bipush (v := 6) dX9_restedFrom_3 (by decide) ?_
  refine V.imul dX9_restedFrom_5 ?_
  refine V.isub dX9_restedFrom_6 ?_
  obtain ⟨r3, hc4, hF⟩ := bp_s hF
  refine V.callSi mf_J9_max_7cf53 ml_X9_133 (s_J9_max_7cf53 hc4) (by decide) rfl rfl (Nat.le_of_ble_eq_true rfl) dX9_restedFrom_7 ?_
  cases hF
  exact V.iret dX9_restedFrom_10
/-! MonsterCot$Search.growRoster -/
theorem dX6_growRoster_0 : decode cX6_growRoster 0 = .ok (.iload_n 1, 1) := by decide +kernel
theorem dX6_growRoster_1 : decode cX6_growRoster 1 = .ok (.aload_n 0, 1) := by decide +kernel
theorem dX6_growRoster_2 : decode cX6_growRoster 2 = .ok (.getfield 28, 3) := by decide +kernel
theorem dX6_growRoster_5 : decode cX6_growRoster 5 = .ok (.invokevirtual 136, 3) := by decide +kernel
theorem dX6_growRoster_8 : decode cX6_growRoster 8 = .ok (.if_icmp .lt 24, 3) := by decide +kernel
theorem dX6_growRoster_11 : decode cX6_growRoster 11 = .ok (.iload 4, 2) := by decide +kernel
theorem dX6_growRoster_13 : decode cX6_growRoster 13 = .ok (.aload_n 0, 1) := by decide +kernel
theorem dX6_growRoster_14 : decode cX6_growRoster 14 = .ok (.getfield 42, 3) := by decide +kernel
theorem dX6_growRoster_17 : decode cX6_growRoster 17 = .ok (.if_icmp .le 14, 3) := by decide +kernel
theorem dX6_growRoster_20 : decode cX6_growRoster 20 = .ok (.aload_n 0, 1) := by decide +kernel
theorem dX6_growRoster_21 : decode cX6_growRoster 21 = .ok (.iload 4, 2) := by decide +kernel
theorem dX6_growRoster_23 : decode cX6_growRoster 23 = .ok (.putfield 42, 3) := by decide +kernel
theorem dX6_growRoster_26 : decode cX6_growRoster 26 = .ok (.aload_n 0, 1) := by decide +kernel
theorem dX6_growRoster_27 : decode cX6_growRoster 27 = .ok (.iload_n 3, 1) := by decide +kernel
theorem dX6_growRoster_28 : decode cX6_growRoster 28 = .ok (.putfield 38, 3) := by decide +kernel
theorem dX6_growRoster_31 : decode cX6_growRoster 31 = .ok (.return_, 1) := by decide +kernel
theorem dX6_growRoster_32 : decode cX6_growRoster 32 = .ok (.aload_n 0, 1) := by decide +kernel
theorem dX6_growRoster_33 : decode cX6_growRoster 33 = .ok (.getfield 28, 3) := by decide +kernel
theorem dX6_growRoster_36 : decode cX6_growRoster 36 = .ok (.aload_n 0, 1) := by decide +kernel
theorem dX6_growRoster_37 : decode cX6_growRoster 37 = .ok (.getfield 130, 3) := by decide +kernel
theorem dX6_growRoster_40 : decode cX6_growRoster 40 = .ok (.invokevirtual 95, 3) := by decide +kernel
theorem dX6_growRoster_43 : decode cX6_growRoster 43 = .ok (.istore 7, 2) := by decide +kernel
theorem dX6_growRoster_45 : decode cX6_growRoster 45 = .ok (.iconst 0, 1) := by decide +kernel
theorem dX6_growRoster_46 : decode cX6_growRoster 46 = .ok (.istore 8, 2) := by decide +kernel
theorem dX6_growRoster_48 : decode cX6_growRoster 48 = .ok (.iload 8, 2) := by decide +kernel
theorem dX6_growRoster_50 : decode cX6_growRoster 50 = .ok (.aload_n 0, 1) := by decide +kernel
theorem dX6_growRoster_51 : decode cX6_growRoster 51 = .ok (.getfield 28, 3) := by decide +kernel
theorem dX6_growRoster_54 : decode cX6_growRoster 54 = .ok (.invokevirtual 136, 3) := by decide +kernel
theorem dX6_growRoster_57 : decode cX6_growRoster 57 = .ok (.if_icmp .ge 223, 3) := by decide +kernel
theorem dX6_growRoster_60 : decode cX6_growRoster 60 = .ok (.iload_n 2, 1) := by decide +kernel
theorem dX6_growRoster_61 : decode cX6_growRoster 61 = .ok (.iload 8, 2) := by decide +kernel
theorem dX6_growRoster_63 : decode cX6_growRoster 63 = .ok (.ishr, 1) := by decide +kernel
theorem dX6_growRoster_64 : decode cX6_growRoster 64 = .ok (.iconst 1, 1) := by decide +kernel
theorem dX6_growRoster_65 : decode cX6_growRoster 65 = .ok (.iand, 1) := by decide +kernel
theorem dX6_growRoster_66 : decode cX6_growRoster 66 = .ok (.ifCond .eq 6, 3) := by decide +kernel
theorem dX6_growRoster_69 : decode cX6_growRoster 69 = .ok (.goto 205, 3) := by decide +kernel
theorem dX6_growRoster_72 : decode cX6_growRoster 72 = .ok (.aload_n 0, 1) := by decide +kernel
theorem dX6_growRoster_73 : decode cX6_growRoster 73 = .ok (.getfield 34, 3) := by decide +kernel
theorem dX6_growRoster_76 : decode cX6_growRoster 76 = .ok (.getfield 89, 3) := by decide +kernel
theorem dX6_growRoster_79 : decode cX6_growRoster 79 = .ok (.iload 8, 2) := by decide +kernel
theorem dX6_growRoster_81 : decode cX6_growRoster 81 = .ok (.invokestatic 79, 3) := by decide +kernel
theorem dX6_growRoster_84 : decode cX6_growRoster 84 = .ok (.iload_n 1, 1) := by decide +kernel
theorem dX6_growRoster_85 : decode cX6_growRoster 85 = .ok (.invokestatic 139, 3) := by decide +kernel
theorem dX6_growRoster_88 : decode cX6_growRoster 88 = .ok (.istore 9, 2) := by decide +kernel
theorem dX6_growRoster_90 : decode cX6_growRoster 90 = .ok (.iload 7, 2) := by decide +kernel
theorem dX6_growRoster_92 : decode cX6_growRoster 92 = .ok (.aload_n 0, 1) := by decide +kernel
theorem dX6_growRoster_93 : decode cX6_growRoster 93 = .ok (.getfield 28, 3) := by decide +kernel
theorem dX6_growRoster_96 : decode cX6_growRoster 96 = .ok (.iload 8, 2) := by decide +kernel
theorem dX6_growRoster_98 : decode cX6_growRoster 98 = .ok (.invokevirtual 92, 3) := by decide +kernel
theorem dX6_growRoster_101 : decode cX6_growRoster 101 = .ok (.iload 9, 2) := by decide +kernel
theorem dX6_growRoster_103 : decode cX6_growRoster 103 = .ok (.isub, 1) := by decide +kernel
theorem dX6_growRoster_104 : decode cX6_growRoster 104 = .ok (.if_icmp .gt 25, 3) := by decide +kernel
theorem dX6_growRoster_107 : decode cX6_growRoster 107 = .ok (.iload_n 1, 1) := by decide +kernel
theorem dX6_growRoster_108 : decode cX6_growRoster 108 = .ok (.ifCond .ne 17, 3) := by decide +kernel
theorem dX6_growRoster_111 : decode cX6_growRoster 111 = .ok (.aload_n 0, 1) := by decide +kernel
theorem dX6_growRoster_112 : decode cX6_growRoster 112 = .ok (.getfield 34, 3) := by decide +kernel
theorem dX6_growRoster_115 : decode cX6_growRoster 115 = .ok (.aload_n 0, 1) := by decide +kernel
theorem dX6_growRoster_116 : decode cX6_growRoster 116 = .ok (.getfield 130, 3) := by decide +kernel
theorem dX6_growRoster_119 : decode cX6_growRoster 119 = .ok (.invokevirtual 142, 3) := by decide +kernel
theorem dX6_growRoster_122 : decode cX6_growRoster 122 = .ok (.ifCond .ne 7, 3) := by decide +kernel
theorem dX6_growRoster_125 : decode cX6_growRoster 125 = .ok (.iconst 1, 1) := by decide +kernel
theorem dX6_growRoster_126 : decode cX6_growRoster 126 = .ok (.goto 4, 3) := by decide +kernel
theorem dX6_growRoster_129 : decode cX6_growRoster 129 = .ok (.iconst 0, 1) := by decide +kernel
theorem dX6_growRoster_130 : decode cX6_growRoster 130 = .ok (.istore 10, 2) := by decide +kernel
theorem dX6_growRoster_132 : decode cX6_growRoster 132 = .ok (.aload_n 0, 1) := by decide +kernel
theorem dX6_growRoster_133 : decode cX6_growRoster 133 = .ok (.getfield 34, 3) := by decide +kernel
theorem dX6_growRoster_136 : decode cX6_growRoster 136 = .ok (.getfield 107, 3) := by decide +kernel
theorem dX6_growRoster_139 : decode cX6_growRoster 139 = .ok (.iload_n 1, 1) := by decide +kernel
theorem dX6_growRoster_140 : decode cX6_growRoster 140 = .ok (.iadd, 1) := by decide +kernel
theorem dX6_growRoster_141 : decode cX6_growRoster 141 = .ok (.istore 11, 2) := by decide +kernel
theorem dX6_growRoster_143 : decode cX6_growRoster 143 = .ok (.iload 10, 2) := by decide +kernel
theorem dX6_growRoster_145 : decode cX6_growRoster 145 = .ok (.ifCond .eq 39, 3) := by decide +kernel
theorem dX6_growRoster_148 : decode cX6_growRoster 148 = .ok (.aload_n 0, 1) := by decide +kernel
theorem dX6_growRoster_149 : decode cX6_growRoster 149 = .ok (.getfield 18, 3) := by decide +kernel
theorem dX6_growRoster_152 : decode cX6_growRoster 152 = .ok (.iload 5, 2) := by decide +kernel
theorem dX6_growRoster_154 : decode cX6_growRoster 154 = .ok (.aload_n 0, 1) := by decide +kernel
theorem dX6_growRoster_155 : decode cX6_growRoster 155 = .ok (.getfield 130, 3) := by decide +kernel
theorem dX6_growRoster_158 : decode cX6_growRoster 158 = .ok (.iload 7, 2) := by decide +kernel
theorem dX6_growRoster_160 : decode cX6_growRoster 160 = .ok (.aload_n 0, 1) := by decide +kernel
theorem dX6_growRoster_161 : decode cX6_growRoster 161 = .ok (.getfield 34, 3) := by decide +kernel
theorem dX6_growRoster_164 : decode cX6_growRoster 164 = .ok (.getfield 83, 3) := by decide +kernel
theorem dX6_growRoster_167 : decode cX6_growRoster 167 = .ok (.iload 8, 2) := by decide +kernel
theorem dX6_growRoster_169 : decode cX6_growRoster 169 = .ok (.invokestatic 79, 3) := by decide +kernel
theorem dX6_growRoster_172 : decode cX6_growRoster 172 = .ok (.iload 6, 2) := by decide +kernel
theorem dX6_growRoster_174 : decode cX6_growRoster 174 = .ok (.iload 11, 2) := by decide +kernel
theorem dX6_growRoster_176 : decode cX6_growRoster 176 = .ok (.iload 9, 2) := by decide +kernel
theorem dX6_growRoster_178 : decode cX6_growRoster 178 = .ok (.invokevirtual 146, 3) := by decide +kernel
theorem dX6_growRoster_181 : decode cX6_growRoster 181 = .ok (.goto 5, 3) := by decide +kernel
theorem dX6_growRoster_184 : decode cX6_growRoster 184 = .ok (.iload 5, 2) := by decide +kernel
theorem dX6_growRoster_186 : decode cX6_growRoster 186 = .ok (.istore 12, 2) := by decide +kernel
theorem dX6_growRoster_188 : decode cX6_growRoster 188 = .ok (.iconst 0, 1) := by decide +kernel
theorem dX6_growRoster_189 : decode cX6_growRoster 189 = .ok (.iload 10, 2) := by decide +kernel
theorem dX6_growRoster_191 : decode cX6_growRoster 191 = .ok (.ifCond .eq 11, 3) := by decide +kernel
theorem dX6_growRoster_194 : decode cX6_growRoster 194 = .ok (.iload 6, 2) := by decide +kernel
theorem dX6_growRoster_196 : decode cX6_growRoster 196 = .ok (.invokestatic 123, 3) := by decide +kernel
theorem dX6_growRoster_199 : decode cX6_growRoster 199 = .ok (.goto 5, 3) := by decide +kernel
theorem dX6_growRoster_202 : decode cX6_growRoster 202 = .ok (.iload 6, 2) := by decide +kernel
theorem dX6_growRoster_204 : decode cX6_growRoster 204 = .ok (.iconst 1, 1) := by decide +kernel
theorem dX6_growRoster_205 : decode cX6_growRoster 205 = .ok (.isub, 1) := by decide +kernel
theorem dX6_growRoster_206 : decode cX6_growRoster 206 = .ok (.invokestatic 150, 3) := by decide +kernel
theorem dX6_growRoster_209 : decode cX6_growRoster 209 = .ok (.istore 13, 2) := by decide +kernel
theorem dX6_growRoster_211 : decode cX6_growRoster 211 = .ok (.iload 12, 2) := by decide +kernel
theorem dX6_growRoster_213 : decode cX6_growRoster 213 = .ok (.aload_n 0, 1) := by decide +kernel
theorem dX6_growRoster_214 : decode cX6_growRoster 214 = .ok (.getfield 28, 3) := by decide +kernel
theorem dX6_growRoster_217 : decode cX6_growRoster 217 = .ok (.invokevirtual 104, 3) := by decide +kernel
theorem dX6_growRoster_220 : decode cX6_growRoster 220 = .ok (.if_icmp .lt 15, 3) := by decide +kernel
theorem dX6_growRoster_223 : decode cX6_growRoster 223 = .ok (.aload_n 0, 1) := by decide +kernel
theorem dX6_growRoster_224 : decode cX6_growRoster 224 = .ok (.getfield 28, 3) := by decide +kernel
theorem dX6_growRoster_227 : decode cX6_growRoster 227 = .ok (.iload 8, 2) := by decide +kernel
theorem dX6_growRoster_229 : decode cX6_growRoster 229 = .ok (.invokevirtual 153, 3) := by decide +kernel
theorem dX6_growRoster_232 : decode cX6_growRoster 232 = .ok (.goto 4, 3) := by decide +kernel
theorem dX6_growRoster_235 : decode cX6_growRoster 235 = .ok (.iconst 0, 1) := by decide +kernel
theorem dX6_growRoster_236 : decode cX6_growRoster 236 = .ok (.istore 14, 2) := by decide +kernel
theorem dX6_growRoster_238 : decode cX6_growRoster 238 = .ok (.aload_n 0, 1) := by decide +kernel
theorem dX6_growRoster_239 : decode cX6_growRoster 239 = .ok (.iload_n 1, 1) := by decide +kernel
theorem dX6_growRoster_240 : decode cX6_growRoster 240 = .ok (.iconst 1, 1) := by decide +kernel
theorem dX6_growRoster_241 : decode cX6_growRoster 241 = .ok (.iadd, 1) := by decide +kernel
theorem dX6_growRoster_242 : decode cX6_growRoster 242 = .ok (.iload_n 2, 1) := by decide +kernel
theorem dX6_growRoster_243 : decode cX6_growRoster 243 = .ok (.iconst 1, 1) := by decide +kernel
theorem dX6_growRoster_244 : decode cX6_growRoster 244 = .ok (.iload 8, 2) := by decide +kernel
theorem dX6_growRoster_246 : decode cX6_growRoster 246 = .ok (.ishl, 1) := by decide +kernel
theorem dX6_growRoster_247 : decode cX6_growRoster 247 = .ok (.ior, 1) := by decide +kernel
theorem dX6_growRoster_248 : decode cX6_growRoster 248 = .ok (.iload_n 3, 1) := by decide +kernel
theorem dX6_growRoster_249 : decode cX6_growRoster 249 = .ok (.bipush 10, 2) := by decide +kernel
theorem dX6_growRoster_251 : decode cX6_growRoster 251 = .ok (.imul, 1) := by decide +kernel
theorem dX6_growRoster_252 : decode cX6_growRoster 252 = .ok (.iload 8, 2) := by decide +kernel
theorem dX6_growRoster_254 : decode cX6_growRoster 254 = .ok (.iadd, 1) := by decide +kernel
theorem dX6_growRoster_255 : decode cX6_growRoster 255 = .ok (.iload 4, 2) := by decide +kernel
theorem dX6_growRoster_257 : decode cX6_growRoster 257 = .ok (.iload 14, 2) := by decide +kernel
theorem dX6_growRoster_259 : decode cX6_growRoster 259 = .ok (.iadd, 1) := by decide +kernel
theorem dX6_growRoster_260 : decode cX6_growRoster 260 = .ok (.aload_n 0, 1) := by decide +kernel
theorem dX6_growRoster_261 : decode cX6_growRoster 261 = .ok (.getfield 18, 3) := by decide +kernel
theorem dX6_growRoster_264 : decode cX6_growRoster 264 = .ok (.iload 12, 2) := by decide +kernel
theorem dX6_growRoster_266 : decode cX6_growRoster 266 = .ok (.invokevirtual 156, 3) := by decide +kernel
theorem dX6_growRoster_269 : decode cX6_growRoster 269 = .ok (.iload 13, 2) := by decide +kernel
theorem dX6_growRoster_271 : decode cX6_growRoster 271 = .ok (.invokevirtual 133, 3) := by decide +kernel
theorem dX6_growRoster_274 : decode cX6_growRoster 274 = .ok (.iinc 8 1, 3) := by decide +kernel
theorem dX6_growRoster_277 : decode cX6_growRoster 277 = .ok (.goto (-229), 3) := by decide +kernel
theorem dX6_growRoster_280 : decode cX6_growRoster 280 = .ok (.return_, 1) := by decide +kernel
def X6_growRoster_274 (n : Nat) (rf : Int32 → Int32 → Int32 → Int32 → Int32 → Int32 → Mm → Option (Unit × Mm)) (K48 : Int32 → Int32 → Int32 → Int32 → Int32 → Int32 → Int32 → Int32 → Mm → Option (Unit × Mm)) (x1 : Int32) (x2 : Int32) (x3 : Int32) (x4 : Int32) (x5 : Int32) (x6 : Int32) (x7 : Int32) (x8 : Int32) (h : Mm) : Option (Unit × Mm) := (K48 x1 x2 x3 x4 x5 x6 x7 (x8 + (1)) h)
set_option maxRecDepth 100000 in
set_option maxHeartbeats 4000000 in
theorem v_X6_growRoster_274 {X : WX} {G : GX} {o : Mm} {n : Nat} {rf : Int32 → Int32 → Int32 → Int32 → Int32 → Int32 → Mm → Option (Unit × Mm)} {dr : Nat} (hdr : 6 ≤ dr) (hrf : ∀ (x1 : Int32) (x2 : Int32) (x3 : Int32) (x4 : Int32) (x5 : Int32) (x6 : Int32)  (h : Mm) (r : Unit) (h2 : Mm), rf x1 x2 x3 x4 x5 x6 h = some (r, h2) → Sat X yX6_growRoster cX6_growRoster 15 (none) dr [.ref (xa X 246), .int x1, .int x2, .int x3, .int x4, .int x5, .int x6] true o h none h2) {DD : Nat} (hDD : dr + 1 ≤ DD) {K48 : Int32 → Int32 → Int32 → Int32 → Int32 → Int32 → Int32 → Int32 → Mm → Option (Unit × Mm)} {rv : Unit} {hz : Mm} (hK48 : ∀ (x1 : Int32) (x2 : Int32) (x3 : Int32) (x4 : Int32) (x5 : Int32) (x6 : Int32) (x7 : Int32) (x8 : Int32) (h : Mm), K48 x1 x2 x3 x4 x5 x6 x7 x8 h = some (rv, hz) → V X G RX6 cX6_growRoster 15 (none) DD 0 0 (QR X G true o none hz) true o 48 [(0, .ref (xa X 246)), (1, .int x1), (2, .int x2), (3, .int x3), (4, .int x4), (5, .int x5), (6, .int x6), (7, .int x7), (8, .int x8)] [] h) {x1 : Int32} {x2 : Int32} {x3 : Int32} {x4 : Int32} {x5 : Int32} {x6 : Int32} {x7 : Int32} {x8 : Int32} {h : Mm} (hF : X6_growRoster_274 n rf K48 x1 x2 x3 x4 x5 x6 x7 x8 h = some (rv, hz)) : V X G RX6 cX6_growRoster 15 (none) DD 0 0 (QR X G true o none hz) true o 274 [(0, .ref (xa X 246)), (1, .int x1), (2, .int x2), (3, .int x3), (4, .int x4), (5, .int x5), (6, .int x6), (7, .int x7), (8, .int x8)] [] h := by
  unfold X6_growRoster_274 at hF
  refine V.iinc (v := (x8 + (1))) 8 [(8, _), (0, _), (1, _), (2, _), (3, _), (4, _), (5, _), (6, _), (7, _)] dX6_growRoster_274 rfl rfl (by decide) rfl ?_
  refine V.goto (tgt := 48) dX6_growRoster_277 rfl ?_
  exact V.sub [1, 2, 3, 4, 5, 6, 7, 8, 0] rfl (hK48 _ _ _ _ _ _ _ _ _ hF)
def X6_growRoster_236 (n : Nat) (rf : Int32 → Int32 → Int32 → Int32 → Int32 → Int32 → Mm → Option (Unit × Mm)) (K48 : Int32 → Int32 → Int32 → Int32 → Int32 → Int32 → Int32 → Int32 → Mm → Option (Unit × Mm)) (x1 : Int32) (x2 : Int32) (x3 : Int32) (x4 : Int32) (x5 : Int32) (x6 : Int32) (x7 : Int32) (x8 : Int32) (x12 : Int32) (x13 : Int32) (s0 : Int32) (h : Mm) : Option (Unit × Mm) := (bp (X9_calmBehindNight x12 h) (fun r128 => (bd (rf (x1 + (1 : Int32)) (x2 ||| ((1 : Int32) <<< (x8 &&& 31))) ((x3 * (10 : Int32)) + x8) (x4 + s0) r128 x13 h) (fun _ h132 => (X6_growRoster_274 n rf K48 x1 x2 x3 x4 x5 x6 x7 x8 h132)))))
set_option maxRecDepth 100000 in
set_option maxHeartbeats 4000000 in
theorem v_X6_growRoster_236 {X : WX} {G : GX} {o : Mm} {n : Nat} {rf : Int32 → Int32 → Int32 → Int32 → Int32 → Int32 → Mm → Option (Unit × Mm)} {dr : Nat} (hdr : 6 ≤ dr) (hrf : ∀ (x1 : Int32) (x2 : Int32) (x3 : Int32) (x4 : Int32) (x5 : Int32) (x6 : Int32)  (h : Mm) (r : Unit) (h2 : Mm), rf x1 x2 x3 x4 x5 x6 h = some (r, h2) → Sat X yX6_growRoster cX6_growRoster 15 (none) dr [.ref (xa X 246), .int x1, .int x2, .int x3, .int x4, .int x5, .int x6] true o h none h2) {DD : Nat} (hDD : dr + 1 ≤ DD) {K48 : Int32 → Int32 → Int32 → Int32 → Int32 → Int32 → Int32 → Int32 → Mm → Option (Unit × Mm)} {rv : Unit} {hz : Mm} (hK48 : ∀ (x1 : Int32) (x2 : Int32) (x3 : Int32) (x4 : Int32) (x5 : Int32) (x6 : Int32) (x7 : Int32) (x8 : Int32) (h : Mm), K48 x1 x2 x3 x4 x5 x6 x7 x8 h = some (rv, hz) → V X G RX6 cX6_growRoster 15 (none) DD 0 0 (QR X G true o none hz) true o 48 [(0, .ref (xa X 246)), (1, .int x1), (2, .int x2), (3, .int x3), (4, .int x4), (5, .int x5), (6, .int x6), (7, .int x7), (8, .int x8)] [] h) {x1 : Int32} {x2 : Int32} {x3 : Int32} {x4 : Int32} {x5 : Int32} {x6 : Int32} {x7 : Int32} {x8 : Int32} {x12 : Int32} {x13 : Int32} {s0 : Int32} {h : Mm} (hF : X6_growRoster_236 n rf K48 x1 x2 x3 x4 x5 x6 x7 x8 x12 x13 s0 h = some (rv, hz)) : V X G RX6 cX6_growRoster 15 (none) DD 0 0 (QR X G true o none hz) true o 236 [(0, .ref (xa X 246)), (1, .int x1), (2, .int x2), (3, .int x3), (4, .int x4), (5, .int x5), (6, .int x6), (7, .int x7), (8, .int x8), (12, .int x12), (13, .int x13)] [.int s0] h := by
  unfold X6_growRoster_236 at hF
  refine V.istore [(14, _), (0, _), (1, _), (2, _), (3, _), (4, _), (5, _), (6, _), (7, _), (8, _), (12, _), (13, _)] dX6_growRoster_236 (by decide) rfl ?_
  refine V.aload_n 1 dX6_growRoster_238 rfl rfl ?_
  refine V.iload_n 2 dX6_growRoster_239 rfl rfl ?_
  refine V.iconst (v := 1) dX6_growRoster_240 rfl ?_
  refine V.iadd dX6_growRoster_241 ?_
  refine V.iload_n 3 dX6_growRoster_242 rfl rfl ?_
  refine V.iconst (v := 1) dX6_growRoster_243 rfl ?_
  refine V.iload 9 dX6_growRoster_244 rfl ?_
  refine V.ishl dX6_growRoster_246 ?_
  refine V.ior dX6_growRoster_247 ?_
  refine V.iload_n 4 dX6_growRoster_248 rfl rfl ?_
  refine V.bipush (v := 10) dX6_growRoster_249 (by decide) ?_
  refine V.imul dX6_growRoster_251 ?_
  refine V.iload 9 dX6_growRoster_252 rfl ?_
  refine V.iadd dX6_growRoster_254 ?_
  refine V.iload 5 dX6_growRoster_255 rfl ?_
  refine V.iload 0 dX6_growRoster_257 rfl ?_
  refine V.iadd dX6_growRoster_259 ?_
  refine V.aload_n 1 dX6_growRoster_260 rfl rfl ?_
  refine V.getR (v := 26) fl_X6_18 sh_246 rfl fx_246_0 (by decide) dX6_growRoster_261 ?_
  refine V.iload 10 dX6_growRoster_264 rfl ?_
  obtain ⟨r128, hc129, hF⟩ := bp_s hF
  refine V.callVi mf_X9_calmBehindNight ml_X6_156 sh_26 (s_X9_calmBehindNight hc129) (by omega) rfl rfl (Nat.le_of_ble_eq_true rfl) dX6_growRoster_266 ?_
  refine V.iload 11 dX6_growRoster_269 rfl ?_
  obtain ⟨r130, h132, hc131, hF⟩ := bd_s hF
  refine V.callVv mf_X6_growRoster ml_X6_133 sh_246 (hrf _ _ _ _ _ _ _ _ _ hc131) (by omega) rfl rfl (Nat.le_of_ble_eq_true rfl) dX6_growRoster_271 ?_
  exact V.sub [1, 2, 3, 4, 5, 6, 7, 8, 9] rfl (v_X6_growRoster_274 hdr hrf hDD hK48 hF)
def X6_growRoster_204 (n : Nat) (rf : Int32 → Int32 → Int32 → Int32 → Int32 → Int32 → Mm → Option (Unit × Mm)) (K48 : Int32 → Int32 → Int32 → Int32 → Int32 → Int32 → Int32 → Int32 → Mm → Option (Unit × Mm)) (x1 : Int32) (x2 : Int32) (x3 : Int32) (x4 : Int32) (x5 : Int32) (x6 : Int32) (x7 : Int32) (x8 : Int32) (x12 : Int32) (s0 : Bool) (s1 : Int32) (h : Mm) : Option (Unit × Mm) := (bp (J9_max_7cf53 (b2i s0) (s1 - (1 : Int32)) h) (fun r133 => (bp (X1_enough 13 h) (fun r135 => (if x12 < r135 then (X6_growRoster_236 n rf K48 x1 x2 x3 x4 x5 x6 x7 x8 x12 r133 (0 : Int32) h) else (bp (X1_childrenOf 13 x8 h) (fun r137 => (X6_growRoster_236 n rf K48 x1 x2 x3 x4 x5 x6 x7 x8 x12 r133 r137 h))))))))
set_option maxRecDepth 100000 in
set_option maxHeartbeats 4000000 in
theorem v_X6_growRoster_204 {X : WX} {G : GX} {o : Mm} {n : Nat} {rf : Int32 → Int32 → Int32 → Int32 → Int32 → Int32 → Mm → Option (Unit × Mm)} {dr : Nat} (hdr : 6 ≤ dr) (hrf : ∀ (x1 : Int32) (x2 : Int32) (x3 : Int32) (x4 : Int32) (x5 : Int32) (x6 : Int32)  (h : Mm) (r : Unit) (h2 : Mm), rf x1 x2 x3 x4 x5 x6 h = some (r, h2) → Sat X yX6_growRoster cX6_growRoster 15 (none) dr [.ref (xa X 246), .int x1, .int x2, .int x3, .int x4, .int x5, .int x6] true o h none h2) {DD : Nat} (hDD : dr + 1 ≤ DD) {K48 : Int32 → Int32 → Int32 → Int32 → Int32 → Int32 → Int32 → Int32 → Mm → Option (Unit × Mm)} {rv : Unit} {hz : Mm} (hK48 : ∀ (x1 : Int32) (x2 : Int32) (x3 : Int32) (x4 : Int32) (x5 : Int32) (x6 : Int32) (x7 : Int32) (x8 : Int32) (h : Mm), K48 x1 x2 x3 x4 x5 x6 x7 x8 h = some (rv, hz) → V X G RX6 cX6_growRoster 15 (none) DD 0 0 (QR X G true o none hz) true o 48 [(0, .ref (xa X 246)), (1, .int x1), (2, .int x2), (3, .int x3), (4, .int x4), (5, .int x5), (6, .int x6), (7, .int x7), (8, .int x8)] [] h) {x1 : Int32} {x2 : Int32} {x3 : Int32} {x4 : Int32} {x5 : Int32} {x6 : Int32} {x7 : Int32} {x8 : Int32} {x12 : Int32} {s0 : Bool} {s1 : Int32} {h : Mm} (hF : X6_growRoster_204 n rf K48 x1 x2 x3 x4 x5 x6 x7 x8 x12 s0 s1 h = some (rv, hz)) : V X G RX6 cX6_growRoster 15 (none) DD 0 0 (QR X G true o none hz) true o 204 [(0, .ref (xa X 246)), (1, .int x1), (2, .int x2), (3, .int x3), (4, .int x4), (5, .int x5), (6, .int x6), (7, .int x7), (8, .int x8), (12, .int x12)] [.int s1, .int (b2i s0)] h := by
  unfold X6_growRoster_204 at hF
  refine V.iconst (v := 1) dX6_growRoster_204 rfl ?_
  refine V.isub dX6_growRoster_205 ?_
  obtain ⟨r133, hc134, hF⟩ := bp_s hF
  refine V.callSi mf_J9_max_7cf53 ml_X6_150 (s_J9_max_7cf53 hc134) (by omega) rfl rfl (Nat.le_of_ble_eq_true rfl) dX6_growRoster_206 ?_
  refine V.istore [(13, _), (0, _), (1, _), (2, _), (3, _), (4, _), (5, _), (6, _), (7, _), (8, _), (12, _)] dX6_growRoster_209 (by decide) rfl ?_
  refine V.iload 10 dX6_growRoster_211 rfl ?_
  refine V.aload_n 1 dX6_growRoster_213 rfl rfl ?_
  refine V.getR (v := 13) fl_X6_28 sh_246 rfl fx_246_1 (by decide) dX6_growRoster_214 ?_
  obtain ⟨r135, hc136, hF⟩ := bp_s hF
  refine V.callVi mf_X1_enough ml_X6_104 sh_13 (s_X1_enough (Or.inr rfl) hc136) (by omega) rfl rfl (Nat.le_of_ble_eq_true rfl) dX6_growRoster_217 ?_
  refine V.icmp_lt (tgt := 235) dX6_growRoster_220 rfl (fun c => ?_) (fun c => ?_)
  · replace hF := ip c hF
    refine V.iconst (v := 0) dX6_growRoster_235 rfl ?_
    exact V.sub [1, 2, 3, 4, 5, 6, 7, 8, 9, 10, 0] rfl (v_X6_growRoster_236 hdr hrf hDD hK48 hF)
  · replace hF := iq c hF
    refine V.aload_n 1 dX6_growRoster_223 rfl rfl ?_
    refine V.getR (v := 13) fl_X6_28 sh_246 rfl fx_246_1 (by decide) dX6_growRoster_224 ?_
    refine V.iload 9 dX6_growRoster_227 rfl ?_
    obtain ⟨r137, hc138, hF⟩ := bp_s hF
    refine V.callVi mf_X1_childrenOf ml_X6_153 sh_13 (s_X1_childrenOf (Or.inr rfl) hc138) (by omega) rfl rfl (Nat.le_of_ble_eq_true rfl) dX6_growRoster_229 ?_
    refine V.goto (tgt := 236) dX6_growRoster_232 rfl ?_
    exact V.sub [1, 2, 3, 4, 5, 6, 7, 8, 9, 10, 0] rfl (v_X6_growRoster_236 hdr hrf hDD hK48 hF)
def X6_growRoster_186 (n : Nat) (rf : Int32 → Int32 → Int32 → Int32 → Int32 → Int32 → Mm → Option (Unit × Mm)) (K48 : Int32 → Int32 → Int32 → Int32 → Int32 → Int32 → Int32 → Int32 → Mm → Option (Unit × Mm)) (x1 : Int32) (x2 : Int32) (x3 : Int32) (x4 : Int32) (x5 : Int32) (x6 : Int32) (x7 : Int32) (x8 : Int32) (x10 : Bool) (s0 : Int32) (h : Mm) : Option (Unit × Mm) := (if x10 = true then (bp (X9_moreBored x6 h) (fun r139 => (X6_growRoster_204 n rf K48 x1 x2 x3 x4 x5 x6 x7 x8 s0 false r139 h))) else (X6_growRoster_204 n rf K48 x1 x2 x3 x4 x5 x6 x7 x8 s0 false x6 h))
set_option maxRecDepth 100000 in
set_option maxHeartbeats 4000000 in
theorem v_X6_growRoster_186 {X : WX} {G : GX} {o : Mm} {n : Nat} {rf : Int32 → Int32 → Int32 → Int32 → Int32 → Int32 → Mm → Option (Unit × Mm)} {dr : Nat} (hdr : 6 ≤ dr) (hrf : ∀ (x1 : Int32) (x2 : Int32) (x3 : Int32) (x4 : Int32) (x5 : Int32) (x6 : Int32)  (h : Mm) (r : Unit) (h2 : Mm), rf x1 x2 x3 x4 x5 x6 h = some (r, h2) → Sat X yX6_growRoster cX6_growRoster 15 (none) dr [.ref (xa X 246), .int x1, .int x2, .int x3, .int x4, .int x5, .int x6] true o h none h2) {DD : Nat} (hDD : dr + 1 ≤ DD) {K48 : Int32 → Int32 → Int32 → Int32 → Int32 → Int32 → Int32 → Int32 → Mm → Option (Unit × Mm)} {rv : Unit} {hz : Mm} (hK48 : ∀ (x1 : Int32) (x2 : Int32) (x3 : Int32) (x4 : Int32) (x5 : Int32) (x6 : Int32) (x7 : Int32) (x8 : Int32) (h : Mm), K48 x1 x2 x3 x4 x5 x6 x7 x8 h = some (rv, hz) → V X G RX6 cX6_growRoster 15 (none) DD 0 0 (QR X G true o none hz) true o 48 [(0, .ref (xa X 246)), (1, .int x1), (2, .int x2), (3, .int x3), (4, .int x4), (5, .int x5), (6, .int x6), (7, .int x7), (8, .int x8)] [] h) {x1 : Int32} {x2 : Int32} {x3 : Int32} {x4 : Int32} {x5 : Int32} {x6 : Int32} {x7 : Int32} {x8 : Int32} {x10 : Bool} {s0 : Int32} {h : Mm} (hF : X6_growRoster_186 n rf K48 x1 x2 x3 x4 x5 x6 x7 x8 x10 s0 h = some (rv, hz)) : V X G RX6 cX6_growRoster 15 (none) DD 0 0 (QR X G true o none hz) true o 186 [(0, .ref (xa X 246)), (1, .int x1), (2, .int x2), (3, .int x3), (4, .int x4), (5, .int x5), (6, .int x6), (7, .int x7), (8, .int x8), (10, .int (b2i x10))] [.int s0] h := by
  unfold X6_growRoster_186 at hF
  refine V.istore [(12, _), (0, _), (1, _), (2, _), (3, _), (4, _), (5, _), (6, _), (7, _), (8, _), (10, _)] dX6_growRoster_186 (by decide) rfl ?_
  refine V.iconst (v := 0) dX6_growRoster_188 rfl ?_
  refine V.iload 10 dX6_growRoster_189 rfl ?_
  refine V.ifz_eq (tgt := 202) dX6_growRoster_191 rfl (fun c => ?_) (fun c => ?_)
  · replace hF := iq c hF
    refine V.iload 7 dX6_growRoster_202 rfl ?_
    exact V.sub [1, 2, 3, 4, 5, 6, 7, 8, 9, 0] rfl (v_X6_growRoster_204 hdr hrf hDD hK48 hF)
  · replace hF := ip c hF
    refine V.iload 7 dX6_growRoster_194 rfl ?_
    obtain ⟨r139, hc140, hF⟩ := bp_s hF
    refine V.callSi mf_X9_moreBored ml_X6_123 (s_X9_moreBored hc140) (by omega) rfl rfl (Nat.le_of_ble_eq_true rfl) dX6_growRoster_196 ?_
    refine V.goto (tgt := 204) dX6_growRoster_199 rfl ?_
    exact V.sub [1, 2, 3, 4, 5, 6, 7, 8, 9, 0] rfl (v_X6_growRoster_204 hdr hrf hDD hK48 hF)
def X6_growRoster_130 (n : Nat) (rf : Int32 → Int32 → Int32 → Int32 → Int32 → Int32 → Mm → Option (Unit × Mm)) (K48 : Int32 → Int32 → Int32 → Int32 → Int32 → Int32 → Int32 → Int32 → Mm → Option (Unit × Mm)) (x1 : Int32) (x2 : Int32) (x3 : Int32) (x4 : Int32) (x5 : Int32) (x6 : Int32) (x7 : Int32) (x8 : Int32) (x9 : Int32) (s0 : Bool) (h : Mm) : Option (Unit × Mm) := (if s0 = true then (bp (X11_at 30 x8 h) (fun r141 => (bd (X9_calmBehind n x5 (h.1 246 8) x7 r141 x6 ((h.1 27 6) + x1) x9 h) (fun r143 h145 => (X6_growRoster_186 n rf K48 x1 x2 x3 x4 x5 x6 x7 x8 s0 r143 h145))))) else (X6_growRoster_186 n rf K48 x1 x2 x3 x4 x5 x6 x7 x8 s0 x5 h))
set_option maxRecDepth 100000 in
set_option maxHeartbeats 4000000 in
theorem v_X6_growRoster_130 {X : WX} {G : GX} {o : Mm} {n : Nat} {rf : Int32 → Int32 → Int32 → Int32 → Int32 → Int32 → Mm → Option (Unit × Mm)} {dr : Nat} (hdr : 6 ≤ dr) (hrf : ∀ (x1 : Int32) (x2 : Int32) (x3 : Int32) (x4 : Int32) (x5 : Int32) (x6 : Int32)  (h : Mm) (r : Unit) (h2 : Mm), rf x1 x2 x3 x4 x5 x6 h = some (r, h2) → Sat X yX6_growRoster cX6_growRoster 15 (none) dr [.ref (xa X 246), .int x1, .int x2, .int x3, .int x4, .int x5, .int x6] true o h none h2) {DD : Nat} (hDD : dr + 1 ≤ DD) {K48 : Int32 → Int32 → Int32 → Int32 → Int32 → Int32 → Int32 → Int32 → Mm → Option (Unit × Mm)} {rv : Unit} {hz : Mm} (hK48 : ∀ (x1 : Int32) (x2 : Int32) (x3 : Int32) (x4 : Int32) (x5 : Int32) (x6 : Int32) (x7 : Int32) (x8 : Int32) (h : Mm), K48 x1 x2 x3 x4 x5 x6 x7 x8 h = some (rv, hz) → V X G RX6 cX6_growRoster 15 (none) DD 0 0 (QR X G true o none hz) true o 48 [(0, .ref (xa X 246)), (1, .int x1), (2, .int x2), (3, .int x3), (4, .int x4), (5, .int x5), (6, .int x6), (7, .int x7), (8, .int x8)] [] h) {x1 : Int32} {x2 : Int32} {x3 : Int32} {x4 : Int32} {x5 : Int32} {x6 : Int32} {x7 : Int32} {x8 : Int32} {x9 : Int32} {s0 : Bool} {h : Mm} (hF : X6_growRoster_130 n rf K48 x1 x2 x3 x4 x5 x6 x7 x8 x9 s0 h = some (rv, hz)) : V X G RX6 cX6_growRoster 15 (none) DD 0 0 (QR X G true o none hz) true o 130 [(0, .ref (xa X 246)), (1, .int x1), (2, .int x2), (3, .int x3), (4, .int x4), (5, .int x5), (6, .int x6), (7, .int x7), (8, .int x8), (9, .int x9)] [.int (b2i s0)] h := by
  unfold X6_growRoster_130 at hF
  refine V.istore [(10, _), (0, _), (1, _), (2, _), (3, _), (4, _), (5, _), (6, _), (7, _), (8, _), (9, _)] dX6_growRoster_130 (by decide) rfl ?_
  refine V.aload_n 1 dX6_growRoster_132 rfl rfl ?_
  refine V.getR (v := 27) fl_X6_34 sh_246 rfl fx_246_3 (by decide) dX6_growRoster_133 ?_
  refine V.getI fl_X6_107 sh_27 rfl km_27 dX6_growRoster_136 ?_
  refine V.iload_n 2 dX6_growRoster_139 rfl rfl ?_
  refine V.iadd dX6_growRoster_140 ?_
  refine V.istore [(11, _), (10, _), (0, _), (1, _), (2, _), (3, _), (4, _), (5, _), (6, _), (7, _), (8, _), (9, _)] dX6_growRoster_141 (by decide) rfl ?_
  refine V.iload 1 dX6_growRoster_143 rfl ?_
  refine V.ifz_eq (tgt := 184) dX6_growRoster_145 rfl (fun c => ?_) (fun c => ?_)
  · replace hF := iq c hF
    refine V.iload 7 dX6_growRoster_184 rfl ?_
    exact V.sub [2, 3, 4, 5, 6, 7, 8, 9, 10, 1] rfl (v_X6_growRoster_186 hdr hrf hDD hK48 hF)
  · replace hF := ip c hF
    refine V.aload_n 2 dX6_growRoster_148 rfl rfl ?_
    refine V.getR (v := 26) fl_X6_18 sh_246 rfl fx_246_0 (by decide) dX6_growRoster_149 ?_
    refine V.iload 7 dX6_growRoster_152 rfl ?_
    refine V.aload_n 2 dX6_growRoster_154 rfl rfl ?_
    refine V.getI fl_X6_130 sh_246 rfl km_246 dX6_growRoster_155 ?_
    refine V.iload 9 dX6_growRoster_158 rfl ?_
    refine V.aload_n 2 dX6_growRoster_160 rfl rfl ?_
    refine V.getR (v := 27) fl_X6_34 sh_246 rfl fx_246_3 (by decide) dX6_growRoster_161 ?_
    refine V.getR (v := 30) fl_X6_83 sh_27 rfl fx_27_2 (by decide) dX6_growRoster_164 ?_
    refine V.iload 10 dX6_growRoster_167 rfl ?_
    obtain ⟨r141, hc142, hF⟩ := bp_s hF
    refine V.callNi mf_X11_at ml_X6_79 (s_X11_at (Or.inl io_30) hc142) (by omega) rfl rfl (Nat.le_of_ble_eq_true rfl) dX6_growRoster_169 ?_
    refine V.iload 8 dX6_growRoster_172 rfl ?_
    refine V.iload 0 dX6_growRoster_174 rfl ?_
    refine V.iload 11 dX6_growRoster_176 rfl ?_
    obtain ⟨r143, h145, hc144, hF⟩ := bd_s hF
    refine V.callVi mf_X9_calmBehind ml_X6_146 sh_26 (s_X9_calmBehind hc144) (by omega) rfl rfl (Nat.le_of_ble_eq_true rfl) dX6_growRoster_178 ?_
    refine V.goto (tgt := 186) dX6_growRoster_181 rfl ?_
    exact V.sub [2, 3, 4, 5, 6, 7, 8, 9, 10, 1] rfl (v_X6_growRoster_186 hdr hrf hDD hK48 hF)
def X6_growRoster_125 (n : Nat) (rf : Int32 → Int32 → Int32 → Int32 → Int32 → Int32 → Mm → Option (Unit × Mm)) (K48 : Int32 → Int32 → Int32 → Int32 → Int32 → Int32 → Int32 → Int32 → Mm → Option (Unit × Mm)) (x1 : Int32) (x2 : Int32) (x3 : Int32) (x4 : Int32) (x5 : Int32) (x6 : Int32) (x7 : Int32) (x8 : Int32) (x9 : Int32) (h : Mm) : Option (Unit × Mm) := (X6_growRoster_130 n rf K48 x1 x2 x3 x4 x5 x6 x7 x8 x9 true h)
set_option maxRecDepth 100000 in
set_option maxHeartbeats 4000000 in
theorem v_X6_growRoster_125 {X : WX} {G : GX} {o : Mm} {n : Nat} {rf : Int32 → Int32 → Int32 → Int32 → Int32 → Int32 → Mm → Option (Unit × Mm)} {dr : Nat} (hdr : 6 ≤ dr) (hrf : ∀ (x1 : Int32) (x2 : Int32) (x3 : Int32) (x4 : Int32) (x5 : Int32) (x6 : Int32)  (h : Mm) (r : Unit) (h2 : Mm), rf x1 x2 x3 x4 x5 x6 h = some (r, h2) → Sat X yX6_growRoster cX6_growRoster 15 (none) dr [.ref (xa X 246), .int x1, .int x2, .int x3, .int x4, .int x5, .int x6] true o h none h2) {DD : Nat} (hDD : dr + 1 ≤ DD) {K48 : Int32 → Int32 → Int32 → Int32 → Int32 → Int32 → Int32 → Int32 → Mm → Option (Unit × Mm)} {rv : Unit} {hz : Mm} (hK48 : ∀ (x1 : Int32) (x2 : Int32) (x3 : Int32) (x4 : Int32) (x5 : Int32) (x6 : Int32) (x7 : Int32) (x8 : Int32) (h : Mm), K48 x1 x2 x3 x4 x5 x6 x7 x8 h = some (rv, hz) → V X G RX6 cX6_growRoster 15 (none) DD 0 0 (QR X G true o none hz) true o 48 [(0, .ref (xa X 246)), (1, .int x1), (2, .int x2), (3, .int x3), (4, .int x4), (5, .int x5), (6, .int x6), (7, .int x7), (8, .int x8)] [] h) {x1 : Int32} {x2 : Int32} {x3 : Int32} {x4 : Int32} {x5 : Int32} {x6 : Int32} {x7 : Int32} {x8 : Int32} {x9 : Int32} {h : Mm} (hF : X6_growRoster_125 n rf K48 x1 x2 x3 x4 x5 x6 x7 x8 x9 h = some (rv, hz)) : V X G RX6 cX6_growRoster 15 (none) DD 0 0 (QR X G true o none hz) true o 125 [(0, .ref (xa X 246)), (1, .int x1), (2, .int x2), (3, .int x3), (4, .int x4), (5, .int x5), (6, .int x6), (7, .int x7), (8, .int x8), (9, .int x9)] [] h := by
  unfold X6_growRoster_125 at hF
  refine V.iconst (v := 1) dX6_growRoster_125 rfl ?_
  refine V.goto (tgt := 130) dX6_growRoster_126 rfl ?_
  exact (v_X6_growRoster_130 hdr hrf hDD hK48 hF)
def X6_growRoster_129 (n : Nat) (rf : Int32 → Int32 → Int32 → Int32 → Int32 → Int32 → Mm → Option (Unit × Mm)) (K48 : Int32 → Int32 → Int32 → Int32 → Int32 → Int32 → Int32 → Int32 → Mm → Option (Unit × Mm)) (x1 : Int32) (x2 : Int32) (x3 : Int32) (x4 : Int32) (x5 : Int32) (x6 : Int32) (x7 : Int32) (x8 : Int32) (x9 : Int32) (h : Mm) : Option (Unit × Mm) := (X6_growRoster_130 n rf K48 x1 x2 x3 x4 x5 x6 x7 x8 x9 false h)
set_option maxRecDepth 100000 in
set_option maxHeartbeats 4000000 in
theorem v_X6_growRoster_129 {X : WX} {G : GX} {o : Mm} {n : Nat} {rf : Int32 → Int32 → Int32 → Int32 → Int32 → Int32 → Mm → Option (Unit × Mm)} {dr : Nat} (hdr : 6 ≤ dr) (hrf : ∀ (x1 : Int32) (x2 : Int32) (x3 : Int32) (x4 : Int32) (x5 : Int32) (x6 : Int32)  (h : Mm) (r : Unit) (h2 : Mm), rf x1 x2 x3 x4 x5 x6 h = some (r, h2) → Sat X yX6_growRoster cX6_growRoster 15 (none) dr [.ref (xa X 246), .int x1, .int x2, .int x3, .int x4, .int x5, .int x6] true o h none h2) {DD : Nat} (hDD : dr + 1 ≤ DD) {K48 : Int32 → Int32 → Int32 → Int32 → Int32 → Int32 → Int32 → Int32 → Mm → Option (Unit × Mm)} {rv : Unit} {hz : Mm} (hK48 : ∀ (x1 : Int32) (x2 : Int32) (x3 : Int32) (x4 : Int32) (x5 : Int32) (x6 : Int32) (x7 : Int32) (x8 : Int32) (h : Mm), K48 x1 x2 x3 x4 x5 x6 x7 x8 h = some (rv, hz) → V X G RX6 cX6_growRoster 15 (none) DD 0 0 (QR X G true o none hz) true o 48 [(0, .ref (xa X 246)), (1, .int x1), (2, .int x2), (3, .int x3), (4, .int x4), (5, .int x5), (6, .int x6), (7, .int x7), (8, .int x8)] [] h) {x1 : Int32} {x2 : Int32} {x3 : Int32} {x4 : Int32} {x5 : Int32} {x6 : Int32} {x7 : Int32} {x8 : Int32} {x9 : Int32} {h : Mm} (hF : X6_growRoster_129 n rf K48 x1 x2 x3 x4 x5 x6 x7 x8 x9 h = some (rv, hz)) : V X G RX6 cX6_growRoster 15 (none) DD 0 0 (QR X G true o none hz) true o 129 [(0, .ref (xa X 246)), (1, .int x1), (2, .int x2), (3, .int x3), (4, .int x4), (5, .int x5), (6, .int x6), (7, .int x7), (8, .int x8), (9, .int x9)] [] h := by
  unfold X6_growRoster_129 at hF
  refine V.iconst (v := 0) dX6_growRoster_129 rfl ?_
  exact (v_X6_growRoster_130 hdr hrf hDD hK48 hF)
def X6_growRoster_48 (n : Nat) (rf : Int32 → Int32 → Int32 → Int32 → Int32 → Int32 → Mm → Option (Unit × Mm)) : Nat → Int32 → Int32 → Int32 → Int32 → Int32 → Int32 → Int32 → Int32 → Mm → Option (Unit × Mm)
  | 0, _, _, _, _, _, _, _, _, _ => none
  | f + 1, x1, x2, x3, x4, x5, x6, x7, x8, h => (bp (X1_houses 13 h) (fun r146 => (if r146 ≤ x8 then (some ((), h)) else (if ((x2 >>> (x8 &&& 31)) &&& (1 : Int32)) = 0 then (bp (X11_at 29 x8 h) (fun r148 => (bp (X9_restedFrom r148 x1 h) (fun r150 => (bp (X1_strengthOf 13 x8 h) (fun r152 => (if (r152 - r150) < x7 then (X6_growRoster_129 n rf (X6_growRoster_48 n rf f) x1 x2 x3 x4 x5 x6 x7 x8 r150 h) else (if x1 = 0 then (bp (X0_wasRead 27 (h.1 246 8) h) (fun r154 => (if r154 = true then (X6_growRoster_129 n rf (X6_growRoster_48 n rf f) x1 x2 x3 x4 x5 x6 x7 x8 r150 h) else (X6_growRoster_125 n rf (X6_growRoster_48 n rf f) x1 x2 x3 x4 x5 x6 x7 x8 r150 h)))) else (X6_growRoster_125 n rf (X6_growRoster_48 n rf f) x1 x2 x3 x4 x5 x6 x7 x8 r150 h))))))))) else (X6_growRoster_274 n rf (X6_growRoster_48 n rf f) x1 x2 x3 x4 x5 x6 x7 x8 h)))))
set_option maxRecDepth 100000 in
set_option maxHeartbeats 4000000 in
theorem v_X6_growRoster_48 {X : WX} {G : GX} {o : Mm} {n : Nat} {rf : Int32 → Int32 → Int32 → Int32 → Int32 → Int32 → Mm → Option (Unit × Mm)} {dr : Nat} (hdr : 6 ≤ dr) (hrf : ∀ (x1 : Int32) (x2 : Int32) (x3 : Int32) (x4 : Int32) (x5 : Int32) (x6 : Int32)  (h : Mm) (r : Unit) (h2 : Mm), rf x1 x2 x3 x4 x5 x6 h = some (r, h2) → Sat X yX6_growRoster cX6_growRoster 15 (none) dr [.ref (xa X 246), .int x1, .int x2, .int x3, .int x4, .int x5, .int x6] true o h none h2) {DD : Nat} (hDD : dr + 1 ≤ DD) {rv : Unit} {hz : Mm} : ∀ (f : Nat) (x1 : Int32) (x2 : Int32) (x3 : Int32) (x4 : Int32) (x5 : Int32) (x6 : Int32) (x7 : Int32) (x8 : Int32) (h : Mm), X6_growRoster_48 n rf f x1 x2 x3 x4 x5 x6 x7 x8 h = some (rv, hz) → V X G RX6 cX6_growRoster 15 (none) DD 0 0 (QR X G true o none hz) true o 48 [(0, .ref (xa X 246)), (1, .int x1), (2, .int x2), (3, .int x3), (4, .int x4), (5, .int x5), (6, .int x6), (7, .int x7), (8, .int x8)] [] h := by
  intro f
  induction f with
  | zero => intro x1 x2 x3 x4 x5 x6 x7 x8 h hF; exact nomatch (show (none : Option (Unit × Mm)) = some (rv, hz) from hF)
  | succ f ih =>
    intro x1 x2 x3 x4 x5 x6 x7 x8 h hF
    unfold X6_growRoster_48 at hF
    refine V.iload 8 dX6_growRoster_48 rfl ?_
    refine V.aload_n 0 dX6_growRoster_50 rfl rfl ?_
    refine V.getR (v := 13) fl_X6_28 sh_246 rfl fx_246_1 (by decide) dX6_growRoster_51 ?_
    obtain ⟨r146, hc147, hF⟩ := bp_s hF
    refine V.callVi mf_X1_houses ml_X6_136 sh_13 (s_X1_houses (Or.inr rfl) hc147) (by omega) rfl rfl (Nat.le_of_ble_eq_true rfl) dX6_growRoster_54 ?_
    refine V.icmp_ge (tgt := 280) dX6_growRoster_57 rfl (fun c => ?_) (fun c => ?_)
    · replace hF := ip c hF
      cases hF
      exact V.vret dX6_growRoster_280
    · replace hF := iq c hF
      refine V.iload_n 2 dX6_growRoster_60 rfl rfl ?_
      refine V.iload 8 dX6_growRoster_61 rfl ?_
      refine V.ishr dX6_growRoster_63 ?_
      refine V.iconst (v := 1) dX6_growRoster_64 rfl ?_
      refine V.iand dX6_growRoster_65 ?_
      refine V.if_eq (tgt := 72) dX6_growRoster_66 rfl (fun c => ?_) (fun c => ?_)
      · replace hF := ip c hF
        refine V.aload_n 0 dX6_growRoster_72 rfl rfl ?_
        refine V.getR (v := 27) fl_X6_34 sh_246 rfl fx_246_3 (by decide) dX6_growRoster_73 ?_
        refine V.getR (v := 29) fl_X6_89 sh_27 rfl fx_27_1 (by decide) dX6_growRoster_76 ?_
        refine V.iload 8 dX6_growRoster_79 rfl ?_
        obtain ⟨r148, hc149, hF⟩ := bp_s hF
        refine V.callNi mf_X11_at ml_X6_79 (s_X11_at (Or.inl io_29) hc149) (by omega) rfl rfl (Nat.le_of_ble_eq_true rfl) dX6_growRoster_81 ?_
        refine V.iload_n 1 dX6_growRoster_84 rfl rfl ?_
        obtain ⟨r150, hc151, hF⟩ := bp_s hF
        refine V.callSi mf_X9_restedFrom ml_X6_139 (s_X9_restedFrom hc151) (by omega) rfl rfl (Nat.le_of_ble_eq_true rfl) dX6_growRoster_85 ?_
        refine V.istore [(9, _), (0, _), (1, _), (2, _), (3, _), (4, _), (5, _), (6, _), (7, _), (8, _)] dX6_growRoster_88 (by decide) rfl ?_
        refine V.iload 8 dX6_growRoster_90 rfl ?_
        refine V.aload_n 1 dX6_growRoster_92 rfl rfl ?_
        refine V.getR (v := 13) fl_X6_28 sh_246 rfl fx_246_1 (by decide) dX6_growRoster_93 ?_
        refine V.iload 9 dX6_growRoster_96 rfl ?_
        obtain ⟨r152, hc153, hF⟩ := bp_s hF
        refine V.callVi mf_X1_strengthOf ml_X6_92 sh_13 (s_X1_strengthOf (Or.inr rfl) hc153) (by omega) rfl rfl (Nat.le_of_ble_eq_true rfl) dX6_growRoster_98 ?_
        refine V.iload 0 dX6_growRoster_101 rfl ?_
        refine V.isub dX6_growRoster_103 ?_
        refine V.icmp_gt (tgt := 129) dX6_growRoster_104 rfl (fun c => ?_) (fun c => ?_)
        · replace hF := ip c hF
          exact V.sub [1, 2, 3, 4, 5, 6, 7, 8, 9, 0] rfl (v_X6_growRoster_129 hdr hrf hDD ih hF)
        · replace hF := iq c hF
          refine V.iload_n 2 dX6_growRoster_107 rfl rfl ?_
          refine V.if_ne (tgt := 125) dX6_growRoster_108 rfl (fun c => ?_) (fun c => ?_)
          · replace hF := iq c hF
            exact V.sub [1, 2, 3, 4, 5, 6, 7, 8, 9, 0] rfl (v_X6_growRoster_125 hdr hrf hDD ih hF)
          · replace hF := ip c hF
            refine V.aload_n 1 dX6_growRoster_111 rfl rfl ?_
            refine V.getR (v := 27) fl_X6_34 sh_246 rfl fx_246_3 (by decide) dX6_growRoster_112 ?_
            refine V.aload_n 1 dX6_growRoster_115 rfl rfl ?_
            refine V.getI fl_X6_130 sh_246 rfl km_246 dX6_growRoster_116 ?_
            obtain ⟨r154, hc155, hF⟩ := bp_s hF
            refine V.callVi mf_X0_wasRead ml_X6_142 sh_27 (s_X0_wasRead isb_27 hc155) (by omega) rfl rfl (Nat.le_of_ble_eq_true rfl) dX6_growRoster_119 ?_
            refine V.ifz_ne (tgt := 129) dX6_growRoster_122 rfl (fun c => ?_) (fun c => ?_)
            · replace hF := ip c hF
              exact V.sub [1, 2, 3, 4, 5, 6, 7, 8, 9, 0] rfl (v_X6_growRoster_129 hdr hrf hDD ih hF)
            · replace hF := iq c hF
              exact V.sub [1, 2, 3, 4, 5, 6, 7, 8, 9, 0] rfl (v_X6_growRoster_125 hdr hrf hDD ih hF)
      · replace hF := iq c hF
        refine V.goto (tgt := 274) dX6_growRoster_69 rfl ?_
        exact (v_X6_growRoster_274 hdr hrf hDD ih hF)
def X6_growRoster_b (n : Nat) (rf : Int32 → Int32 → Int32 → Int32 → Int32 → Int32 → Mm → Option (Unit × Mm)) (x1 : Int32) (x2 : Int32) (x3 : Int32) (x4 : Int32) (x5 : Int32) (x6 : Int32) (h : Mm) : Option (Unit × Mm) := (bp (X1_houses 13 h) (fun r156 => (if x1 < r156 then (bp (X1_pagesOf 13 (h.1 246 8) h) (fun r158 => (X6_growRoster_48 n rf n x1 x2 x3 x4 x5 x6 r158 (0 : Int32) h))) else (if x4 ≤ (h.1 246 7) then (some ((), h)) else (some ((), (wI (wI h 246 7 x4) 246 6 x3)))))))
set_option maxRecDepth 100000 in
set_option maxHeartbeats 4000000 in
theorem s_X6_growRoster_b {X : WX} {o : Mm} {n : Nat} {rf : Int32 → Int32 → Int32 → Int32 → Int32 → Int32 → Mm → Option (Unit × Mm)} {dr : Nat} (hdr : 6 ≤ dr) (hrf : ∀ (x1 : Int32) (x2 : Int32) (x3 : Int32) (x4 : Int32) (x5 : Int32) (x6 : Int32)  (h : Mm) (r : Unit) (h2 : Mm), rf x1 x2 x3 x4 x5 x6 h = some (r, h2) → Sat X yX6_growRoster cX6_growRoster 15 (none) dr [.ref (xa X 246), .int x1, .int x2, .int x3, .int x4, .int x5, .int x6] true o h none h2) {DD : Nat} (hDD : dr + 1 ≤ DD) {x1 : Int32} {x2 : Int32} {x3 : Int32} {x4 : Int32} {x5 : Int32} {x6 : Int32} {rv : Unit} {hz : Mm} {h : Mm} (hF : X6_growRoster_b n rf x1 x2 x3 x4 x5 x6 h = some (rv, hz)) : Sat X yX6_growRoster cX6_growRoster 15 (none) DD [.ref (xa X 246), .int x1, .int x2, .int x3, .int x4, .int x5, .int x6] true o h none hz := by
  unfold X6_growRoster_b at hF
  refine Sat.mk (own := RX6) rfl (by decide +kernel) (Nat.le_of_ble_eq_true rfl) (fun G => ?_)
  refine V.sub (lv2 := [(0, _), (1, _), (2, _), (3, _), (4, _), (5, _), (6, _)]) [0, 1, 2, 3, 4, 5, 6] rfl ?_
  refine V.iload_n 1 dX6_growRoster_0 rfl rfl ?_
  refine V.aload_n 0 dX6_growRoster_1 rfl rfl ?_
  refine V.getR (v := 13) fl_X6_28 sh_246 rfl fx_246_1 (by decide) dX6_growRoster_2 ?_
  obtain ⟨r156, hc157, hF⟩ := bp_s hF
  refine V.callVi mf_X1_houses ml_X6_136 sh_13 (s_X1_houses (Or.inr rfl) hc157) (by omega) rfl rfl (Nat.le_of_ble_eq_true rfl) dX6_growRoster_5 ?_
  refine V.icmp_lt (tgt := 32) dX6_growRoster_8 rfl (fun c => ?_) (fun c => ?_)
  · replace hF := ip c hF
    refine V.aload_n 0 dX6_growRoster_32 rfl rfl ?_
    refine V.getR (v := 13) fl_X6_28 sh_246 rfl fx_246_1 (by decide) dX6_growRoster_33 ?_
    refine V.aload_n 0 dX6_growRoster_36 rfl rfl ?_
    refine V.getI fl_X6_130 sh_246 rfl km_246 dX6_growRoster_37 ?_
    obtain ⟨r158, hc159, hF⟩ := bp_s hF
    refine V.callVi mf_X1_pagesOf ml_X6_95 sh_13 (s_X1_pagesOf (Or.inr rfl) hc159) (by omega) rfl rfl (Nat.le_of_ble_eq_true rfl) dX6_growRoster_40 ?_
    refine V.istore [(7, _), (0, _), (1, _), (2, _), (3, _), (4, _), (5, _), (6, _)] dX6_growRoster_43 (by decide) rfl ?_
    refine V.iconst (v := 0) dX6_growRoster_45 rfl ?_
    refine V.istore [(8, _), (7, _), (0, _), (1, _), (2, _), (3, _), (4, _), (5, _), (6, _)] dX6_growRoster_46 (by decide) rfl ?_
    exact V.sub [2, 3, 4, 5, 6, 7, 8, 1, 0] rfl (v_X6_growRoster_48 hdr hrf hDD n _ _ _ _ _ _ _ _ _ hF)
  · replace hF := iq c hF
    refine V.iload 4 dX6_growRoster_11 rfl ?_
    refine V.aload_n 0 dX6_growRoster_13 rfl rfl ?_
    refine V.getI fl_X6_42 sh_246 rfl km_246 dX6_growRoster_14 ?_
    refine V.icmp_le (tgt := 31) dX6_growRoster_17 rfl (fun c => ?_) (fun c => ?_)
    · replace hF := ip c hF
      cases hF
      exact V.vret dX6_growRoster_31
    · replace hF := iq c hF
      refine V.aload_n 0 dX6_growRoster_20 rfl rfl ?_
      refine V.iload 4 dX6_growRoster_21 rfl ?_
      refine V.putI fl_X6_42 rfl (tyX6_ok 7 (by decide)) rfl rfl sh_246 rfl km_246 dX6_growRoster_23 ?_
      refine V.aload_n 0 dX6_growRoster_26 rfl rfl ?_
      refine V.iload_n 3 dX6_growRoster_27 rfl rfl ?_
      refine V.putI fl_X6_38 rfl (tyX6_ok 6 (by decide)) rfl rfl sh_246 rfl km_246 dX6_growRoster_28 ?_
      cases hF
      exact V.vret dX6_growRoster_31
def X6_growRoster (n : Nat) : Nat → Int32 → Int32 → Int32 → Int32 → Int32 → Int32 → Mm → Option (Unit × Mm)
  | 0, _, _, _, _, _, _, _ => none
  | e + 1, x1, x2, x3, x4, x5, x6, h => X6_growRoster_b n (X6_growRoster n e) x1 x2 x3 x4 x5 x6 h
set_option maxRecDepth 100000 in
set_option maxHeartbeats 4000000 in
theorem s_X6_growRoster {X : WX} {o : Mm} {n : Nat} : ∀ (e : Nat) (x1 : Int32) (x2 : Int32) (x3 : Int32) (x4 : Int32) (x5 : Int32) (x6 : Int32) (h : Mm) (rv : Unit) (hz : Mm), X6_growRoster n e x1 x2 x3 x4 x5 x6 h = some (rv, hz) → Sat X yX6_growRoster cX6_growRoster 15 (none) (6 + 2 * e) [.ref (xa X 246), .int x1, .int x2, .int x3, .int x4, .int x5, .int x6] true o h none hz := by
  intro e
  induction e with
  | zero => intro x1 x2 x3 x4 x5 x6 h rv hz hF; exact nomatch (show (none : Option (Unit × Mm)) = some (rv, hz) from hF)
  | succ e ih => intro x1 x2 x3 x4 x5 x6 h rv hz hF; exact s_X6_growRoster_b (dr := 6 + 2 * e) (by omega) ih (by omega)  hF
/-! MonsterCot$Search.findRoster -/
theorem dX6_findRoster_0 : decode cX6_findRoster 0 = .ok (.aload_n 0, 1) := by decide +kernel
theorem dX6_findRoster_1 : decode cX6_findRoster 1 = .ok (.iconst (-1), 1) := by decide +kernel
theorem dX6_findRoster_2 : decode cX6_findRoster 2 = .ok (.putfield 38, 3) := by decide +kernel
theorem dX6_findRoster_5 : decode cX6_findRoster 5 = .ok (.aload_n 0, 1) := by decide +kernel
theorem dX6_findRoster_6 : decode cX6_findRoster 6 = .ok (.iconst (-1), 1) := by decide +kernel
theorem dX6_findRoster_7 : decode cX6_findRoster 7 = .ok (.putfield 42, 3) := by decide +kernel
theorem dX6_findRoster_10 : decode cX6_findRoster 10 = .ok (.aload_n 0, 1) := by decide +kernel
theorem dX6_findRoster_11 : decode cX6_findRoster 11 = .ok (.iload_n 1, 1) := by decide +kernel
theorem dX6_findRoster_12 : decode cX6_findRoster 12 = .ok (.putfield 130, 3) := by decide +kernel
theorem dX6_findRoster_15 : decode cX6_findRoster 15 = .ok (.aload_n 0, 1) := by decide +kernel
theorem dX6_findRoster_16 : decode cX6_findRoster 16 = .ok (.iconst 0, 1) := by decide +kernel
theorem dX6_findRoster_17 : decode cX6_findRoster 17 = .ok (.iconst 0, 1) := by decide +kernel
theorem dX6_findRoster_18 : decode cX6_findRoster 18 = .ok (.iconst 0, 1) := by decide +kernel
theorem dX6_findRoster_19 : decode cX6_findRoster 19 = .ok (.iconst 0, 1) := by decide +kernel
theorem dX6_findRoster_20 : decode cX6_findRoster 20 = .ok (.aload_n 0, 1) := by decide +kernel
theorem dX6_findRoster_21 : decode cX6_findRoster 21 = .ok (.getfield 34, 3) := by decide +kernel
theorem dX6_findRoster_24 : decode cX6_findRoster 24 = .ok (.getfield 52, 3) := by decide +kernel
theorem dX6_findRoster_27 : decode cX6_findRoster 27 = .ok (.aload_n 0, 1) := by decide +kernel
theorem dX6_findRoster_28 : decode cX6_findRoster 28 = .ok (.getfield 34, 3) := by decide +kernel
theorem dX6_findRoster_31 : decode cX6_findRoster 31 = .ok (.getfield 45, 3) := by decide +kernel
theorem dX6_findRoster_34 : decode cX6_findRoster 34 = .ok (.aload_n 0, 1) := by decide +kernel
theorem dX6_findRoster_35 : decode cX6_findRoster 35 = .ok (.getfield 28, 3) := by decide +kernel
theorem dX6_findRoster_38 : decode cX6_findRoster 38 = .ok (.iload_n 1, 1) := by decide +kernel
theorem dX6_findRoster_39 : decode cX6_findRoster 39 = .ok (.invokevirtual 76, 3) := by decide +kernel
theorem dX6_findRoster_42 : decode cX6_findRoster 42 = .ok (.invokestatic 79, 3) := by decide +kernel
theorem dX6_findRoster_45 : decode cX6_findRoster 45 = .ok (.invokevirtual 133, 3) := by decide +kernel
theorem dX6_findRoster_48 : decode cX6_findRoster 48 = .ok (.return_, 1) := by decide +kernel
def X6_findRoster (n : Nat) (x1 : Int32) (h : Mm) : Option (Unit × Mm) := (bp (X1_kindOf 13 x1 (wI (wI (wI h 246 6 (-1 : Int32)) 246 7 (-1 : Int32)) 246 8 x1)) (fun r8 => (bp (X11_at 28 r8 (wI (wI (wI h 246 6 (-1 : Int32)) 246 7 (-1 : Int32)) 246 8 x1)) (fun r10 => (bd (X6_growRoster n 9 (0 : Int32) (0 : Int32) (0 : Int32) (0 : Int32) ((wI (wI (wI h 246 6 (-1 : Int32)) 246 7 (-1 : Int32)) 246 8 x1).1 27 4) r10 (wI (wI (wI h 246 6 (-1 : Int32)) 246 7 (-1 : Int32)) 246 8 x1)) (fun _ h14 => (some ((), h14))))))))
set_option maxRecDepth 100000 in
set_option maxHeartbeats 4000000 in
theorem s_X6_findRoster {X : WX} {o : Mm} {n : Nat} {x1 : Int32} {rv : Unit} {hz : Mm} {h : Mm} (hF : X6_findRoster n x1 h = some (rv, hz)) : Sat X yX6_findRoster cX6_findRoster 2 (none) 25 [.ref (xa X 246), .int x1] true o h none hz := by
  unfold X6_findRoster at hF
  refine Sat.mk (own := RX6) rfl (by decide +kernel) (Nat.le_of_ble_eq_true rfl) (fun G => ?_)
  refine V.sub (lv2 := [(0, _), (1, _)]) [0, 1] rfl ?_
  refine V.aload_n 0 dX6_findRoster_0 rfl rfl ?_
  refine V.iconst (v := -1) dX6_findRoster_1 rfl ?_
  refine V.putI fl_X6_38 rfl (tyX6_ok 6 (by decide)) rfl rfl sh_246 rfl km_246 dX6_findRoster_2 ?_
  refine V.aload_n 0 dX6_findRoster_5 rfl rfl ?_
  refine V.iconst (v := -1) dX6_findRoster_6 rfl ?_
  refine V.putI fl_X6_42 rfl (tyX6_ok 7 (by decide)) rfl rfl sh_246 rfl km_246 dX6_findRoster_7 ?_
  refine V.aload_n 0 dX6_findRoster_10 rfl rfl ?_
  refine V.iload_n 1 dX6_findRoster_11 rfl rfl ?_
  refine V.putI fl_X6_130 rfl (tyX6_ok 8 (by decide)) rfl rfl sh_246 rfl km_246 dX6_findRoster_12 ?_
  refine V.aload_n 0 dX6_findRoster_15 rfl rfl ?_
  refine V.iconst (v := 0) dX6_findRoster_16 rfl ?_
  refine V.iconst (v := 0) dX6_findRoster_17 rfl ?_
  refine V.iconst (v := 0) dX6_findRoster_18 rfl ?_
  refine V.iconst (v := 0) dX6_findRoster_19 rfl ?_
  refine V.aload_n 0 dX6_findRoster_20 rfl rfl ?_
  refine V.getR (v := 27) fl_X6_34 sh_246 rfl fx_246_3 (by decide) dX6_findRoster_21 ?_
  refine V.getI fl_X6_52 sh_27 rfl km_27 dX6_findRoster_24 ?_
  refine V.aload_n 0 dX6_findRoster_27 rfl rfl ?_
  refine V.getR (v := 27) fl_X6_34 sh_246 rfl fx_246_3 (by decide) dX6_findRoster_28 ?_
  refine V.getR (v := 28) fl_X6_45 sh_27 rfl fx_27_0 (by decide) dX6_findRoster_31 ?_
  refine V.aload_n 0 dX6_findRoster_34 rfl rfl ?_
  refine V.getR (v := 13) fl_X6_28 sh_246 rfl fx_246_1 (by decide) dX6_findRoster_35 ?_
  refine V.iload_n 1 dX6_findRoster_38 rfl rfl ?_
  obtain ⟨r8, hc9, hF⟩ := bp_s hF
  refine V.callVi mf_X1_kindOf ml_X6_76 sh_13 (s_X1_kindOf (Or.inr rfl) hc9) (by decide) rfl rfl (Nat.le_of_ble_eq_true rfl) dX6_findRoster_39 ?_
  obtain ⟨r10, hc11, hF⟩ := bp_s hF
  refine V.callNi mf_X11_at ml_X6_79 (s_X11_at (Or.inl io_28) hc11) (by decide) rfl rfl (Nat.le_of_ble_eq_true rfl) dX6_findRoster_42 ?_
  obtain ⟨r12, h14, hc13, hF⟩ := bd_s hF
  refine V.callVv mf_X6_growRoster ml_X6_133 sh_246 (s_X6_growRoster 9 _ _ _ _ _ _ _ _ _ hc13) (by decide) rfl rfl (Nat.le_of_ble_eq_true rfl) dX6_findRoster_45 ?_
  cases hF
  exact V.vret dX6_findRoster_48
/-! MonsterCot.roster -/
theorem dX11_roster_0 : decode cX11_roster 0 = .ok (.aload_n 0, 1) := by decide +kernel
theorem dX11_roster_1 : decode cX11_roster 1 = .ok (.getfield 42, 3) := by decide +kernel
theorem dX11_roster_4 : decode cX11_roster 4 = .ok (.iload_n 1, 1) := by decide +kernel
theorem dX11_roster_5 : decode cX11_roster 5 = .ok (.invokevirtual 137, 3) := by decide +kernel
theorem dX11_roster_8 : decode cX11_roster 8 = .ok (.ifCond .eq 12, 3) := by decide +kernel
theorem dX11_roster_11 : decode cX11_roster 11 = .ok (.iload_n 2, 1) := by decide +kernel
theorem dX11_roster_12 : decode cX11_roster 12 = .ok (.ifCond .lt 8, 3) := by decide +kernel
theorem dX11_roster_15 : decode cX11_roster 15 = .ok (.iload_n 2, 1) := by decide +kernel
theorem dX11_roster_16 : decode cX11_roster 16 = .ok (.iconst 1, 1) := by decide +kernel
theorem dX11_roster_17 : decode cX11_roster 17 = .ok (.if_icmp .le 5, 3) := by decide +kernel
theorem dX11_roster_20 : decode cX11_roster 20 = .ok (.iconst (-1), 1) := by decide +kernel
theorem dX11_roster_21 : decode cX11_roster 21 = .ok (.ireturn, 1) := by decide +kernel
theorem dX11_roster_22 : decode cX11_roster 22 = .ok (.aload_n 0, 1) := by decide +kernel
theorem dX11_roster_23 : decode cX11_roster 23 = .ok (.getfield 84, 3) := by decide +kernel
theorem dX11_roster_26 : decode cX11_roster 26 = .ok (.iload_n 1, 1) := by decide +kernel
theorem dX11_roster_27 : decode cX11_roster 27 = .ok (.invokevirtual 312, 3) := by decide +kernel
theorem dX11_roster_30 : decode cX11_roster 30 = .ok (.iload_n 2, 1) := by decide +kernel
theorem dX11_roster_31 : decode cX11_roster 31 = .ok (.ifCond .ne 13, 3) := by decide +kernel
theorem dX11_roster_34 : decode cX11_roster 34 = .ok (.aload_n 0, 1) := by decide +kernel
theorem dX11_roster_35 : decode cX11_roster 35 = .ok (.getfield 84, 3) := by decide +kernel
theorem dX11_roster_38 : decode cX11_roster 38 = .ok (.getfield 306, 3) := by decide +kernel
theorem dX11_roster_41 : decode cX11_roster 41 = .ok (.goto 10, 3) := by decide +kernel
theorem dX11_roster_44 : decode cX11_roster 44 = .ok (.aload_n 0, 1) := by decide +kernel
theorem dX11_roster_45 : decode cX11_roster 45 = .ok (.getfield 84, 3) := by decide +kernel
theorem dX11_roster_48 : decode cX11_roster 48 = .ok (.getfield 303, 3) := by decide +kernel
theorem dX11_roster_51 : decode cX11_roster 51 = .ok (.ireturn, 1) := by decide +kernel
def X11_roster (n : Nat) (x1 : Int32) (x2 : Int32) (h : Mm) : Option (Int32 × Mm) := (bp (X1_hasBook 13 x1 h) (fun r6 => (if r6 = true then (if x2 < 0 then (some ((-1 : Int32), h)) else (if x2 ≤ (1 : Int32) then (bd (X6_findRoster n x1 h) (fun _ h10 => (if x2 = 0 then (some ((h10.1 246 6), h10)) else (some ((h10.1 246 7), h10))))) else (some ((-1 : Int32), h)))) else (some ((-1 : Int32), h)))))
set_option maxRecDepth 100000 in
set_option maxHeartbeats 4000000 in
theorem s_X11_roster {X : WX} {o : Mm} {n : Nat} {x1 : Int32} {x2 : Int32} {rv : Int32} {hz : Mm} {h : Mm} (hF : X11_roster n x1 x2 h = some (rv, hz)) : Sat X yX11_roster cX11_roster 3 (some .int) 26 [.ref (xa X 0), .int x1, .int x2] true o h (some (.int rv)) hz := by
  unfold X11_roster at hF
  refine Sat.mk (own := RX11) rfl (by decide +kernel) (Nat.le_of_ble_eq_true rfl) (fun G => ?_)
  refine V.sub (lv2 := [(0, _), (1, _), (2, _)]) [0, 1, 2] rfl ?_
  refine V.aload_n 0 dX11_roster_0 rfl rfl ?_
  refine V.getR (v := 13) fl_X11_42 sh_0 rfl fx_0_4 (by decide) dX11_roster_1 ?_
  refine V.iload_n 1 dX11_roster_4 rfl rfl ?_
  obtain ⟨r6, hc7, hF⟩ := bp_s hF
  refine V.callVi mf_X1_hasBook ml_X11_137 sh_13 (s_X1_hasBook (Or.inr rfl) hc7) (by decide) rfl rfl (Nat.le_of_ble_eq_true rfl) dX11_roster_5 ?_
  refine V.ifz_eq (tgt := 20) dX11_roster_8 rfl (fun c => ?_) (fun c => ?_)
  · replace hF := iq c hF
    refine V.iconst (v := -1) dX11_roster_20 rfl ?_
    cases hF
    exact V.iret dX11_roster_21
  · replace hF := ip c hF
    refine V.iload_n 2 dX11_roster_11 rfl rfl ?_
    refine V.if_lt (tgt := 20) dX11_roster_12 rfl (fun c => ?_) (fun c => ?_)
    · replace hF := ip c hF
      refine V.iconst (v := -1) dX11_roster_20 rfl ?_
      cases hF
      exact V.iret dX11_roster_21
    · replace hF := iq c hF
      refine V.iload_n 2 dX11_roster_15 rfl rfl ?_
      refine V.iconst (v := 1) dX11_roster_16 rfl ?_
      refine V.icmp_le (tgt := 22) dX11_roster_17 rfl (fun c => ?_) (fun c => ?_)
      · replace hF := ip c hF
        refine V.aload_n 0 dX11_roster_22 rfl rfl ?_
        refine V.getR (v := 246) fl_X11_84 sh_0 rfl fx_0_10 (by decide) dX11_roster_23 ?_
        refine V.iload_n 1 dX11_roster_26 rfl rfl ?_
        obtain ⟨r8, h10, hc9, hF⟩ := bd_s hF
        refine V.callVv mf_X6_findRoster ml_X11_312 sh_246 (s_X6_findRoster hc9) (by decide) rfl rfl (Nat.le_of_ble_eq_true rfl) dX11_roster_27 ?_
        refine V.iload_n 2 dX11_roster_30 rfl rfl ?_
        refine V.if_ne (tgt := 44) dX11_roster_31 rfl (fun c => ?_) (fun c => ?_)
        · replace hF := iq c hF
          refine V.aload_n 0 dX11_roster_44 rfl rfl ?_
          refine V.getR (v := 246) fl_X11_84 sh_0 rfl fx_0_10 (by decide) dX11_roster_45 ?_
          refine V.getI fl_X11_303 sh_246 rfl km_246 dX11_roster_48 ?_
          cases hF
          exact V.iret dX11_roster_51
        · replace hF := ip c hF
          refine V.aload_n 0 dX11_roster_34 rfl rfl ?_
          refine V.getR (v := 246) fl_X11_84 sh_0 rfl fx_0_10 (by decide) dX11_roster_35 ?_
          refine V.getI fl_X11_306 sh_246 rfl km_246 dX11_roster_38 ?_
          refine V.goto (tgt := 51) dX11_roster_41 rfl ?_
          cases hF
          exact V.iret dX11_roster_51
      · replace hF := iq c hF
        refine V.iconst (v := -1) dX11_roster_20 rfl ?_
        cases hF
        exact V.iret dX11_roster_21
/-! MonsterCot$Watch.note -/
theorem dX8_note_0 : decode cX8_note 0 = .ok (.aload_n 0, 1) := by decide +kernel
theorem dX8_note_1 : decode cX8_note 1 = .ok (.getfield 30, 3) := by decide +kernel
theorem dX8_note_4 : decode cX8_note 4 = .ok (.bipush 10, 2) := by decide +kernel
theorem dX8_note_6 : decode cX8_note 6 = .ok (.if_icmp .lt 5, 3) := by decide +kernel
theorem dX8_note_9 : decode cX8_note 9 = .ok (.iconst 0, 1) := by decide +kernel
theorem dX8_note_10 : decode cX8_note 10 = .ok (.ireturn, 1) := by decide +kernel
theorem dX8_note_11 : decode cX8_note 11 = .ok (.aload_n 0, 1) := by decide +kernel
theorem dX8_note_12 : decode cX8_note 12 = .ok (.getfield 30, 3) := by decide +kernel
theorem dX8_note_15 : decode cX8_note 15 = .ok (.iconst 5, 1) := by decide +kernel
theorem dX8_note_16 : decode cX8_note 16 = .ok (.imul, 1) := by decide +kernel
theorem dX8_note_17 : decode cX8_note 17 = .ok (.istore 6, 2) := by decide +kernel
theorem dX8_note_19 : decode cX8_note 19 = .ok (.aload_n 0, 1) := by decide +kernel
theorem dX8_note_20 : decode cX8_note 20 = .ok (.getfield 11, 3) := by decide +kernel
theorem dX8_note_23 : decode cX8_note 23 = .ok (.iload 6, 2) := by decide +kernel
theorem dX8_note_25 : decode cX8_note 25 = .ok (.iload_n 1, 1) := by decide +kernel
theorem dX8_note_26 : decode cX8_note 26 = .ok (.invokestatic 34, 3) := by decide +kernel
theorem dX8_note_29 : decode cX8_note 29 = .ok (.aload_n 0, 1) := by decide +kernel
theorem dX8_note_30 : decode cX8_note 30 = .ok (.getfield 11, 3) := by decide +kernel
theorem dX8_note_33 : decode cX8_note 33 = .ok (.iload 6, 2) := by decide +kernel
theorem dX8_note_35 : decode cX8_note 35 = .ok (.iconst 1, 1) := by decide +kernel
theorem dX8_note_36 : decode cX8_note 36 = .ok (.iadd, 1) := by decide +kernel
theorem dX8_note_37 : decode cX8_note 37 = .ok (.iload_n 2, 1) := by decide +kernel
theorem dX8_note_38 : decode cX8_note 38 = .ok (.invokestatic 34, 3) := by decide +kernel
theorem dX8_note_41 : decode cX8_note 41 = .ok (.aload_n 0, 1) := by decide +kernel
theorem dX8_note_42 : decode cX8_note 42 = .ok (.getfield 11, 3) := by decide +kernel
theorem dX8_note_45 : decode cX8_note 45 = .ok (.iload 6, 2) := by decide +kernel
theorem dX8_note_47 : decode cX8_note 47 = .ok (.iconst 2, 1) := by decide +kernel
theorem dX8_note_48 : decode cX8_note 48 = .ok (.iadd, 1) := by decide +kernel
theorem dX8_note_49 : decode cX8_note 49 = .ok (.iload_n 3, 1) := by decide +kernel
theorem dX8_note_50 : decode cX8_note 50 = .ok (.invokestatic 34, 3) := by decide +kernel
theorem dX8_note_53 : decode cX8_note 53 = .ok (.aload_n 0, 1) := by decide +kernel
theorem dX8_note_54 : decode cX8_note 54 = .ok (.getfield 11, 3) := by decide +kernel
theorem dX8_note_57 : decode cX8_note 57 = .ok (.iload 6, 2) := by decide +kernel
theorem dX8_note_59 : decode cX8_note 59 = .ok (.iconst 3, 1) := by decide +kernel
theorem dX8_note_60 : decode cX8_note 60 = .ok (.iadd, 1) := by decide +kernel
theorem dX8_note_61 : decode cX8_note 61 = .ok (.iload 4, 2) := by decide +kernel
theorem dX8_note_63 : decode cX8_note 63 = .ok (.invokestatic 34, 3) := by decide +kernel
theorem dX8_note_66 : decode cX8_note 66 = .ok (.aload_n 0, 1) := by decide +kernel
theorem dX8_note_67 : decode cX8_note 67 = .ok (.getfield 11, 3) := by decide +kernel
theorem dX8_note_70 : decode cX8_note 70 = .ok (.iload 6, 2) := by decide +kernel
theorem dX8_note_72 : decode cX8_note 72 = .ok (.iconst 4, 1) := by decide +kernel
theorem dX8_note_73 : decode cX8_note 73 = .ok (.iadd, 1) := by decide +kernel
theorem dX8_note_74 : decode cX8_note 74 = .ok (.iload 5, 2) := by decide +kernel
theorem dX8_note_76 : decode cX8_note 76 = .ok (.ifCond .eq 7, 3) := by decide +kernel
theorem dX8_note_79 : decode cX8_note 79 = .ok (.iconst 1, 1) := by decide +kernel
theorem dX8_note_80 : decode cX8_note 80 = .ok (.goto 4, 3) := by decide +kernel
theorem dX8_note_83 : decode cX8_note 83 = .ok (.iconst 0, 1) := by decide +kernel
theorem dX8_note_84 : decode cX8_note 84 = .ok (.invokestatic 34, 3) := by decide +kernel
theorem dX8_note_87 : decode cX8_note 87 = .ok (.aload_n 0, 1) := by decide +kernel
theorem dX8_note_88 : decode cX8_note 88 = .ok (.dup, 1) := by decide +kernel
theorem dX8_note_89 : decode cX8_note 89 = .ok (.getfield 30, 3) := by decide +kernel
theorem dX8_note_92 : decode cX8_note 92 = .ok (.iconst 1, 1) := by decide +kernel
theorem dX8_note_93 : decode cX8_note 93 = .ok (.iadd, 1) := by decide +kernel
theorem dX8_note_94 : decode cX8_note 94 = .ok (.putfield 30, 3) := by decide +kernel
theorem dX8_note_97 : decode cX8_note 97 = .ok (.iconst 1, 1) := by decide +kernel
theorem dX8_note_98 : decode cX8_note 98 = .ok (.ireturn, 1) := by decide +kernel
def X8_note_84 (s1 : Int32) (s2 : Bool) (h : Mm) : Option (Bool × Mm) := (bd (X11_put 250 s1 (b2i s2) h) (fun _ h33 => (some (true, (wI h33 249 4 ((h33.1 249 4) + (1 : Int32)))))))
set_option maxRecDepth 100000 in
set_option maxHeartbeats 4000000 in
theorem v_X8_note_84 {X : WX} {G : GX} {o : Mm} {rv : Bool} {hz : Mm} {s1 : Int32} {s2 : Bool} {h : Mm} (hF : X8_note_84  s1 s2 h = some (rv, hz)) : V X G RX8 cX8_note 7 (some .boolean) 2 0 0 (QR X G true o (some (.int (b2i rv))) hz) true o 84 [(0, .ref (xa X 249))] [.int (b2i s2), .int s1, .ref (xa X 250)] h := by
  unfold X8_note_84 at hF
  obtain ⟨r31, h33, hc32, hF⟩ := bd_s hF
  refine V.callNv mf_X11_put ml_X8_34 (s_X11_put io_250 hc32) (by decide) rfl rfl (Nat.le_of_ble_eq_true rfl) dX8_note_84 ?_
  refine V.aload_n 0 dX8_note_87 rfl rfl ?_
  refine V.dup dX8_note_88 rfl ?_
  refine V.getI fl_X8_30 sh_249 rfl km_249 dX8_note_89 ?_
  refine V.iconst (v := 1) dX8_note_92 rfl ?_
  refine V.iadd dX8_note_93 ?_
  refine V.putI fl_X8_30 rfl (tyX8_ok 4 (by decide)) rfl rfl sh_249 rfl km_249 dX8_note_94 ?_
  refine V.iconst (v := 1) dX8_note_97 rfl ?_
  cases hF
  exact V.bret dX8_note_98
def X8_note (x1 : Int32) (x2 : Int32) (x3 : Int32) (x4 : Int32) (x5 : Bool) (h : Mm) : Option (Bool × Mm) := (if (h.1 249 4) < (10 : Int32) then (bd (X11_put 250 ((h.1 249 4) * (5 : Int32)) x1 h) (fun _ h36 => (bd (X11_put 250 (((h.1 249 4) * (5 : Int32)) + (1 : Int32)) x2 h36) (fun _ h39 => (bd (X11_put 250 (((h.1 249 4) * (5 : Int32)) + (2 : Int32)) x3 h39) (fun _ h42 => (bd (X11_put 250 (((h.1 249 4) * (5 : Int32)) + (3 : Int32)) x4 h42) (fun _ h45 => (if x5 = true then (X8_note_84 (((h.1 249 4) * (5 : Int32)) + (4 : Int32)) true h45) else (X8_note_84 (((h.1 249 4) * (5 : Int32)) + (4 : Int32)) false h45)))))))))) else (some (false, h)))
set_option maxRecDepth 100000 in
set_option maxHeartbeats 4000000 in
theorem s_X8_note {X : WX} {o : Mm} {x1 : Int32} {x2 : Int32} {x3 : Int32} {x4 : Int32} {x5 : Bool} {rv : Bool} {hz : Mm} {h : Mm} (hF : X8_note x1 x2 x3 x4 x5 h = some (rv, hz)) : Sat X yX8_note cX8_note 7 (some .boolean) 2 [.ref (xa X 249), .int x1, .int x2, .int x3, .int x4, .int (b2i x5)] true o h (some (.int (b2i rv))) hz := by
  unfold X8_note at hF
  refine Sat.mk (own := RX8) rfl (by decide +kernel) (Nat.le_of_ble_eq_true rfl) (fun G => ?_)
  refine V.sub (lv2 := [(0, _), (1, _), (2, _), (3, _), (4, _), (5, _)]) [0, 1, 2, 3, 4, 5] rfl ?_
  refine V.aload_n 0 dX8_note_0 rfl rfl ?_
  refine V.getI fl_X8_30 sh_249 rfl km_249 dX8_note_1 ?_
  refine V.bipush (v := 10) dX8_note_4 (by decide) ?_
  refine V.icmp_lt (tgt := 11) dX8_note_6 rfl (fun c => ?_) (fun c => ?_)
  · replace hF := ip c hF
    refine V.aload_n 0 dX8_note_11 rfl rfl ?_
    refine V.getI fl_X8_30 sh_249 rfl km_249 dX8_note_12 ?_
    refine V.iconst (v := 5) dX8_note_15 rfl ?_
    refine V.imul dX8_note_16 ?_
    refine V.istore [(6, _), (0, _), (1, _), (2, _), (3, _), (4, _), (5, _)] dX8_note_17 (by decide) rfl ?_
    refine V.aload_n 1 dX8_note_19 rfl rfl ?_
    refine V.getR (v := 250) fl_X8_11 sh_249 rfl fx_249_3 (by decide) dX8_note_20 ?_
    refine V.iload 0 dX8_note_23 rfl ?_
    refine V.iload_n 2 dX8_note_25 rfl rfl ?_
    obtain ⟨r34, h36, hc35, hF⟩ := bd_s hF
    refine V.callNv mf_X11_put ml_X8_34 (s_X11_put io_250 hc35) (by decide) rfl rfl (Nat.le_of_ble_eq_true rfl) dX8_note_26 ?_
    refine V.aload_n 1 dX8_note_29 rfl rfl ?_
    refine V.getR (v := 250) fl_X8_11 sh_249 rfl fx_249_3 (by decide) dX8_note_30 ?_
    refine V.iload 0 dX8_note_33 rfl ?_
    refine V.iconst (v := 1) dX8_note_35 rfl ?_
    refine V.iadd dX8_note_36 ?_
    refine V.iload_n 3 dX8_note_37 rfl rfl ?_
    obtain ⟨r37, h39, hc38, hF⟩ := bd_s hF
    refine V.callNv mf_X11_put ml_X8_34 (s_X11_put io_250 hc38) (by decide) rfl rfl (Nat.le_of_ble_eq_true rfl) dX8_note_38 ?_
    refine V.aload_n 1 dX8_note_41 rfl rfl ?_
    refine V.getR (v := 250) fl_X8_11 sh_249 rfl fx_249_3 (by decide) dX8_note_42 ?_
    refine V.iload 0 dX8_note_45 rfl ?_
    refine V.iconst (v := 2) dX8_note_47 rfl ?_
    refine V.iadd dX8_note_48 ?_
    refine V.iload_n 4 dX8_note_49 rfl rfl ?_
    obtain ⟨r40, h42, hc41, hF⟩ := bd_s hF
    refine V.callNv mf_X11_put ml_X8_34 (s_X11_put io_250 hc41) (by decide) rfl rfl (Nat.le_of_ble_eq_true rfl) dX8_note_50 ?_
    refine V.aload_n 1 dX8_note_53 rfl rfl ?_
    refine V.getR (v := 250) fl_X8_11 sh_249 rfl fx_249_3 (by decide) dX8_note_54 ?_
    refine V.iload 0 dX8_note_57 rfl ?_
    refine V.iconst (v := 3) dX8_note_59 rfl ?_
    refine V.iadd dX8_note_60 ?_
    refine V.iload 5 dX8_note_61 rfl ?_
    obtain ⟨r43, h45, hc44, hF⟩ := bd_s hF
    refine V.callNv mf_X11_put ml_X8_34 (s_X11_put io_250 hc44) (by decide) rfl rfl (Nat.le_of_ble_eq_true rfl) dX8_note_63 ?_
    refine V.aload_n 1 dX8_note_66 rfl rfl ?_
    refine V.getR (v := 250) fl_X8_11 sh_249 rfl fx_249_3 (by decide) dX8_note_67 ?_
    refine V.iload 0 dX8_note_70 rfl ?_
    refine V.iconst (v := 4) dX8_note_72 rfl ?_
    refine V.iadd dX8_note_73 ?_
    refine V.iload 6 dX8_note_74 rfl ?_
    refine V.ifz_eq (tgt := 83) dX8_note_76 rfl (fun c => ?_) (fun c => ?_)
    · replace hF := iq c hF
      refine V.iconst (v := 0) dX8_note_83 rfl ?_
      exact V.sub [1] rfl (v_X8_note_84 hF)
    · replace hF := ip c hF
      refine V.iconst (v := 1) dX8_note_79 rfl ?_
      refine V.goto (tgt := 84) dX8_note_80 rfl ?_
      exact V.sub [1] rfl (v_X8_note_84 hF)
  · replace hF := iq c hF
    refine V.iconst (v := 0) dX8_note_9 rfl ?_
    cases hF
    exact V.bret dX8_note_10
/-! MonsterCot.seen -/
theorem dX11_seen_0 : decode cX11_seen 0 = .ok (.aload_n 0, 1) := by decide +kernel
theorem dX11_seen_1 : decode cX11_seen 1 = .ok (.getfield 58, 3) := by decide +kernel
theorem dX11_seen_4 : decode cX11_seen 4 = .ok (.iload_n 1, 1) := by decide +kernel
theorem dX11_seen_5 : decode cX11_seen 5 = .ok (.iload_n 2, 1) := by decide +kernel
theorem dX11_seen_6 : decode cX11_seen 6 = .ok (.invokevirtual 291, 3) := by decide +kernel
theorem dX11_seen_9 : decode cX11_seen 9 = .ok (.ifCond .eq 26, 3) := by decide +kernel
theorem dX11_seen_12 : decode cX11_seen 12 = .ok (.aload_n 0, 1) := by decide +kernel
theorem dX11_seen_13 : decode cX11_seen 13 = .ok (.getfield 42, 3) := by decide +kernel
theorem dX11_seen_16 : decode cX11_seen 16 = .ok (.iload_n 3, 1) := by decide +kernel
theorem dX11_seen_17 : decode cX11_seen 17 = .ok (.invokevirtual 153, 3) := by decide +kernel
theorem dX11_seen_20 : decode cX11_seen 20 = .ok (.ifCond .eq 15, 3) := by decide +kernel
theorem dX11_seen_23 : decode cX11_seen 23 = .ok (.iload 4, 2) := by decide +kernel
theorem dX11_seen_25 : decode cX11_seen 25 = .ok (.ifCond .lt 10, 3) := by decide +kernel
theorem dX11_seen_28 : decode cX11_seen 28 = .ok (.iload 4, 2) := by decide +kernel
theorem dX11_seen_30 : decode cX11_seen 30 = .ok (.bipush 99, 2) := by decide +kernel
theorem dX11_seen_32 : decode cX11_seen 32 = .ok (.if_icmp .le 5, 3) := by decide +kernel
theorem dX11_seen_35 : decode cX11_seen 35 = .ok (.iconst (-1), 1) := by decide +kernel
theorem dX11_seen_36 : decode cX11_seen 36 = .ok (.ireturn, 1) := by decide +kernel
theorem dX11_seen_37 : decode cX11_seen 37 = .ok (.aload_n 0, 1) := by decide +kernel
theorem dX11_seen_38 : decode cX11_seen 38 = .ok (.getfield 91, 3) := by decide +kernel
theorem dX11_seen_41 : decode cX11_seen 41 = .ok (.iload_n 1, 1) := by decide +kernel
theorem dX11_seen_42 : decode cX11_seen 42 = .ok (.iload_n 2, 1) := by decide +kernel
theorem dX11_seen_43 : decode cX11_seen 43 = .ok (.iload_n 3, 1) := by decide +kernel
theorem dX11_seen_44 : decode cX11_seen 44 = .ok (.iload 4, 2) := by decide +kernel
theorem dX11_seen_46 : decode cX11_seen 46 = .ok (.iload 5, 2) := by decide +kernel
theorem dX11_seen_48 : decode cX11_seen 48 = .ok (.invokevirtual 316, 3) := by decide +kernel
theorem dX11_seen_51 : decode cX11_seen 51 = .ok (.ifCond .eq 13, 3) := by decide +kernel
theorem dX11_seen_54 : decode cX11_seen 54 = .ok (.aload_n 0, 1) := by decide +kernel
theorem dX11_seen_55 : decode cX11_seen 55 = .ok (.getfield 91, 3) := by decide +kernel
theorem dX11_seen_58 : decode cX11_seen 58 = .ok (.getfield 320, 3) := by decide +kernel
theorem dX11_seen_61 : decode cX11_seen 61 = .ok (.goto 4, 3) := by decide +kernel
theorem dX11_seen_64 : decode cX11_seen 64 = .ok (.iconst (-1), 1) := by decide +kernel
theorem dX11_seen_65 : decode cX11_seen 65 = .ok (.ireturn, 1) := by decide +kernel
def X11_seen (x1 : Int32) (x2 : Int32) (x3 : Int32) (x4 : Int32) (x5 : Bool) (h : Mm) : Option (Int32 × Mm) := (bp (X9_hasPages x1 x2 h) (fun r8 => (if r8 = true then (bp (X1_hasHouse 13 x3 h) (fun r10 => (if r10 = true then (if x4 < 0 then (some ((-1 : Int32), h)) else (if x4 ≤ (99 : Int32) then (bd (X8_note x1 x2 x3 x4 x5 h) (fun r12 h14 => (if r12 = true then (some ((h14.1 249 4), h14)) else (some ((-1 : Int32), h14))))) else (some ((-1 : Int32), h)))) else (some ((-1 : Int32), h))))) else (some ((-1 : Int32), h)))))
set_option maxRecDepth 100000 in
set_option maxHeartbeats 4000000 in
theorem s_X11_seen {X : WX} {o : Mm} {x1 : Int32} {x2 : Int32} {x3 : Int32} {x4 : Int32} {x5 : Bool} {rv : Int32} {hz : Mm} {h : Mm} (hF : X11_seen x1 x2 x3 x4 x5 h = some (rv, hz)) : Sat X yX11_seen cX11_seen 6 (some .int) 5 [.ref (xa X 0), .int x1, .int x2, .int x3, .int x4, .int (b2i x5)] true o h (some (.int rv)) hz := by
  unfold X11_seen at hF
  refine Sat.mk (own := RX11) rfl (by decide +kernel) (Nat.le_of_ble_eq_true rfl) (fun G => ?_)
  refine V.sub (lv2 := [(0, _), (1, _), (2, _), (3, _), (4, _), (5, _)]) [0, 1, 2, 3, 4, 5] rfl ?_
  refine V.aload_n 0 dX11_seen_0 rfl rfl ?_
  refine V.getR (v := 26) fl_X11_58 sh_0 rfl fx_0_6 (by decide) dX11_seen_1 ?_
  refine V.iload_n 1 dX11_seen_4 rfl rfl ?_
  refine V.iload_n 2 dX11_seen_5 rfl rfl ?_
  obtain ⟨r8, hc9, hF⟩ := bp_s hF
  refine V.callVi mf_X9_hasPages ml_X11_291 sh_26 (s_X9_hasPages hc9) (by decide) rfl rfl (Nat.le_of_ble_eq_true rfl) dX11_seen_6 ?_
  refine V.ifz_eq (tgt := 35) dX11_seen_9 rfl (fun c => ?_) (fun c => ?_)
  · replace hF := iq c hF
    refine V.iconst (v := -1) dX11_seen_35 rfl ?_
    cases hF
    exact V.iret dX11_seen_36
  · replace hF := ip c hF
    refine V.aload_n 0 dX11_seen_12 rfl rfl ?_
    refine V.getR (v := 13) fl_X11_42 sh_0 rfl fx_0_4 (by decide) dX11_seen_13 ?_
    refine V.iload_n 3 dX11_seen_16 rfl rfl ?_
    obtain ⟨r10, hc11, hF⟩ := bp_s hF
    refine V.callVi mf_X1_hasHouse ml_X11_153 sh_13 (s_X1_hasHouse (Or.inr rfl) hc11) (by decide) rfl rfl (Nat.le_of_ble_eq_true rfl) dX11_seen_17 ?_
    refine V.ifz_eq (tgt := 35) dX11_seen_20 rfl (fun c => ?_) (fun c => ?_)
    · replace hF := iq c hF
      refine V.iconst (v := -1) dX11_seen_35 rfl ?_
      cases hF
      exact V.iret dX11_seen_36
    · replace hF := ip c hF
      refine V.iload 4 dX11_seen_23 rfl ?_
      refine V.if_lt (tgt := 35) dX11_seen_25 rfl (fun c => ?_) (fun c => ?_)
      · replace hF := ip c hF
        refine V.iconst (v := -1) dX11_seen_35 rfl ?_
        cases hF
        exact V.iret dX11_seen_36
      · replace hF := iq c hF
        refine V.iload 4 dX11_seen_28 rfl ?_
        refine V.bipush (v := 99) dX11_seen_30 (by decide) ?_
        refine V.icmp_le (tgt := 37) dX11_seen_32 rfl (fun c => ?_) (fun c => ?_)
        · replace hF := ip c hF
          refine V.aload_n 0 dX11_seen_37 rfl rfl ?_
          refine V.getR (v := 249) fl_X11_91 sh_0 rfl fx_0_11 (by decide) dX11_seen_38 ?_
          refine V.iload_n 1 dX11_seen_41 rfl rfl ?_
          refine V.iload_n 2 dX11_seen_42 rfl rfl ?_
          refine V.iload_n 3 dX11_seen_43 rfl rfl ?_
          refine V.iload 4 dX11_seen_44 rfl ?_
          refine V.iload 5 dX11_seen_46 rfl ?_
          obtain ⟨r12, h14, hc13, hF⟩ := bd_s hF
          refine V.callVi mf_X8_note ml_X11_316 sh_249 (s_X8_note hc13) (by decide) rfl rfl (Nat.le_of_ble_eq_true rfl) dX11_seen_48 ?_
          refine V.ifz_eq (tgt := 64) dX11_seen_51 rfl (fun c => ?_) (fun c => ?_)
          · replace hF := iq c hF
            refine V.iconst (v := -1) dX11_seen_64 rfl ?_
            cases hF
            exact V.iret dX11_seen_65
          · replace hF := ip c hF
            refine V.aload_n 0 dX11_seen_54 rfl rfl ?_
            refine V.getR (v := 249) fl_X11_91 sh_0 rfl fx_0_11 (by decide) dX11_seen_55 ?_
            refine V.getI fl_X11_320 sh_249 rfl km_249 dX11_seen_58 ?_
            refine V.goto (tgt := 65) dX11_seen_61 rfl ?_
            cases hF
            exact V.iret dX11_seen_65
        · replace hF := iq c hF
          refine V.iconst (v := -1) dX11_seen_35 rfl ?_
          cases hF
          exact V.iret dX11_seen_36
/-! MonsterCot$Ways.worthOf -/
theorem dX9_worthOf_0 : decode cX9_worthOf 0 = .ok (.aload_n 0, 1) := by decide +kernel
theorem dX9_worthOf_1 : decode cX9_worthOf 1 = .ok (.getfield 15, 3) := by decide +kernel
theorem dX9_worthOf_4 : decode cX9_worthOf 4 = .ok (.aload_n 0, 1) := by decide +kernel
theorem dX9_worthOf_5 : decode cX9_worthOf 5 = .ok (.getfield 9, 3) := by decide +kernel
theorem dX9_worthOf_8 : decode cX9_worthOf 8 = .ok (.iload_n 1, 1) := by decide +kernel
theorem dX9_worthOf_9 : decode cX9_worthOf 9 = .ok (.invokevirtual 42, 3) := by decide +kernel
theorem dX9_worthOf_12 : decode cX9_worthOf 12 = .ok (.iload_n 3, 1) := by decide +kernel
theorem dX9_worthOf_13 : decode cX9_worthOf 13 = .ok (.iload 4, 2) := by decide +kernel
theorem dX9_worthOf_15 : decode cX9_worthOf 15 = .ok (.iload_n 2, 1) := by decide +kernel
theorem dX9_worthOf_16 : decode cX9_worthOf 16 = .ok (.iload 5, 2) := by decide +kernel
theorem dX9_worthOf_18 : decode cX9_worthOf 18 = .ok (.iload 6, 2) := by decide +kernel
theorem dX9_worthOf_20 : decode cX9_worthOf 20 = .ok (.invokevirtual 45, 3) := by decide +kernel
theorem dX9_worthOf_23 : decode cX9_worthOf 23 = .ok (.ireturn, 1) := by decide +kernel
def X9_worthOf (n : Nat) (x1 : Int32) (x2 : Int32) (x3 : Int32) (x4 : Int32) (x5 : Int32) (x6 : Int32) (h : Mm) : Option (Int32 × Mm) := (bp (X1_calmingOf 13 x1 h) (fun r6 => (bd (X4_worthOf n r6 x3 x4 x2 x5 x6 h) (fun r8 h10 => (some (r8, h10))))))
set_option maxRecDepth 100000 in
set_option maxHeartbeats 4000000 in
theorem s_X9_worthOf {X : WX} {o : Mm} {n : Nat} {x1 : Int32} {x2 : Int32} {x3 : Int32} {x4 : Int32} {x5 : Int32} {x6 : Int32} {rv : Int32} {hz : Mm} {h : Mm} (hF : X9_worthOf n x1 x2 x3 x4 x5 x6 h = some (rv, hz)) : Sat X yX9_worthOf cX9_worthOf 7 (some .int) 4 [.ref (xa X 26), .int x1, .int x2, .int x3, .int x4, .int x5, .int x6] true o h (some (.int rv)) hz := by
  unfold X9_worthOf at hF
  refine Sat.mk (own := RX9) rfl (by decide +kernel) (Nat.le_of_ble_eq_true rfl) (fun G => ?_)
  refine V.sub (lv2 := [(0, _), (1, _), (2, _), (3, _), (4, _), (5, _), (6, _)]) [0, 1, 2, 3, 4, 5, 6] rfl ?_
  refine V.aload_n 0 dX9_worthOf_0 rfl rfl ?_
  refine V.getR (v := 16) fl_X9_15 sh_26 rfl fx_26_1 (by decide) dX9_worthOf_1 ?_
  refine V.aload_n 0 dX9_worthOf_4 rfl rfl ?_
  refine V.getR (v := 13) fl_X9_9 sh_26 rfl fx_26_0 (by decide) dX9_worthOf_5 ?_
  refine V.iload_n 1 dX9_worthOf_8 rfl rfl ?_
  obtain ⟨r6, hc7, hF⟩ := bp_s hF
  refine V.callVi mf_X1_calmingOf ml_X9_42 sh_13 (s_X1_calmingOf (Or.inr rfl) hc7) (by decide) rfl rfl (Nat.le_of_ble_eq_true rfl) dX9_worthOf_9 ?_
  refine V.iload_n 3 dX9_worthOf_12 rfl rfl ?_
  refine V.iload 4 dX9_worthOf_13 rfl ?_
  refine V.iload_n 2 dX9_worthOf_15 rfl rfl ?_
  refine V.iload 5 dX9_worthOf_16 rfl ?_
  refine V.iload 6 dX9_worthOf_18 rfl ?_
  obtain ⟨r8, h10, hc9, hF⟩ := bd_s hF
  refine V.callVi mf_X4_worthOf ml_X9_45 sh_16 (s_X4_worthOf hc9) (by decide) rfl rfl (Nat.le_of_ble_eq_true rfl) dX9_worthOf_20 ?_
  cases hF
  exact V.iret dX9_worthOf_23
/-! MonsterCot$Watch.calmBy -/
theorem dX8_calmBy_0 : decode cX8_calmBy 0 = .ok (.aload_n 0, 1) := by decide +kernel
theorem dX8_calmBy_1 : decode cX8_calmBy 1 = .ok (.getfield 25, 3) := by decide +kernel
theorem dX8_calmBy_4 : decode cX8_calmBy 4 = .ok (.iload_n 2, 1) := by decide +kernel
theorem dX8_calmBy_5 : decode cX8_calmBy 5 = .ok (.invokevirtual 38, 3) := by decide +kernel
theorem dX8_calmBy_8 : decode cX8_calmBy 8 = .ok (.iload_n 1, 1) := by decide +kernel
theorem dX8_calmBy_9 : decode cX8_calmBy 9 = .ok (.if_icmp .ne 7, 3) := by decide +kernel
theorem dX8_calmBy_12 : decode cX8_calmBy 12 = .ok (.iconst 3, 1) := by decide +kernel
theorem dX8_calmBy_13 : decode cX8_calmBy 13 = .ok (.goto 4, 3) := by decide +kernel
theorem dX8_calmBy_16 : decode cX8_calmBy 16 = .ok (.iconst 0, 1) := by decide +kernel
theorem dX8_calmBy_17 : decode cX8_calmBy 17 = .ok (.istore 5, 2) := by decide +kernel
theorem dX8_calmBy_19 : decode cX8_calmBy 19 = .ok (.aload_n 0, 1) := by decide +kernel
theorem dX8_calmBy_20 : decode cX8_calmBy 20 = .ok (.getfield 26, 3) := by decide +kernel
theorem dX8_calmBy_23 : decode cX8_calmBy 23 = .ok (.getfield 44, 3) := by decide +kernel
theorem dX8_calmBy_26 : decode cX8_calmBy 26 = .ok (.iload 4, 2) := by decide +kernel
theorem dX8_calmBy_28 : decode cX8_calmBy 28 = .ok (.invokestatic 49, 3) := by decide +kernel
theorem dX8_calmBy_31 : decode cX8_calmBy 31 = .ok (.istore 6, 2) := by decide +kernel
theorem dX8_calmBy_33 : decode cX8_calmBy 33 = .ok (.iconst 0, 1) := by decide +kernel
theorem dX8_calmBy_34 : decode cX8_calmBy 34 = .ok (.istore 7, 2) := by decide +kernel
theorem dX8_calmBy_36 : decode cX8_calmBy 36 = .ok (.iconst 0, 1) := by decide +kernel
theorem dX8_calmBy_37 : decode cX8_calmBy 37 = .ok (.istore 8, 2) := by decide +kernel
theorem dX8_calmBy_39 : decode cX8_calmBy 39 = .ok (.iload 8, 2) := by decide +kernel
theorem dX8_calmBy_41 : decode cX8_calmBy 41 = .ok (.iload_n 3, 1) := by decide +kernel
theorem dX8_calmBy_42 : decode cX8_calmBy 42 = .ok (.if_icmp .ge 45, 3) := by decide +kernel
theorem dX8_calmBy_45 : decode cX8_calmBy 45 = .ok (.aload_n 0, 1) := by decide +kernel
theorem dX8_calmBy_46 : decode cX8_calmBy 46 = .ok (.getfield 15, 3) := by decide +kernel
theorem dX8_calmBy_49 : decode cX8_calmBy 49 = .ok (.iload_n 2, 1) := by decide +kernel
theorem dX8_calmBy_50 : decode cX8_calmBy 50 = .ok (.iload 8, 2) := by decide +kernel
theorem dX8_calmBy_52 : decode cX8_calmBy 52 = .ok (.iload 6, 2) := by decide +kernel
theorem dX8_calmBy_54 : decode cX8_calmBy 54 = .ok (.iconst 0, 1) := by decide +kernel
theorem dX8_calmBy_55 : decode cX8_calmBy 55 = .ok (.iconst 0, 1) := by decide +kernel
theorem dX8_calmBy_56 : decode cX8_calmBy 56 = .ok (.iload 8, 2) := by decide +kernel
theorem dX8_calmBy_58 : decode cX8_calmBy 58 = .ok (.invokevirtual 53, 3) := by decide +kernel
theorem dX8_calmBy_61 : decode cX8_calmBy 61 = .ok (.iload 5, 2) := by decide +kernel
theorem dX8_calmBy_63 : decode cX8_calmBy 63 = .ok (.iadd, 1) := by decide +kernel
theorem dX8_calmBy_64 : decode cX8_calmBy 64 = .ok (.istore 9, 2) := by decide +kernel
theorem dX8_calmBy_66 : decode cX8_calmBy 66 = .ok (.iload 7, 2) := by decide +kernel
theorem dX8_calmBy_68 : decode cX8_calmBy 68 = .ok (.iload 9, 2) := by decide +kernel
theorem dX8_calmBy_70 : decode cX8_calmBy 70 = .ok (.bipush 20, 2) := by decide +kernel
theorem dX8_calmBy_72 : decode cX8_calmBy 72 = .ok (.invokestatic 57, 3) := by decide +kernel
theorem dX8_calmBy_75 : decode cX8_calmBy 75 = .ok (.iadd, 1) := by decide +kernel
theorem dX8_calmBy_76 : decode cX8_calmBy 76 = .ok (.invokestatic 63, 3) := by decide +kernel
theorem dX8_calmBy_79 : decode cX8_calmBy 79 = .ok (.istore 7, 2) := by decide +kernel
theorem dX8_calmBy_81 : decode cX8_calmBy 81 = .ok (.iinc 8 1, 3) := by decide +kernel
theorem dX8_calmBy_84 : decode cX8_calmBy 84 = .ok (.goto (-45), 3) := by decide +kernel
theorem dX8_calmBy_87 : decode cX8_calmBy 87 = .ok (.iload 7, 2) := by decide +kernel
theorem dX8_calmBy_89 : decode cX8_calmBy 89 = .ok (.ireturn, 1) := by decide +kernel
def X8_calmBy_39 (n : Nat) : Nat → Int32 → Int32 → Int32 → Int32 → Int32 → Int32 → Mm → Option (Int32 × Mm)
  | 0, _, _, _, _, _, _, _ => none
  | f + 1, x2, x3, x5, x6, x7, x8, h => (if x3 ≤ x8 then (some (x7, h)) else (bd (X9_worthOf n x2 x8 x6 (0 : Int32) (0 : Int32) x8 h) (fun r27 h29 => (bp (J9_min_7cf53 (r27 + x5) (20 : Int32) h29) (fun r30 => (bp (X11_heldCalm (x7 + r30) h29) (fun r32 => ((X8_calmBy_39 n f) x2 x3 x5 x6 r32 (x8 + (1)) h29))))))))
set_option maxRecDepth 100000 in
set_option maxHeartbeats 4000000 in
theorem v_X8_calmBy_39 {X : WX} {G : GX} {o : Mm} {n : Nat} {rv : Int32} {hz : Mm} : ∀ (f : Nat) (x2 : Int32) (x3 : Int32) (x5 : Int32) (x6 : Int32) (x7 : Int32) (x8 : Int32) (h : Mm), X8_calmBy_39 n f x2 x3 x5 x6 x7 x8 h = some (rv, hz) → V X G RX8 cX8_calmBy 10 (some .int) 5 0 0 (QR X G true o (some (.int rv)) hz) true o 39 [(0, .ref (xa X 249)), (2, .int x2), (3, .int x3), (5, .int x5), (6, .int x6), (7, .int x7), (8, .int x8)] [] h := by
  intro f
  induction f with
  | zero => intro x2 x3 x5 x6 x7 x8 h hF; exact nomatch (show (none : Option (Int32 × Mm)) = some (rv, hz) from hF)
  | succ f ih =>
    intro x2 x3 x5 x6 x7 x8 h hF
    unfold X8_calmBy_39 at hF
    refine V.iload 6 dX8_calmBy_39 rfl ?_
    refine V.iload_n 2 dX8_calmBy_41 rfl rfl ?_
    refine V.icmp_ge (tgt := 87) dX8_calmBy_42 rfl (fun c => ?_) (fun c => ?_)
    · replace hF := ip c hF
      refine V.iload 5 dX8_calmBy_87 rfl ?_
      cases hF
      exact V.iret dX8_calmBy_89
    · replace hF := iq c hF
      refine V.aload_n 0 dX8_calmBy_45 rfl rfl ?_
      refine V.getR (v := 26) fl_X8_15 sh_249 rfl fx_249_0 (by decide) dX8_calmBy_46 ?_
      refine V.iload_n 1 dX8_calmBy_49 rfl rfl ?_
      refine V.iload 6 dX8_calmBy_50 rfl ?_
      refine V.iload 4 dX8_calmBy_52 rfl ?_
      refine V.iconst (v := 0) dX8_calmBy_54 rfl ?_
      refine V.iconst (v := 0) dX8_calmBy_55 rfl ?_
      refine V.iload 6 dX8_calmBy_56 rfl ?_
      obtain ⟨r27, h29, hc28, hF⟩ := bd_s hF
      refine V.callVi mf_X9_worthOf ml_X8_53 sh_26 (s_X9_worthOf hc28) (by decide) rfl rfl (Nat.le_of_ble_eq_true rfl) dX8_calmBy_58 ?_
      refine V.iload 3 dX8_calmBy_61 rfl ?_
      refine V.iadd dX8_calmBy_63 ?_
      refine V.istore [(9, _), (0, _), (2, _), (3, _), (5, _), (6, _), (7, _), (8, _)] dX8_calmBy_64 (by decide) rfl ?_
      refine V.iload 6 dX8_calmBy_66 rfl ?_
      refine V.iload 0 dX8_calmBy_68 rfl ?_
      refine V.bipush (v := 20) dX8_calmBy_70 (by decide) ?_
      obtain ⟨r30, hc31, hF⟩ := bp_s hF
      refine V.callSi mf_J9_min_7cf53 ml_X8_57 (s_J9_min_7cf53 hc31) (by decide) rfl rfl (Nat.le_of_ble_eq_true rfl) dX8_calmBy_72 ?_
      refine V.iadd dX8_calmBy_75 ?_
      obtain ⟨r32, hc33, hF⟩ := bp_s hF
      refine V.callNi mf_X11_heldCalm ml_X8_63 (s_X11_heldCalm hc33) (by decide) rfl rfl (Nat.le_of_ble_eq_true rfl) dX8_calmBy_76 ?_
      refine V.istore [(7, _), (9, _), (0, _), (2, _), (3, _), (5, _), (6, _), (8, _)] dX8_calmBy_79 (by decide) rfl ?_
      refine V.iinc (v := (x8 + (1))) 7 [(8, _), (7, _), (9, _), (0, _), (2, _), (3, _), (5, _), (6, _)] dX8_calmBy_81 rfl rfl (by decide) rfl ?_
      refine V.goto (tgt := 39) dX8_calmBy_84 rfl ?_
      exact V.sub [3, 4, 5, 6, 7, 1, 0] rfl (ih _ _ _ _ _ _ _ hF)
def X8_calmBy_17 (n : Nat) (x2 : Int32) (x3 : Int32) (x4 : Int32) (s0 : Int32) (h : Mm) : Option (Int32 × Mm) := (bp (X11_at 30 x4 h) (fun r34 => (X8_calmBy_39 n n x2 x3 s0 r34 (0 : Int32) (0 : Int32) h)))
set_option maxRecDepth 100000 in
set_option maxHeartbeats 4000000 in
theorem v_X8_calmBy_17 {X : WX} {G : GX} {o : Mm} {n : Nat} {rv : Int32} {hz : Mm} {x2 : Int32} {x3 : Int32} {x4 : Int32} {s0 : Int32} {h : Mm} (hF : X8_calmBy_17 n x2 x3 x4 s0 h = some (rv, hz)) : V X G RX8 cX8_calmBy 10 (some .int) 5 0 0 (QR X G true o (some (.int rv)) hz) true o 17 [(0, .ref (xa X 249)), (2, .int x2), (3, .int x3), (4, .int x4)] [.int s0] h := by
  unfold X8_calmBy_17 at hF
  refine V.istore [(5, _), (0, _), (2, _), (3, _), (4, _)] dX8_calmBy_17 (by decide) rfl ?_
  refine V.aload_n 1 dX8_calmBy_19 rfl rfl ?_
  refine V.getR (v := 27) fl_X8_26 sh_249 rfl fx_249_2 (by decide) dX8_calmBy_20 ?_
  refine V.getR (v := 30) fl_X8_44 sh_27 rfl fx_27_2 (by decide) dX8_calmBy_23 ?_
  refine V.iload 4 dX8_calmBy_26 rfl ?_
  obtain ⟨r34, hc35, hF⟩ := bp_s hF
  refine V.callNi mf_X11_at ml_X8_49 (s_X11_at (Or.inl io_30) hc35) (by decide) rfl rfl (Nat.le_of_ble_eq_true rfl) dX8_calmBy_28 ?_
  refine V.istore [(6, _), (5, _), (0, _), (2, _), (3, _), (4, _)] dX8_calmBy_31 (by decide) rfl ?_
  refine V.iconst (v := 0) dX8_calmBy_33 rfl ?_
  refine V.istore [(7, _), (6, _), (5, _), (0, _), (2, _), (3, _), (4, _)] dX8_calmBy_34 (by decide) rfl ?_
  refine V.iconst (v := 0) dX8_calmBy_36 rfl ?_
  refine V.istore [(8, _), (7, _), (6, _), (5, _), (0, _), (2, _), (3, _), (4, _)] dX8_calmBy_37 (by decide) rfl ?_
  exact V.sub [4, 5, 6, 3, 2, 1, 0] rfl (v_X8_calmBy_39 n _ _ _ _ _ _ _ hF)
def X8_calmBy (n : Nat) (x1 : Int32) (x2 : Int32) (x3 : Int32) (x4 : Int32) (h : Mm) : Option (Int32 × Mm) := (bp (X1_kindOf 13 x2 h) (fun r36 => (if r36 = x1 then (X8_calmBy_17 n x2 x3 x4 (3 : Int32) h) else (X8_calmBy_17 n x2 x3 x4 (0 : Int32) h))))
set_option maxRecDepth 100000 in
set_option maxHeartbeats 4000000 in
theorem s_X8_calmBy {X : WX} {o : Mm} {n : Nat} {x1 : Int32} {x2 : Int32} {x3 : Int32} {x4 : Int32} {rv : Int32} {hz : Mm} {h : Mm} (hF : X8_calmBy n x1 x2 x3 x4 h = some (rv, hz)) : Sat X yX8_calmBy cX8_calmBy 10 (some .int) 5 [.ref (xa X 249), .int x1, .int x2, .int x3, .int x4] true o h (some (.int rv)) hz := by
  unfold X8_calmBy at hF
  refine Sat.mk (own := RX8) rfl (by decide +kernel) (Nat.le_of_ble_eq_true rfl) (fun G => ?_)
  refine V.sub (lv2 := [(0, _), (1, _), (2, _), (3, _), (4, _)]) [0, 1, 2, 3, 4] rfl ?_
  refine V.aload_n 0 dX8_calmBy_0 rfl rfl ?_
  refine V.getR (v := 13) fl_X8_25 sh_249 rfl fx_249_1 (by decide) dX8_calmBy_1 ?_
  refine V.iload_n 2 dX8_calmBy_4 rfl rfl ?_
  obtain ⟨r36, hc37, hF⟩ := bp_s hF
  refine V.callVi mf_X1_kindOf ml_X8_38 sh_13 (s_X1_kindOf (Or.inr rfl) hc37) (by decide) rfl rfl (Nat.le_of_ble_eq_true rfl) dX8_calmBy_5 ?_
  refine V.iload_n 1 dX8_calmBy_8 rfl rfl ?_
  refine V.icmp_ne (tgt := 16) dX8_calmBy_9 rfl (fun c => ?_) (fun c => ?_)
  · replace hF := iq c hF
    refine V.iconst (v := 0) dX8_calmBy_16 rfl ?_
    exact V.sub [0, 2, 3, 4] rfl (v_X8_calmBy_17 hF)
  · replace hF := ip c hF
    refine V.iconst (v := 3) dX8_calmBy_12 rfl ?_
    refine V.goto (tgt := 17) dX8_calmBy_13 rfl ?_
    exact V.sub [0, 2, 3, 4] rfl (v_X8_calmBy_17 hF)
/-! MonsterCot$Watch.fits -/
theorem dX8_fits_0 : decode cX8_fits 0 = .ok (.iconst 0, 1) := by decide +kernel
theorem dX8_fits_1 : decode cX8_fits 1 = .ok (.istore_n 2, 1) := by decide +kernel
theorem dX8_fits_2 : decode cX8_fits 2 = .ok (.iload_n 2, 1) := by decide +kernel
theorem dX8_fits_3 : decode cX8_fits 3 = .ok (.aload_n 0, 1) := by decide +kernel
theorem dX8_fits_4 : decode cX8_fits 4 = .ok (.getfield 30, 3) := by decide +kernel
theorem dX8_fits_7 : decode cX8_fits 7 = .ok (.if_icmp .ge 91, 3) := by decide +kernel
theorem dX8_fits_10 : decode cX8_fits 10 = .ok (.iload_n 2, 1) := by decide +kernel
theorem dX8_fits_11 : decode cX8_fits 11 = .ok (.iconst 5, 1) := by decide +kernel
theorem dX8_fits_12 : decode cX8_fits 12 = .ok (.imul, 1) := by decide +kernel
theorem dX8_fits_13 : decode cX8_fits 13 = .ok (.istore_n 3, 1) := by decide +kernel
theorem dX8_fits_14 : decode cX8_fits 14 = .ok (.aload_n 0, 1) := by decide +kernel
theorem dX8_fits_15 : decode cX8_fits 15 = .ok (.iload_n 1, 1) := by decide +kernel
theorem dX8_fits_16 : decode cX8_fits 16 = .ok (.aload_n 0, 1) := by decide +kernel
theorem dX8_fits_17 : decode cX8_fits 17 = .ok (.getfield 11, 3) := by decide +kernel
theorem dX8_fits_20 : decode cX8_fits 20 = .ok (.iload_n 3, 1) := by decide +kernel
theorem dX8_fits_21 : decode cX8_fits 21 = .ok (.invokestatic 49, 3) := by decide +kernel
theorem dX8_fits_24 : decode cX8_fits 24 = .ok (.aload_n 0, 1) := by decide +kernel
theorem dX8_fits_25 : decode cX8_fits 25 = .ok (.getfield 11, 3) := by decide +kernel
theorem dX8_fits_28 : decode cX8_fits 28 = .ok (.iload_n 3, 1) := by decide +kernel
theorem dX8_fits_29 : decode cX8_fits 29 = .ok (.iconst 1, 1) := by decide +kernel
theorem dX8_fits_30 : decode cX8_fits 30 = .ok (.iadd, 1) := by decide +kernel
theorem dX8_fits_31 : decode cX8_fits 31 = .ok (.invokestatic 49, 3) := by decide +kernel
theorem dX8_fits_34 : decode cX8_fits 34 = .ok (.aload_n 0, 1) := by decide +kernel
theorem dX8_fits_35 : decode cX8_fits 35 = .ok (.getfield 11, 3) := by decide +kernel
theorem dX8_fits_38 : decode cX8_fits 38 = .ok (.iload_n 3, 1) := by decide +kernel
theorem dX8_fits_39 : decode cX8_fits 39 = .ok (.iconst 2, 1) := by decide +kernel
theorem dX8_fits_40 : decode cX8_fits 40 = .ok (.iadd, 1) := by decide +kernel
theorem dX8_fits_41 : decode cX8_fits 41 = .ok (.invokestatic 49, 3) := by decide +kernel
theorem dX8_fits_44 : decode cX8_fits 44 = .ok (.invokevirtual 66, 3) := by decide +kernel
theorem dX8_fits_47 : decode cX8_fits 47 = .ok (.istore 4, 2) := by decide +kernel
theorem dX8_fits_49 : decode cX8_fits 49 = .ok (.iload 4, 2) := by decide +kernel
theorem dX8_fits_51 : decode cX8_fits 51 = .ok (.aload_n 0, 1) := by decide +kernel
theorem dX8_fits_52 : decode cX8_fits 52 = .ok (.getfield 11, 3) := by decide +kernel
theorem dX8_fits_55 : decode cX8_fits 55 = .ok (.iload_n 3, 1) := by decide +kernel
theorem dX8_fits_56 : decode cX8_fits 56 = .ok (.iconst 3, 1) := by decide +kernel
theorem dX8_fits_57 : decode cX8_fits 57 = .ok (.iadd, 1) := by decide +kernel
theorem dX8_fits_58 : decode cX8_fits 58 = .ok (.invokestatic 49, 3) := by decide +kernel
theorem dX8_fits_61 : decode cX8_fits 61 = .ok (.if_icmp .lt 7, 3) := by decide +kernel
theorem dX8_fits_64 : decode cX8_fits 64 = .ok (.iconst 1, 1) := by decide +kernel
theorem dX8_fits_65 : decode cX8_fits 65 = .ok (.goto 4, 3) := by decide +kernel
theorem dX8_fits_68 : decode cX8_fits 68 = .ok (.iconst 0, 1) := by decide +kernel
theorem dX8_fits_69 : decode cX8_fits 69 = .ok (.aload_n 0, 1) := by decide +kernel
theorem dX8_fits_70 : decode cX8_fits 70 = .ok (.getfield 11, 3) := by decide +kernel
theorem dX8_fits_73 : decode cX8_fits 73 = .ok (.iload_n 3, 1) := by decide +kernel
theorem dX8_fits_74 : decode cX8_fits 74 = .ok (.iconst 4, 1) := by decide +kernel
theorem dX8_fits_75 : decode cX8_fits 75 = .ok (.iadd, 1) := by decide +kernel
theorem dX8_fits_76 : decode cX8_fits 76 = .ok (.invokestatic 49, 3) := by decide +kernel
theorem dX8_fits_79 : decode cX8_fits 79 = .ok (.ifCond .eq 7, 3) := by decide +kernel
theorem dX8_fits_82 : decode cX8_fits 82 = .ok (.iconst 1, 1) := by decide +kernel
theorem dX8_fits_83 : decode cX8_fits 83 = .ok (.goto 4, 3) := by decide +kernel
theorem dX8_fits_86 : decode cX8_fits 86 = .ok (.iconst 0, 1) := by decide +kernel
theorem dX8_fits_87 : decode cX8_fits 87 = .ok (.if_icmp .eq 5, 3) := by decide +kernel
theorem dX8_fits_90 : decode cX8_fits 90 = .ok (.iconst 0, 1) := by decide +kernel
theorem dX8_fits_91 : decode cX8_fits 91 = .ok (.ireturn, 1) := by decide +kernel
theorem dX8_fits_92 : decode cX8_fits 92 = .ok (.iinc 2 1, 3) := by decide +kernel
theorem dX8_fits_95 : decode cX8_fits 95 = .ok (.goto (-93), 3) := by decide +kernel
theorem dX8_fits_98 : decode cX8_fits 98 = .ok (.iconst 1, 1) := by decide +kernel
theorem dX8_fits_99 : decode cX8_fits 99 = .ok (.ireturn, 1) := by decide +kernel
def X8_fits_87 (n : Nat) (K2 : Int32 → Int32 → Mm → Option (Bool × Mm)) (x1 : Int32) (x2 : Int32) (s0 : Bool) (s1 : Bool) (h : Mm) : Option (Bool × Mm) := (if (b2i s0) = (b2i s1) then (K2 x1 (x2 + (1)) h) else (some (false, h)))
set_option maxRecDepth 100000 in
set_option maxHeartbeats 4000000 in
theorem v_X8_fits_87 {X : WX} {G : GX} {o : Mm} {n : Nat} {K2 : Int32 → Int32 → Mm → Option (Bool × Mm)} {rv : Bool} {hz : Mm} (hK2 : ∀ (x1 : Int32) (x2 : Int32) (h : Mm), K2 x1 x2 h = some (rv, hz) → V X G RX8 cX8_fits 5 (some .boolean) 6 0 0 (QR X G true o (some (.int (b2i rv))) hz) true o 2 [(0, .ref (xa X 249)), (1, .int x1), (2, .int x2)] [] h) {x1 : Int32} {x2 : Int32} {s0 : Bool} {s1 : Bool} {h : Mm} (hF : X8_fits_87 n K2 x1 x2 s0 s1 h = some (rv, hz)) : V X G RX8 cX8_fits 5 (some .boolean) 6 0 0 (QR X G true o (some (.int (b2i rv))) hz) true o 87 [(0, .ref (xa X 249)), (1, .int x1), (2, .int x2)] [.int (b2i s1), .int (b2i s0)] h := by
  unfold X8_fits_87 at hF
  refine V.icmp_eq (tgt := 92) dX8_fits_87 rfl (fun c => ?_) (fun c => ?_)
  · replace hF := ip c hF
    refine V.iinc (v := (x2 + (1))) 2 [(2, _), (0, _), (1, _)] dX8_fits_92 rfl rfl (by decide) rfl ?_
    refine V.goto (tgt := 2) dX8_fits_95 rfl ?_
    exact V.sub [1, 2, 0] rfl (hK2 _ _ _ hF)
  · replace hF := iq c hF
    refine V.iconst (v := 0) dX8_fits_90 rfl ?_
    cases hF
    exact V.bret dX8_fits_91
def X8_fits_69 (n : Nat) (K2 : Int32 → Int32 → Mm → Option (Bool × Mm)) (x1 : Int32) (x2 : Int32) (x3 : Int32) (s0 : Bool) (h : Mm) : Option (Bool × Mm) := (bp (X11_at 250 (x3 + (4 : Int32)) h) (fun r64 => (if r64 = 0 then (X8_fits_87 n K2 x1 x2 s0 false h) else (X8_fits_87 n K2 x1 x2 s0 true h))))
set_option maxRecDepth 100000 in
set_option maxHeartbeats 4000000 in
theorem v_X8_fits_69 {X : WX} {G : GX} {o : Mm} {n : Nat} {K2 : Int32 → Int32 → Mm → Option (Bool × Mm)} {rv : Bool} {hz : Mm} (hK2 : ∀ (x1 : Int32) (x2 : Int32) (h : Mm), K2 x1 x2 h = some (rv, hz) → V X G RX8 cX8_fits 5 (some .boolean) 6 0 0 (QR X G true o (some (.int (b2i rv))) hz) true o 2 [(0, .ref (xa X 249)), (1, .int x1), (2, .int x2)] [] h) {x1 : Int32} {x2 : Int32} {x3 : Int32} {s0 : Bool} {h : Mm} (hF : X8_fits_69 n K2 x1 x2 x3 s0 h = some (rv, hz)) : V X G RX8 cX8_fits 5 (some .boolean) 6 0 0 (QR X G true o (some (.int (b2i rv))) hz) true o 69 [(0, .ref (xa X 249)), (1, .int x1), (2, .int x2), (3, .int x3)] [.int (b2i s0)] h := by
  unfold X8_fits_69 at hF
  refine V.aload_n 0 dX8_fits_69 rfl rfl ?_
  refine V.getR (v := 250) fl_X8_11 sh_249 rfl fx_249_3 (by decide) dX8_fits_70 ?_
  refine V.iload_n 3 dX8_fits_73 rfl rfl ?_
  refine V.iconst (v := 4) dX8_fits_74 rfl ?_
  refine V.iadd dX8_fits_75 ?_
  obtain ⟨r64, hc65, hF⟩ := bp_s hF
  refine V.callNi mf_X11_at ml_X8_49 (s_X11_at (Or.inl io_250) hc65) (by decide) rfl rfl (Nat.le_of_ble_eq_true rfl) dX8_fits_76 ?_
  refine V.if_eq (tgt := 86) dX8_fits_79 rfl (fun c => ?_) (fun c => ?_)
  · replace hF := ip c hF
    refine V.iconst (v := 0) dX8_fits_86 rfl ?_
    exact V.sub [0, 1, 2] rfl (v_X8_fits_87 hK2 hF)
  · replace hF := iq c hF
    refine V.iconst (v := 1) dX8_fits_82 rfl ?_
    refine V.goto (tgt := 87) dX8_fits_83 rfl ?_
    exact V.sub [0, 1, 2] rfl (v_X8_fits_87 hK2 hF)
def X8_fits_2 (n : Nat) : Nat → Int32 → Int32 → Mm → Option (Bool × Mm)
  | 0, _, _, _ => none
  | f + 1, x1, x2, h => (if (h.1 249 4) ≤ x2 then (some (true, h)) else (bp (X11_at 250 (x2 * (5 : Int32)) h) (fun r66 => (bp (X11_at 250 ((x2 * (5 : Int32)) + (1 : Int32)) h) (fun r68 => (bp (X11_at 250 ((x2 * (5 : Int32)) + (2 : Int32)) h) (fun r70 => (bd (X8_calmBy n x1 r66 r68 r70 h) (fun r72 h74 => (bp (X11_at 250 ((x2 * (5 : Int32)) + (3 : Int32)) h74) (fun r75 => (if r72 < r75 then (X8_fits_69 n (X8_fits_2 n f) x1 x2 (x2 * (5 : Int32)) false h74) else (X8_fits_69 n (X8_fits_2 n f) x1 x2 (x2 * (5 : Int32)) true h74)))))))))))))
set_option maxRecDepth 100000 in
set_option maxHeartbeats 4000000 in
theorem v_X8_fits_2 {X : WX} {G : GX} {o : Mm} {n : Nat} {rv : Bool} {hz : Mm} : ∀ (f : Nat) (x1 : Int32) (x2 : Int32) (h : Mm), X8_fits_2 n f x1 x2 h = some (rv, hz) → V X G RX8 cX8_fits 5 (some .boolean) 6 0 0 (QR X G true o (some (.int (b2i rv))) hz) true o 2 [(0, .ref (xa X 249)), (1, .int x1), (2, .int x2)] [] h := by
  intro f
  induction f with
  | zero => intro x1 x2 h hF; exact nomatch (show (none : Option (Bool × Mm)) = some (rv, hz) from hF)
  | succ f ih =>
    intro x1 x2 h hF
    unfold X8_fits_2 at hF
    refine V.iload_n 2 dX8_fits_2 rfl rfl ?_
    refine V.aload_n 0 dX8_fits_3 rfl rfl ?_
    refine V.getI fl_X8_30 sh_249 rfl km_249 dX8_fits_4 ?_
    refine V.icmp_ge (tgt := 98) dX8_fits_7 rfl (fun c => ?_) (fun c => ?_)
    · replace hF := ip c hF
      refine V.iconst (v := 1) dX8_fits_98 rfl ?_
      cases hF
      exact V.bret dX8_fits_99
    · replace hF := iq c hF
      refine V.iload_n 2 dX8_fits_10 rfl rfl ?_
      refine V.iconst (v := 5) dX8_fits_11 rfl ?_
      refine V.imul dX8_fits_12 ?_
      refine V.istore_n [(3, _), (0, _), (1, _), (2, _)] dX8_fits_13 rfl (by decide) rfl ?_
      refine V.aload_n 1 dX8_fits_14 rfl rfl ?_
      refine V.iload_n 2 dX8_fits_15 rfl rfl ?_
      refine V.aload_n 1 dX8_fits_16 rfl rfl ?_
      refine V.getR (v := 250) fl_X8_11 sh_249 rfl fx_249_3 (by decide) dX8_fits_17 ?_
      refine V.iload_n 0 dX8_fits_20 rfl rfl ?_
      obtain ⟨r66, hc67, hF⟩ := bp_s hF
      refine V.callNi mf_X11_at ml_X8_49 (s_X11_at (Or.inl io_250) hc67) (by decide) rfl rfl (Nat.le_of_ble_eq_true rfl) dX8_fits_21 ?_
      refine V.aload_n 1 dX8_fits_24 rfl rfl ?_
      refine V.getR (v := 250) fl_X8_11 sh_249 rfl fx_249_3 (by decide) dX8_fits_25 ?_
      refine V.iload_n 0 dX8_fits_28 rfl rfl ?_
      refine V.iconst (v := 1) dX8_fits_29 rfl ?_
      refine V.iadd dX8_fits_30 ?_
      obtain ⟨r68, hc69, hF⟩ := bp_s hF
      refine V.callNi mf_X11_at ml_X8_49 (s_X11_at (Or.inl io_250) hc69) (by decide) rfl rfl (Nat.le_of_ble_eq_true rfl) dX8_fits_31 ?_
      refine V.aload_n 1 dX8_fits_34 rfl rfl ?_
      refine V.getR (v := 250) fl_X8_11 sh_249 rfl fx_249_3 (by decide) dX8_fits_35 ?_
      refine V.iload_n 0 dX8_fits_38 rfl rfl ?_
      refine V.iconst (v := 2) dX8_fits_39 rfl ?_
      refine V.iadd dX8_fits_40 ?_
      obtain ⟨r70, hc71, hF⟩ := bp_s hF
      refine V.callNi mf_X11_at ml_X8_49 (s_X11_at (Or.inl io_250) hc71) (by decide) rfl rfl (Nat.le_of_ble_eq_true rfl) dX8_fits_41 ?_
      obtain ⟨r72, h74, hc73, hF⟩ := bd_s hF
      refine V.callVi mf_X8_calmBy ml_X8_66 sh_249 (s_X8_calmBy hc73) (by decide) rfl rfl (Nat.le_of_ble_eq_true rfl) dX8_fits_44 ?_
      refine V.istore [(4, _), (3, _), (0, _), (1, _), (2, _)] dX8_fits_47 (by decide) rfl ?_
      refine V.iload 0 dX8_fits_49 rfl ?_
      refine V.aload_n 2 dX8_fits_51 rfl rfl ?_
      refine V.getR (v := 250) fl_X8_11 sh_249 rfl fx_249_3 (by decide) dX8_fits_52 ?_
      refine V.iload_n 1 dX8_fits_55 rfl rfl ?_
      refine V.iconst (v := 3) dX8_fits_56 rfl ?_
      refine V.iadd dX8_fits_57 ?_
      obtain ⟨r75, hc76, hF⟩ := bp_s hF
      refine V.callNi mf_X11_at ml_X8_49 (s_X11_at (Or.inl io_250) hc76) (by decide) rfl rfl (Nat.le_of_ble_eq_true rfl) dX8_fits_58 ?_
      refine V.icmp_lt (tgt := 68) dX8_fits_61 rfl (fun c => ?_) (fun c => ?_)
      · replace hF := ip c hF
        refine V.iconst (v := 0) dX8_fits_68 rfl ?_
        exact V.sub [2, 3, 4, 1] rfl (v_X8_fits_69 ih hF)
      · replace hF := iq c hF
        refine V.iconst (v := 1) dX8_fits_64 rfl ?_
        refine V.goto (tgt := 69) dX8_fits_65 rfl ?_
        exact V.sub [2, 3, 4, 1] rfl (v_X8_fits_69 ih hF)
def X8_fits (n : Nat) (x1 : Int32) (h : Mm) : Option (Bool × Mm) := (X8_fits_2 n n x1 (0 : Int32) h)
set_option maxRecDepth 100000 in
set_option maxHeartbeats 4000000 in
theorem s_X8_fits {X : WX} {o : Mm} {n : Nat} {x1 : Int32} {rv : Bool} {hz : Mm} {h : Mm} (hF : X8_fits n x1 h = some (rv, hz)) : Sat X yX8_fits cX8_fits 5 (some .boolean) 6 [.ref (xa X 249), .int x1] true o h (some (.int (b2i rv))) hz := by
  unfold X8_fits at hF
  refine Sat.mk (own := RX8) rfl (by decide +kernel) (Nat.le_of_ble_eq_true rfl) (fun G => ?_)
  refine V.sub (lv2 := [(0, _), (1, _)]) [0, 1] rfl ?_
  refine V.iconst (v := 0) dX8_fits_0 rfl ?_
  refine V.istore_n [(2, _), (0, _), (1, _)] dX8_fits_1 rfl (by decide) rfl ?_
  exact V.sub [1, 2, 0] rfl (v_X8_fits_2 n _ _ _ hF)
/-! MonsterCot$Watch.liked -/
theorem dX8_liked_0 : decode cX8_liked 0 = .ok (.iconst 0, 1) := by decide +kernel
theorem dX8_liked_1 : decode cX8_liked 1 = .ok (.istore_n 2, 1) := by decide +kernel
theorem dX8_liked_2 : decode cX8_liked 2 = .ok (.getstatic 70, 3) := by decide +kernel
theorem dX8_liked_5 : decode cX8_liked 5 = .ok (.astore_n 3, 1) := by decide +kernel
theorem dX8_liked_6 : decode cX8_liked 6 = .ok (.aload_n 3, 1) := by decide +kernel
theorem dX8_liked_7 : decode cX8_liked 7 = .ok (.arraylength, 1) := by decide +kernel
theorem dX8_liked_8 : decode cX8_liked 8 = .ok (.istore 4, 2) := by decide +kernel
theorem dX8_liked_10 : decode cX8_liked 10 = .ok (.iconst 0, 1) := by decide +kernel
theorem dX8_liked_11 : decode cX8_liked 11 = .ok (.istore 5, 2) := by decide +kernel
theorem dX8_liked_13 : decode cX8_liked 13 = .ok (.iload 5, 2) := by decide +kernel
theorem dX8_liked_15 : decode cX8_liked 15 = .ok (.iload 4, 2) := by decide +kernel
theorem dX8_liked_17 : decode cX8_liked 17 = .ok (.if_icmp .ge 35, 3) := by decide +kernel
theorem dX8_liked_20 : decode cX8_liked 20 = .ok (.aload_n 3, 1) := by decide +kernel
theorem dX8_liked_21 : decode cX8_liked 21 = .ok (.iload 5, 2) := by decide +kernel
theorem dX8_liked_23 : decode cX8_liked 23 = .ok (.iaload, 1) := by decide +kernel
theorem dX8_liked_24 : decode cX8_liked 24 = .ok (.istore 6, 2) := by decide +kernel
theorem dX8_liked_26 : decode cX8_liked 26 = .ok (.aload_n 0, 1) := by decide +kernel
theorem dX8_liked_27 : decode cX8_liked 27 = .ok (.iload 6, 2) := by decide +kernel
theorem dX8_liked_29 : decode cX8_liked 29 = .ok (.invokevirtual 73, 3) := by decide +kernel
theorem dX8_liked_32 : decode cX8_liked 32 = .ok (.ifCond .eq 14, 3) := by decide +kernel
theorem dX8_liked_35 : decode cX8_liked 35 = .ok (.iload_n 2, 1) := by decide +kernel
theorem dX8_liked_36 : decode cX8_liked 36 = .ok (.iload_n 1, 1) := by decide +kernel
theorem dX8_liked_37 : decode cX8_liked 37 = .ok (.if_icmp .ne 6, 3) := by decide +kernel
theorem dX8_liked_40 : decode cX8_liked 40 = .ok (.iload 6, 2) := by decide +kernel
theorem dX8_liked_42 : decode cX8_liked 42 = .ok (.ireturn, 1) := by decide +kernel
theorem dX8_liked_43 : decode cX8_liked 43 = .ok (.iinc 2 1, 3) := by decide +kernel
theorem dX8_liked_46 : decode cX8_liked 46 = .ok (.iinc 5 1, 3) := by decide +kernel
theorem dX8_liked_49 : decode cX8_liked 49 = .ok (.goto (-36), 3) := by decide +kernel
theorem dX8_liked_52 : decode cX8_liked 52 = .ok (.iload_n 1, 1) := by decide +kernel
theorem dX8_liked_53 : decode cX8_liked 53 = .ok (.iconst (-1), 1) := by decide +kernel
theorem dX8_liked_54 : decode cX8_liked 54 = .ok (.if_icmp .ne 7, 3) := by decide +kernel
theorem dX8_liked_57 : decode cX8_liked 57 = .ok (.iload_n 2, 1) := by decide +kernel
theorem dX8_liked_58 : decode cX8_liked 58 = .ok (.goto 4, 3) := by decide +kernel
theorem dX8_liked_61 : decode cX8_liked 61 = .ok (.iconst (-1), 1) := by decide +kernel
theorem dX8_liked_62 : decode cX8_liked 62 = .ok (.ireturn, 1) := by decide +kernel
def X8_liked_46 (n : Nat) (K13 : Int32 → Int32 → Int32 → Int32 → Mm → Option (Int32 × Mm)) (x1 : Int32) (x2 : Int32) (x4 : Int32) (x5 : Int32) (h : Mm) : Option (Int32 × Mm) := (K13 x1 x2 x4 (x5 + (1)) h)
set_option maxRecDepth 100000 in
set_option maxHeartbeats 4000000 in
theorem v_X8_liked_46 {X : WX} {G : GX} {o : Mm} {n : Nat} {K13 : Int32 → Int32 → Int32 → Int32 → Mm → Option (Int32 × Mm)} {rv : Int32} {hz : Mm} (hK13 : ∀ (x1 : Int32) (x2 : Int32) (x4 : Int32) (x5 : Int32) (h : Mm), K13 x1 x2 x4 x5 h = some (rv, hz) → V X G RX8 cX8_liked 7 (some .int) 7 0 0 (QR X G true o (some (.int rv)) hz) true o 13 [(0, .ref (xa X 249)), (1, .int x1), (2, .int x2), (3, .ref (xa X 1007)), (4, .int x4), (5, .int x5)] [] h) {x1 : Int32} {x2 : Int32} {x4 : Int32} {x5 : Int32} {h : Mm} (hF : X8_liked_46 n K13 x1 x2 x4 x5 h = some (rv, hz)) : V X G RX8 cX8_liked 7 (some .int) 7 0 0 (QR X G true o (some (.int rv)) hz) true o 46 [(0, .ref (xa X 249)), (1, .int x1), (2, .int x2), (3, .ref (xa X 1007)), (4, .int x4), (5, .int x5)] [] h := by
  unfold X8_liked_46 at hF
  refine V.iinc (v := (x5 + (1))) 5 [(5, _), (0, _), (1, _), (2, _), (3, _), (4, _)] dX8_liked_46 rfl rfl (by decide) rfl ?_
  refine V.goto (tgt := 13) dX8_liked_49 rfl ?_
  exact V.sub [1, 2, 3, 4, 5, 0] rfl (hK13 _ _ _ _ _ hF)
def X8_liked_13 (n : Nat) : Nat → Int32 → Int32 → Int32 → Int32 → Mm → Option (Int32 × Mm)
  | 0, _, _, _, _, _ => none
  | f + 1, x1, x2, x4, x5, h => (if x4 ≤ x5 then (if x1 = (-1 : Int32) then (some (x2, h)) else (some ((-1 : Int32), h))) else (if inB x5 (aln 1007) then (bd (X8_fits n (rdA h 1007 x5.toNatClampNeg) h) (fun r13 h15 => (if r13 = true then (if x2 = x1 then (some ((rdA h 1007 x5.toNatClampNeg), h15)) else (X8_liked_46 n (X8_liked_13 n f) x1 (x2 + (1)) x4 x5 h15)) else (X8_liked_46 n (X8_liked_13 n f) x1 x2 x4 x5 h15)))) else none))
set_option maxRecDepth 100000 in
set_option maxHeartbeats 4000000 in
theorem v_X8_liked_13 {X : WX} {G : GX} {o : Mm} {n : Nat} {rv : Int32} {hz : Mm} : ∀ (f : Nat) (x1 : Int32) (x2 : Int32) (x4 : Int32) (x5 : Int32) (h : Mm), X8_liked_13 n f x1 x2 x4 x5 h = some (rv, hz) → V X G RX8 cX8_liked 7 (some .int) 7 0 0 (QR X G true o (some (.int rv)) hz) true o 13 [(0, .ref (xa X 249)), (1, .int x1), (2, .int x2), (3, .ref (xa X 1007)), (4, .int x4), (5, .int x5)] [] h := by
  intro f
  induction f with
  | zero => intro x1 x2 x4 x5 h hF; exact nomatch (show (none : Option (Int32 × Mm)) = some (rv, hz) from hF)
  | succ f ih =>
    intro x1 x2 x4 x5 h hF
    unfold X8_liked_13 at hF
    refine V.iload 5 dX8_liked_13 rfl ?_
    refine V.iload 4 dX8_liked_15 rfl ?_
    refine V.icmp_ge (tgt := 52) dX8_liked_17 rfl (fun c => ?_) (fun c => ?_)
    · replace hF := ip c hF
      refine V.iload_n 1 dX8_liked_52 rfl rfl ?_
      refine V.iconst (v := -1) dX8_liked_53 rfl ?_
      refine V.icmp_ne (tgt := 61) dX8_liked_54 rfl (fun c => ?_) (fun c => ?_)
      · replace hF := iq c hF
        refine V.iconst (v := -1) dX8_liked_61 rfl ?_
        cases hF
        exact V.iret dX8_liked_62
      · replace hF := ip c hF
        refine V.iload_n 2 dX8_liked_57 rfl rfl ?_
        refine V.goto (tgt := 62) dX8_liked_58 rfl ?_
        cases hF
        exact V.iret dX8_liked_62
    · replace hF := iq c hF
      refine V.aload_n 3 dX8_liked_20 rfl rfl ?_
      refine V.iload 5 dX8_liked_21 rfl ?_
      obtain ⟨hk, hF⟩ := ck hF
      refine V.ialdA (Or.inr ⟨by decide, by decide⟩) hk dX8_liked_23 ?_
      refine V.istore [(6, _), (0, _), (1, _), (2, _), (3, _), (4, _), (5, _)] dX8_liked_24 (by decide) rfl ?_
      refine V.aload_n 1 dX8_liked_26 rfl rfl ?_
      refine V.iload 0 dX8_liked_27 rfl ?_
      obtain ⟨r13, h15, hc14, hF⟩ := bd_s hF
      refine V.callVi mf_X8_fits ml_X8_73 sh_249 (s_X8_fits hc14) (by decide) rfl rfl (Nat.le_of_ble_eq_true rfl) dX8_liked_29 ?_
      refine V.ifz_eq (tgt := 46) dX8_liked_32 rfl (fun c => ?_) (fun c => ?_)
      · replace hF := iq c hF
        exact V.sub [1, 2, 3, 4, 5, 6] rfl (v_X8_liked_46 ih hF)
      · replace hF := ip c hF
        refine V.iload_n 3 dX8_liked_35 rfl rfl ?_
        refine V.iload_n 2 dX8_liked_36 rfl rfl ?_
        refine V.icmp_ne (tgt := 43) dX8_liked_37 rfl (fun c => ?_) (fun c => ?_)
        · replace hF := iq c hF
          refine V.iinc (v := (x2 + (1))) 3 [(2, _), (6, _), (0, _), (1, _), (3, _), (4, _), (5, _)] dX8_liked_43 rfl rfl (by decide) rfl ?_
          exact V.sub [2, 3, 0, 4, 5, 6] rfl (v_X8_liked_46 ih hF)
        · replace hF := ip c hF
          refine V.iload 0 dX8_liked_40 rfl ?_
          cases hF
          exact V.iret dX8_liked_42
def X8_liked (n : Nat) (x1 : Int32) (h : Mm) : Option (Int32 × Mm) := (X8_liked_13 n n x1 (0 : Int32) (Int32.ofNat (aln 1007)) (0 : Int32) h)
set_option maxRecDepth 100000 in
set_option maxHeartbeats 4000000 in
theorem s_X8_liked {X : WX} {o : Mm} {n : Nat} {x1 : Int32} {rv : Int32} {hz : Mm} {h : Mm} (hF : X8_liked n x1 h = some (rv, hz)) : Sat X yX8_liked cX8_liked 7 (some .int) 7 [.ref (xa X 249), .int x1] true o h (some (.int rv)) hz := by
  unfold X8_liked at hF
  refine Sat.mk (own := RX8) rfl (by decide +kernel) (Nat.le_of_ble_eq_true rfl) (fun G => ?_)
  refine V.sub (lv2 := [(0, _), (1, _)]) [0, 1] rfl ?_
  refine V.iconst (v := 0) dX8_liked_0 rfl ?_
  refine V.istore_n [(2, _), (0, _), (1, _)] dX8_liked_1 rfl (by decide) rfl ?_
  refine V.gets zm_1007 sl_X8_70 dX8_liked_2 ?_
  refine V.astore_n [(3, _), (2, _), (0, _), (1, _)] dX8_liked_5 rfl (by decide) rfl ?_
  refine V.aload_n 0 dX8_liked_6 rfl rfl ?_
  refine V.alenA (Or.inr ⟨by decide, by decide⟩) dX8_liked_7 ?_
  refine V.istore [(4, _), (3, _), (2, _), (0, _), (1, _)] dX8_liked_8 (by decide) rfl ?_
  refine V.iconst (v := 0) dX8_liked_10 rfl ?_
  refine V.istore [(5, _), (4, _), (3, _), (2, _), (0, _), (1, _)] dX8_liked_11 (by decide) rfl ?_
  exact V.sub [4, 5, 3, 2, 1, 0] rfl (v_X8_liked_13 n _ _ _ _ _ hF)
/-! MonsterCot.likes -/
theorem dX11_likes_0 : decode cX11_likes 0 = .ok (.aload_n 0, 1) := by decide +kernel
theorem dX11_likes_1 : decode cX11_likes 1 = .ok (.getfield 42, 3) := by decide +kernel
theorem dX11_likes_4 : decode cX11_likes 4 = .ok (.invokevirtual 124, 3) := by decide +kernel
theorem dX11_likes_7 : decode cX11_likes 7 = .ok (.ifCond .eq 14, 3) := by decide +kernel
theorem dX11_likes_10 : decode cX11_likes 10 = .ok (.aload_n 0, 1) := by decide +kernel
theorem dX11_likes_11 : decode cX11_likes 11 = .ok (.getfield 91, 3) := by decide +kernel
theorem dX11_likes_14 : decode cX11_likes 14 = .ok (.iload_n 1, 1) := by decide +kernel
theorem dX11_likes_15 : decode cX11_likes 15 = .ok (.invokevirtual 321, 3) := by decide +kernel
theorem dX11_likes_18 : decode cX11_likes 18 = .ok (.goto 4, 3) := by decide +kernel
theorem dX11_likes_21 : decode cX11_likes 21 = .ok (.iconst (-1), 1) := by decide +kernel
theorem dX11_likes_22 : decode cX11_likes 22 = .ok (.ireturn, 1) := by decide +kernel
def X11_likes (n : Nat) (x1 : Int32) (h : Mm) : Option (Int32 × Mm) := (bp (X1_stands 13 h) (fun r6 => (if r6 = true then (bd (X8_liked n x1 h) (fun r8 h10 => (some (r8, h10)))) else (some ((-1 : Int32), h)))))
set_option maxRecDepth 100000 in
set_option maxHeartbeats 4000000 in
theorem s_X11_likes {X : WX} {o : Mm} {n : Nat} {x1 : Int32} {rv : Int32} {hz : Mm} {h : Mm} (hF : X11_likes n x1 h = some (rv, hz)) : Sat X yX11_likes cX11_likes 2 (some .int) 8 [.ref (xa X 0), .int x1] true o h (some (.int rv)) hz := by
  unfold X11_likes at hF
  refine Sat.mk (own := RX11) rfl (by decide +kernel) (Nat.le_of_ble_eq_true rfl) (fun G => ?_)
  refine V.sub (lv2 := [(0, _), (1, _)]) [0, 1] rfl ?_
  refine V.aload_n 0 dX11_likes_0 rfl rfl ?_
  refine V.getR (v := 13) fl_X11_42 sh_0 rfl fx_0_4 (by decide) dX11_likes_1 ?_
  obtain ⟨r6, hc7, hF⟩ := bp_s hF
  refine V.callVi mf_X1_stands ml_X11_124 sh_13 (s_X1_stands (Or.inr rfl) hc7) (by decide) rfl rfl (Nat.le_of_ble_eq_true rfl) dX11_likes_4 ?_
  refine V.ifz_eq (tgt := 21) dX11_likes_7 rfl (fun c => ?_) (fun c => ?_)
  · replace hF := iq c hF
    refine V.iconst (v := -1) dX11_likes_21 rfl ?_
    cases hF
    exact V.iret dX11_likes_22
  · replace hF := ip c hF
    refine V.aload_n 0 dX11_likes_10 rfl rfl ?_
    refine V.getR (v := 249) fl_X11_91 sh_0 rfl fx_0_11 (by decide) dX11_likes_11 ?_
    refine V.iload_n 1 dX11_likes_14 rfl rfl ?_
    obtain ⟨r8, h10, hc9, hF⟩ := bd_s hF
    refine V.callVi mf_X8_liked ml_X11_321 sh_249 (s_X8_liked hc9) (by decide) rfl rfl (Nat.le_of_ble_eq_true rfl) dX11_likes_15 ?_
    refine V.goto (tgt := 22) dX11_likes_18 rfl ?_
    cases hF
    exact V.iret dX11_likes_22
/-! MonsterCot$Watch.apartBy -/
theorem dX8_apartBy_0 : decode cX8_apartBy 0 = .ok (.iconst 0, 1) := by decide +kernel
theorem dX8_apartBy_1 : decode cX8_apartBy 1 = .ok (.istore 5, 2) := by decide +kernel
theorem dX8_apartBy_3 : decode cX8_apartBy 3 = .ok (.getstatic 70, 3) := by decide +kernel
theorem dX8_apartBy_6 : decode cX8_apartBy 6 = .ok (.astore 6, 2) := by decide +kernel
theorem dX8_apartBy_8 : decode cX8_apartBy 8 = .ok (.aload 6, 2) := by decide +kernel
theorem dX8_apartBy_10 : decode cX8_apartBy 10 = .ok (.arraylength, 1) := by decide +kernel
theorem dX8_apartBy_11 : decode cX8_apartBy 11 = .ok (.istore 7, 2) := by decide +kernel
theorem dX8_apartBy_13 : decode cX8_apartBy 13 = .ok (.iconst 0, 1) := by decide +kernel
theorem dX8_apartBy_14 : decode cX8_apartBy 14 = .ok (.istore 8, 2) := by decide +kernel
theorem dX8_apartBy_16 : decode cX8_apartBy 16 = .ok (.iload 8, 2) := by decide +kernel
theorem dX8_apartBy_18 : decode cX8_apartBy 18 = .ok (.iload 7, 2) := by decide +kernel
theorem dX8_apartBy_20 : decode cX8_apartBy 20 = .ok (.if_icmp .ge 56, 3) := by decide +kernel
theorem dX8_apartBy_23 : decode cX8_apartBy 23 = .ok (.aload 6, 2) := by decide +kernel
theorem dX8_apartBy_25 : decode cX8_apartBy 25 = .ok (.iload 8, 2) := by decide +kernel
theorem dX8_apartBy_27 : decode cX8_apartBy 27 = .ok (.iaload, 1) := by decide +kernel
theorem dX8_apartBy_28 : decode cX8_apartBy 28 = .ok (.istore 9, 2) := by decide +kernel
theorem dX8_apartBy_30 : decode cX8_apartBy 30 = .ok (.iload_n 1, 1) := by decide +kernel
theorem dX8_apartBy_31 : decode cX8_apartBy 31 = .ok (.iload 9, 2) := by decide +kernel
theorem dX8_apartBy_33 : decode cX8_apartBy 33 = .ok (.ishr, 1) := by decide +kernel
theorem dX8_apartBy_34 : decode cX8_apartBy 34 = .ok (.iconst 1, 1) := by decide +kernel
theorem dX8_apartBy_35 : decode cX8_apartBy 35 = .ok (.iand, 1) := by decide +kernel
theorem dX8_apartBy_36 : decode cX8_apartBy 36 = .ok (.ifCond .eq 34, 3) := by decide +kernel
theorem dX8_apartBy_39 : decode cX8_apartBy 39 = .ok (.iload 5, 2) := by decide +kernel
theorem dX8_apartBy_41 : decode cX8_apartBy 41 = .ok (.aload_n 0, 1) := by decide +kernel
theorem dX8_apartBy_42 : decode cX8_apartBy 42 = .ok (.iload 9, 2) := by decide +kernel
theorem dX8_apartBy_44 : decode cX8_apartBy 44 = .ok (.iload_n 2, 1) := by decide +kernel
theorem dX8_apartBy_45 : decode cX8_apartBy 45 = .ok (.aload_n 0, 1) := by decide +kernel
theorem dX8_apartBy_46 : decode cX8_apartBy 46 = .ok (.getfield 25, 3) := by decide +kernel
theorem dX8_apartBy_49 : decode cX8_apartBy 49 = .ok (.iload_n 2, 1) := by decide +kernel
theorem dX8_apartBy_50 : decode cX8_apartBy 50 = .ok (.invokevirtual 84, 3) := by decide +kernel
theorem dX8_apartBy_53 : decode cX8_apartBy 53 = .ok (.iload_n 3, 1) := by decide +kernel
theorem dX8_apartBy_54 : decode cX8_apartBy 54 = .ok (.invokevirtual 66, 3) := by decide +kernel
theorem dX8_apartBy_57 : decode cX8_apartBy 57 = .ok (.iload 4, 2) := by decide +kernel
theorem dX8_apartBy_59 : decode cX8_apartBy 59 = .ok (.if_icmp .lt 7, 3) := by decide +kernel
theorem dX8_apartBy_62 : decode cX8_apartBy 62 = .ok (.iconst 1, 1) := by decide +kernel
theorem dX8_apartBy_63 : decode cX8_apartBy 63 = .ok (.goto 4, 3) := by decide +kernel
theorem dX8_apartBy_66 : decode cX8_apartBy 66 = .ok (.iconst (-1), 1) := by decide +kernel
theorem dX8_apartBy_67 : decode cX8_apartBy 67 = .ok (.iadd, 1) := by decide +kernel
theorem dX8_apartBy_68 : decode cX8_apartBy 68 = .ok (.istore 5, 2) := by decide +kernel
theorem dX8_apartBy_70 : decode cX8_apartBy 70 = .ok (.iinc 8 1, 3) := by decide +kernel
theorem dX8_apartBy_73 : decode cX8_apartBy 73 = .ok (.goto (-57), 3) := by decide +kernel
theorem dX8_apartBy_76 : decode cX8_apartBy 76 = .ok (.iload 5, 2) := by decide +kernel
theorem dX8_apartBy_78 : decode cX8_apartBy 78 = .ok (.invokestatic 87, 3) := by decide +kernel
theorem dX8_apartBy_81 : decode cX8_apartBy 81 = .ok (.ireturn, 1) := by decide +kernel
def X8_apartBy_70 (n : Nat) (K16 : Int32 → Int32 → Int32 → Int32 → Int32 → Int32 → Int32 → Mm → Option (Int32 × Mm)) (x1 : Int32) (x2 : Int32) (x3 : Int32) (x4 : Int32) (x5 : Int32) (x7 : Int32) (x8 : Int32) (h : Mm) : Option (Int32 × Mm) := (K16 x1 x2 x3 x4 x5 x7 (x8 + (1)) h)
set_option maxRecDepth 100000 in
set_option maxHeartbeats 4000000 in
theorem v_X8_apartBy_70 {X : WX} {G : GX} {o : Mm} {n : Nat} {K16 : Int32 → Int32 → Int32 → Int32 → Int32 → Int32 → Int32 → Mm → Option (Int32 × Mm)} {rv : Int32} {hz : Mm} (hK16 : ∀ (x1 : Int32) (x2 : Int32) (x3 : Int32) (x4 : Int32) (x5 : Int32) (x7 : Int32) (x8 : Int32) (h : Mm), K16 x1 x2 x3 x4 x5 x7 x8 h = some (rv, hz) → V X G RX8 cX8_apartBy 10 (some .int) 6 0 0 (QR X G true o (some (.int rv)) hz) true o 16 [(0, .ref (xa X 249)), (1, .int x1), (2, .int x2), (3, .int x3), (4, .int x4), (5, .int x5), (6, .ref (xa X 1007)), (7, .int x7), (8, .int x8)] [] h) {x1 : Int32} {x2 : Int32} {x3 : Int32} {x4 : Int32} {x5 : Int32} {x7 : Int32} {x8 : Int32} {h : Mm} (hF : X8_apartBy_70 n K16 x1 x2 x3 x4 x5 x7 x8 h = some (rv, hz)) : V X G RX8 cX8_apartBy 10 (some .int) 6 0 0 (QR X G true o (some (.int rv)) hz) true o 70 [(0, .ref (xa X 249)), (1, .int x1), (2, .int x2), (3, .int x3), (4, .int x4), (5, .int x5), (6, .ref (xa X 1007)), (7, .int x7), (8, .int x8)] [] h := by
  unfold X8_apartBy_70 at hF
  refine V.iinc (v := (x8 + (1))) 8 [(8, _), (0, _), (1, _), (2, _), (3, _), (4, _), (5, _), (6, _), (7, _)] dX8_apartBy_70 rfl rfl (by decide) rfl ?_
  refine V.goto (tgt := 16) dX8_apartBy_73 rfl ?_
  exact V.sub [1, 2, 3, 4, 5, 6, 7, 8, 0] rfl (hK16 _ _ _ _ _ _ _ _ hF)
def X8_apartBy_67 (n : Nat) (K16 : Int32 → Int32 → Int32 → Int32 → Int32 → Int32 → Int32 → Mm → Option (Int32 × Mm)) (x1 : Int32) (x2 : Int32) (x3 : Int32) (x4 : Int32) (x7 : Int32) (x8 : Int32) (s0 : Int32) (s1 : Int32) (h : Mm) : Option (Int32 × Mm) := (X8_apartBy_70 n K16 x1 x2 x3 x4 (s0 + s1) x7 x8 h)
set_option maxRecDepth 100000 in
set_option maxHeartbeats 4000000 in
theorem v_X8_apartBy_67 {X : WX} {G : GX} {o : Mm} {n : Nat} {K16 : Int32 → Int32 → Int32 → Int32 → Int32 → Int32 → Int32 → Mm → Option (Int32 × Mm)} {rv : Int32} {hz : Mm} (hK16 : ∀ (x1 : Int32) (x2 : Int32) (x3 : Int32) (x4 : Int32) (x5 : Int32) (x7 : Int32) (x8 : Int32) (h : Mm), K16 x1 x2 x3 x4 x5 x7 x8 h = some (rv, hz) → V X G RX8 cX8_apartBy 10 (some .int) 6 0 0 (QR X G true o (some (.int rv)) hz) true o 16 [(0, .ref (xa X 249)), (1, .int x1), (2, .int x2), (3, .int x3), (4, .int x4), (5, .int x5), (6, .ref (xa X 1007)), (7, .int x7), (8, .int x8)] [] h) {x1 : Int32} {x2 : Int32} {x3 : Int32} {x4 : Int32} {x7 : Int32} {x8 : Int32} {s0 : Int32} {s1 : Int32} {h : Mm} (hF : X8_apartBy_67 n K16 x1 x2 x3 x4 x7 x8 s0 s1 h = some (rv, hz)) : V X G RX8 cX8_apartBy 10 (some .int) 6 0 0 (QR X G true o (some (.int rv)) hz) true o 67 [(0, .ref (xa X 249)), (1, .int x1), (2, .int x2), (3, .int x3), (4, .int x4), (6, .ref (xa X 1007)), (7, .int x7), (8, .int x8)] [.int s1, .int s0] h := by
  unfold X8_apartBy_67 at hF
  refine V.iadd dX8_apartBy_67 ?_
  refine V.istore [(5, _), (0, _), (1, _), (2, _), (3, _), (4, _), (6, _), (7, _), (8, _)] dX8_apartBy_68 (by decide) rfl ?_
  exact V.sub [1, 2, 3, 4, 5, 0, 6, 7, 8] rfl (v_X8_apartBy_70 hK16 hF)
def X8_apartBy_16 (n : Nat) : Nat → Int32 → Int32 → Int32 → Int32 → Int32 → Int32 → Int32 → Mm → Option (Int32 × Mm)
  | 0, _, _, _, _, _, _, _, _ => none
  | f + 1, x1, x2, x3, x4, x5, x7, x8, h => (if x7 ≤ x8 then (bp (J9_abs_0f7a4 x5 h) (fun r36 => (some (r36, h)))) else (if inB x8 (aln 1007) then (if ((x1 >>> ((rdA h 1007 x8.toNatClampNeg) &&& 31)) &&& (1 : Int32)) = 0 then (X8_apartBy_70 n (X8_apartBy_16 n f) x1 x2 x3 x4 x5 x7 x8 h) else (bp (X1_pagesOf 13 x2 h) (fun r38 => (bd (X8_calmBy n (rdA h 1007 x8.toNatClampNeg) x2 r38 x3 h) (fun r40 h42 => (if r40 < x4 then (X8_apartBy_67 n (X8_apartBy_16 n f) x1 x2 x3 x4 x7 x8 x5 (-1 : Int32) h42) else (X8_apartBy_67 n (X8_apartBy_16 n f) x1 x2 x3 x4 x7 x8 x5 (1 : Int32) h42))))))) else none))
set_option maxRecDepth 100000 in
set_option maxHeartbeats 4000000 in
theorem v_X8_apartBy_16 {X : WX} {G : GX} {o : Mm} {n : Nat} {rv : Int32} {hz : Mm} : ∀ (f : Nat) (x1 : Int32) (x2 : Int32) (x3 : Int32) (x4 : Int32) (x5 : Int32) (x7 : Int32) (x8 : Int32) (h : Mm), X8_apartBy_16 n f x1 x2 x3 x4 x5 x7 x8 h = some (rv, hz) → V X G RX8 cX8_apartBy 10 (some .int) 6 0 0 (QR X G true o (some (.int rv)) hz) true o 16 [(0, .ref (xa X 249)), (1, .int x1), (2, .int x2), (3, .int x3), (4, .int x4), (5, .int x5), (6, .ref (xa X 1007)), (7, .int x7), (8, .int x8)] [] h := by
  intro f
  induction f with
  | zero => intro x1 x2 x3 x4 x5 x7 x8 h hF; exact nomatch (show (none : Option (Int32 × Mm)) = some (rv, hz) from hF)
  | succ f ih =>
    intro x1 x2 x3 x4 x5 x7 x8 h hF
    unfold X8_apartBy_16 at hF
    refine V.iload 8 dX8_apartBy_16 rfl ?_
    refine V.iload 7 dX8_apartBy_18 rfl ?_
    refine V.icmp_ge (tgt := 76) dX8_apartBy_20 rfl (fun c => ?_) (fun c => ?_)
    · replace hF := ip c hF
      refine V.iload 5 dX8_apartBy_76 rfl ?_
      obtain ⟨r36, hc37, hF⟩ := bp_s hF
      refine V.callSi mf_J9_abs_0f7a4 ml_X8_87 (s_J9_abs_0f7a4 hc37) (by decide) rfl rfl (Nat.le_of_ble_eq_true rfl) dX8_apartBy_78 ?_
      cases hF
      exact V.iret dX8_apartBy_81
    · replace hF := iq c hF
      refine V.aload 6 dX8_apartBy_23 rfl ?_
      refine V.iload 8 dX8_apartBy_25 rfl ?_
      obtain ⟨hk, hF⟩ := ck hF
      refine V.ialdA (Or.inr ⟨by decide, by decide⟩) hk dX8_apartBy_27 ?_
      refine V.istore [(9, _), (0, _), (1, _), (2, _), (3, _), (4, _), (5, _), (6, _), (7, _), (8, _)] dX8_apartBy_28 (by decide) rfl ?_
      refine V.iload_n 2 dX8_apartBy_30 rfl rfl ?_
      refine V.iload 0 dX8_apartBy_31 rfl ?_
      refine V.ishr dX8_apartBy_33 ?_
      refine V.iconst (v := 1) dX8_apartBy_34 rfl ?_
      refine V.iand dX8_apartBy_35 ?_
      refine V.if_eq (tgt := 70) dX8_apartBy_36 rfl (fun c => ?_) (fun c => ?_)
      · replace hF := ip c hF
        exact V.sub [1, 2, 3, 4, 5, 6, 7, 8, 9] rfl (v_X8_apartBy_70 ih hF)
      · replace hF := iq c hF
        refine V.iload 6 dX8_apartBy_39 rfl ?_
        refine V.aload_n 1 dX8_apartBy_41 rfl rfl ?_
        refine V.iload 0 dX8_apartBy_42 rfl ?_
        refine V.iload_n 3 dX8_apartBy_44 rfl rfl ?_
        refine V.aload_n 1 dX8_apartBy_45 rfl rfl ?_
        refine V.getR (v := 13) fl_X8_25 sh_249 rfl fx_249_1 (by decide) dX8_apartBy_46 ?_
        refine V.iload_n 3 dX8_apartBy_49 rfl rfl ?_
        obtain ⟨r38, hc39, hF⟩ := bp_s hF
        refine V.callVi mf_X1_pagesOf ml_X8_84 sh_13 (s_X1_pagesOf (Or.inr rfl) hc39) (by decide) rfl rfl (Nat.le_of_ble_eq_true rfl) dX8_apartBy_50 ?_
        refine V.iload_n 4 dX8_apartBy_53 rfl rfl ?_
        obtain ⟨r40, h42, hc41, hF⟩ := bd_s hF
        refine V.callVi mf_X8_calmBy ml_X8_66 sh_249 (s_X8_calmBy hc41) (by decide) rfl rfl (Nat.le_of_ble_eq_true rfl) dX8_apartBy_54 ?_
        refine V.iload 5 dX8_apartBy_57 rfl ?_
        refine V.icmp_lt (tgt := 66) dX8_apartBy_59 rfl (fun c => ?_) (fun c => ?_)
        · replace hF := ip c hF
          refine V.iconst (v := -1) dX8_apartBy_66 rfl ?_
          exact V.sub [1, 2, 3, 4, 5, 7, 8, 9] rfl (v_X8_apartBy_67 ih hF)
        · replace hF := iq c hF
          refine V.iconst (v := 1) dX8_apartBy_62 rfl ?_
          refine V.goto (tgt := 67) dX8_apartBy_63 rfl ?_
          exact V.sub [1, 2, 3, 4, 5, 7, 8, 9] rfl (v_X8_apartBy_67 ih hF)
def X8_apartBy (n : Nat) (x1 : Int32) (x2 : Int32) (x3 : Int32) (x4 : Int32) (h : Mm) : Option (Int32 × Mm) := (X8_apartBy_16 n n x1 x2 x3 x4 (0 : Int32) (Int32.ofNat (aln 1007)) (0 : Int32) h)
set_option maxRecDepth 100000 in
set_option maxHeartbeats 4000000 in
theorem s_X8_apartBy {X : WX} {o : Mm} {n : Nat} {x1 : Int32} {x2 : Int32} {x3 : Int32} {x4 : Int32} {rv : Int32} {hz : Mm} {h : Mm} (hF : X8_apartBy n x1 x2 x3 x4 h = some (rv, hz)) : Sat X yX8_apartBy cX8_apartBy 10 (some .int) 6 [.ref (xa X 249), .int x1, .int x2, .int x3, .int x4] true o h (some (.int rv)) hz := by
  unfold X8_apartBy at hF
  refine Sat.mk (own := RX8) rfl (by decide +kernel) (Nat.le_of_ble_eq_true rfl) (fun G => ?_)
  refine V.sub (lv2 := [(0, _), (1, _), (2, _), (3, _), (4, _)]) [0, 1, 2, 3, 4] rfl ?_
  refine V.iconst (v := 0) dX8_apartBy_0 rfl ?_
  refine V.istore [(5, _), (0, _), (1, _), (2, _), (3, _), (4, _)] dX8_apartBy_1 (by decide) rfl ?_
  refine V.gets zm_1007 sl_X8_70 dX8_apartBy_3 ?_
  refine V.astore [(6, _), (5, _), (0, _), (1, _), (2, _), (3, _), (4, _)] dX8_apartBy_6 (by decide) rfl ?_
  refine V.aload 0 dX8_apartBy_8 rfl ?_
  refine V.alenA (Or.inr ⟨by decide, by decide⟩) dX8_apartBy_10 ?_
  refine V.istore [(7, _), (6, _), (5, _), (0, _), (1, _), (2, _), (3, _), (4, _)] dX8_apartBy_11 (by decide) rfl ?_
  refine V.iconst (v := 0) dX8_apartBy_13 rfl ?_
  refine V.istore [(8, _), (7, _), (6, _), (5, _), (0, _), (1, _), (2, _), (3, _), (4, _)] dX8_apartBy_14 (by decide) rfl ?_
  exact V.sub [4, 5, 6, 7, 8, 3, 2, 1, 0] rfl (v_X8_apartBy_16 n _ _ _ _ _ _ _ _ hF)
/-! MonsterCot$Watch.bookToTry -/
theorem dX8_bookToTry_0 : decode cX8_bookToTry 0 = .ok (.iconst 0, 1) := by decide +kernel
theorem dX8_bookToTry_1 : decode cX8_bookToTry 1 = .ok (.istore_n 3, 1) := by decide +kernel
theorem dX8_bookToTry_2 : decode cX8_bookToTry 2 = .ok (.getstatic 70, 3) := by decide +kernel
theorem dX8_bookToTry_5 : decode cX8_bookToTry 5 = .ok (.astore 4, 2) := by decide +kernel
theorem dX8_bookToTry_7 : decode cX8_bookToTry 7 = .ok (.aload 4, 2) := by decide +kernel
theorem dX8_bookToTry_9 : decode cX8_bookToTry 9 = .ok (.arraylength, 1) := by decide +kernel
theorem dX8_bookToTry_10 : decode cX8_bookToTry 10 = .ok (.istore 5, 2) := by decide +kernel
theorem dX8_bookToTry_12 : decode cX8_bookToTry 12 = .ok (.iconst 0, 1) := by decide +kernel
theorem dX8_bookToTry_13 : decode cX8_bookToTry 13 = .ok (.istore 6, 2) := by decide +kernel
theorem dX8_bookToTry_15 : decode cX8_bookToTry 15 = .ok (.iload 6, 2) := by decide +kernel
theorem dX8_bookToTry_17 : decode cX8_bookToTry 17 = .ok (.iload 5, 2) := by decide +kernel
theorem dX8_bookToTry_19 : decode cX8_bookToTry 19 = .ok (.if_icmp .ge 36, 3) := by decide +kernel
theorem dX8_bookToTry_22 : decode cX8_bookToTry 22 = .ok (.aload 4, 2) := by decide +kernel
theorem dX8_bookToTry_24 : decode cX8_bookToTry 24 = .ok (.iload 6, 2) := by decide +kernel
theorem dX8_bookToTry_26 : decode cX8_bookToTry 26 = .ok (.iaload, 1) := by decide +kernel
theorem dX8_bookToTry_27 : decode cX8_bookToTry 27 = .ok (.istore 7, 2) := by decide +kernel
theorem dX8_bookToTry_29 : decode cX8_bookToTry 29 = .ok (.iload_n 3, 1) := by decide +kernel
theorem dX8_bookToTry_30 : decode cX8_bookToTry 30 = .ok (.aload_n 0, 1) := by decide +kernel
theorem dX8_bookToTry_31 : decode cX8_bookToTry 31 = .ok (.iload 7, 2) := by decide +kernel
theorem dX8_bookToTry_33 : decode cX8_bookToTry 33 = .ok (.invokevirtual 73, 3) := by decide +kernel
theorem dX8_bookToTry_36 : decode cX8_bookToTry 36 = .ok (.ifCond .eq 10, 3) := by decide +kernel
theorem dX8_bookToTry_39 : decode cX8_bookToTry 39 = .ok (.iconst 1, 1) := by decide +kernel
theorem dX8_bookToTry_40 : decode cX8_bookToTry 40 = .ok (.iload 7, 2) := by decide +kernel
theorem dX8_bookToTry_42 : decode cX8_bookToTry 42 = .ok (.ishl, 1) := by decide +kernel
theorem dX8_bookToTry_43 : decode cX8_bookToTry 43 = .ok (.goto 4, 3) := by decide +kernel
theorem dX8_bookToTry_46 : decode cX8_bookToTry 46 = .ok (.iconst 0, 1) := by decide +kernel
theorem dX8_bookToTry_47 : decode cX8_bookToTry 47 = .ok (.ior, 1) := by decide +kernel
theorem dX8_bookToTry_48 : decode cX8_bookToTry 48 = .ok (.istore_n 3, 1) := by decide +kernel
theorem dX8_bookToTry_49 : decode cX8_bookToTry 49 = .ok (.iinc 6 1, 3) := by decide +kernel
theorem dX8_bookToTry_52 : decode cX8_bookToTry 52 = .ok (.goto (-37), 3) := by decide +kernel
theorem dX8_bookToTry_55 : decode cX8_bookToTry 55 = .ok (.iconst (-1), 1) := by decide +kernel
theorem dX8_bookToTry_56 : decode cX8_bookToTry 56 = .ok (.istore 4, 2) := by decide +kernel
theorem dX8_bookToTry_58 : decode cX8_bookToTry 58 = .ok (.getstatic 70, 3) := by decide +kernel
theorem dX8_bookToTry_61 : decode cX8_bookToTry 61 = .ok (.arraylength, 1) := by decide +kernel
theorem dX8_bookToTry_62 : decode cX8_bookToTry 62 = .ok (.iconst 1, 1) := by decide +kernel
theorem dX8_bookToTry_63 : decode cX8_bookToTry 63 = .ok (.iadd, 1) := by decide +kernel
theorem dX8_bookToTry_64 : decode cX8_bookToTry 64 = .ok (.istore 5, 2) := by decide +kernel
theorem dX8_bookToTry_66 : decode cX8_bookToTry 66 = .ok (.iconst 0, 1) := by decide +kernel
theorem dX8_bookToTry_67 : decode cX8_bookToTry 67 = .ok (.istore 6, 2) := by decide +kernel
theorem dX8_bookToTry_69 : decode cX8_bookToTry 69 = .ok (.iload 6, 2) := by decide +kernel
theorem dX8_bookToTry_71 : decode cX8_bookToTry 71 = .ok (.aload_n 0, 1) := by decide +kernel
theorem dX8_bookToTry_72 : decode cX8_bookToTry 72 = .ok (.getfield 25, 3) := by decide +kernel
theorem dX8_bookToTry_75 : decode cX8_bookToTry 75 = .ok (.invokevirtual 77, 3) := by decide +kernel
theorem dX8_bookToTry_78 : decode cX8_bookToTry 78 = .ok (.if_icmp .ge 39, 3) := by decide +kernel
theorem dX8_bookToTry_81 : decode cX8_bookToTry 81 = .ok (.iload_n 3, 1) := by decide +kernel
theorem dX8_bookToTry_82 : decode cX8_bookToTry 82 = .ok (.ifCond .eq 35, 3) := by decide +kernel
theorem dX8_bookToTry_85 : decode cX8_bookToTry 85 = .ok (.aload_n 0, 1) := by decide +kernel
theorem dX8_bookToTry_86 : decode cX8_bookToTry 86 = .ok (.iload_n 3, 1) := by decide +kernel
theorem dX8_bookToTry_87 : decode cX8_bookToTry 87 = .ok (.iload 6, 2) := by decide +kernel
theorem dX8_bookToTry_89 : decode cX8_bookToTry 89 = .ok (.iload_n 1, 1) := by decide +kernel
theorem dX8_bookToTry_90 : decode cX8_bookToTry 90 = .ok (.iload_n 2, 1) := by decide +kernel
theorem dX8_bookToTry_91 : decode cX8_bookToTry 91 = .ok (.invokevirtual 81, 3) := by decide +kernel
theorem dX8_bookToTry_94 : decode cX8_bookToTry 94 = .ok (.istore 7, 2) := by decide +kernel
theorem dX8_bookToTry_96 : decode cX8_bookToTry 96 = .ok (.iload 7, 2) := by decide +kernel
theorem dX8_bookToTry_98 : decode cX8_bookToTry 98 = .ok (.iload 5, 2) := by decide +kernel
theorem dX8_bookToTry_100 : decode cX8_bookToTry 100 = .ok (.if_icmp .ge 11, 3) := by decide +kernel
theorem dX8_bookToTry_103 : decode cX8_bookToTry 103 = .ok (.iload 7, 2) := by decide +kernel
theorem dX8_bookToTry_105 : decode cX8_bookToTry 105 = .ok (.istore 5, 2) := by decide +kernel
theorem dX8_bookToTry_107 : decode cX8_bookToTry 107 = .ok (.iload 6, 2) := by decide +kernel
theorem dX8_bookToTry_109 : decode cX8_bookToTry 109 = .ok (.istore 4, 2) := by decide +kernel
theorem dX8_bookToTry_111 : decode cX8_bookToTry 111 = .ok (.iinc 6 1, 3) := by decide +kernel
theorem dX8_bookToTry_114 : decode cX8_bookToTry 114 = .ok (.goto (-45), 3) := by decide +kernel
theorem dX8_bookToTry_117 : decode cX8_bookToTry 117 = .ok (.iload 4, 2) := by decide +kernel
theorem dX8_bookToTry_119 : decode cX8_bookToTry 119 = .ok (.ireturn, 1) := by decide +kernel
def X8_bookToTry_47 (n : Nat) (K15 : Int32 → Int32 → Int32 → Int32 → Int32 → Mm → Option (Int32 × Mm)) (x1 : Int32) (x2 : Int32) (x5 : Int32) (x6 : Int32) (s0 : Int32) (s1 : Int32) (h : Mm) : Option (Int32 × Mm) := (K15 x1 x2 (s0 ||| s1) x5 (x6 + (1)) h)
set_option maxRecDepth 100000 in
set_option maxHeartbeats 4000000 in
theorem v_X8_bookToTry_47 {X : WX} {G : GX} {o : Mm} {n : Nat} {K15 : Int32 → Int32 → Int32 → Int32 → Int32 → Mm → Option (Int32 × Mm)} {rv : Int32} {hz : Mm} (hK15 : ∀ (x1 : Int32) (x2 : Int32) (x3 : Int32) (x5 : Int32) (x6 : Int32) (h : Mm), K15 x1 x2 x3 x5 x6 h = some (rv, hz) → V X G RX8 cX8_bookToTry 8 (some .int) 7 0 0 (QR X G true o (some (.int rv)) hz) true o 15 [(0, .ref (xa X 249)), (1, .int x1), (2, .int x2), (3, .int x3), (4, .ref (xa X 1007)), (5, .int x5), (6, .int x6)] [] h) {x1 : Int32} {x2 : Int32} {x5 : Int32} {x6 : Int32} {s0 : Int32} {s1 : Int32} {h : Mm} (hF : X8_bookToTry_47 n K15 x1 x2 x5 x6 s0 s1 h = some (rv, hz)) : V X G RX8 cX8_bookToTry 8 (some .int) 7 0 0 (QR X G true o (some (.int rv)) hz) true o 47 [(0, .ref (xa X 249)), (1, .int x1), (2, .int x2), (4, .ref (xa X 1007)), (5, .int x5), (6, .int x6)] [.int s1, .int s0] h := by
  unfold X8_bookToTry_47 at hF
  refine V.ior dX8_bookToTry_47 ?_
  refine V.istore_n [(3, _), (0, _), (1, _), (2, _), (4, _), (5, _), (6, _)] dX8_bookToTry_48 rfl (by decide) rfl ?_
  refine V.iinc (v := (x6 + (1))) 6 [(6, _), (3, _), (0, _), (1, _), (2, _), (4, _), (5, _)] dX8_bookToTry_49 rfl rfl (by decide) rfl ?_
  refine V.goto (tgt := 15) dX8_bookToTry_52 rfl ?_
  exact V.sub [2, 3, 4, 1, 5, 6, 0] rfl (hK15 _ _ _ _ _ _ hF)
def X8_bookToTry_111 (n : Nat) (K69 : Int32 → Int32 → Int32 → Int32 → Int32 → Int32 → Mm → Option (Int32 × Mm)) (x1 : Int32) (x2 : Int32) (x3 : Int32) (x4 : Int32) (x5 : Int32) (x6 : Int32) (h : Mm) : Option (Int32 × Mm) := (K69 x1 x2 x3 x4 x5 (x6 + (1)) h)
set_option maxRecDepth 100000 in
set_option maxHeartbeats 4000000 in
theorem v_X8_bookToTry_111 {X : WX} {G : GX} {o : Mm} {n : Nat} {K69 : Int32 → Int32 → Int32 → Int32 → Int32 → Int32 → Mm → Option (Int32 × Mm)} {rv : Int32} {hz : Mm} (hK69 : ∀ (x1 : Int32) (x2 : Int32) (x3 : Int32) (x4 : Int32) (x5 : Int32) (x6 : Int32) (h : Mm), K69 x1 x2 x3 x4 x5 x6 h = some (rv, hz) → V X G RX8 cX8_bookToTry 8 (some .int) 7 0 0 (QR X G true o (some (.int rv)) hz) true o 69 [(0, .ref (xa X 249)), (1, .int x1), (2, .int x2), (3, .int x3), (4, .int x4), (5, .int x5), (6, .int x6)] [] h) {x1 : Int32} {x2 : Int32} {x3 : Int32} {x4 : Int32} {x5 : Int32} {x6 : Int32} {h : Mm} (hF : X8_bookToTry_111 n K69 x1 x2 x3 x4 x5 x6 h = some (rv, hz)) : V X G RX8 cX8_bookToTry 8 (some .int) 7 0 0 (QR X G true o (some (.int rv)) hz) true o 111 [(0, .ref (xa X 249)), (1, .int x1), (2, .int x2), (3, .int x3), (4, .int x4), (5, .int x5), (6, .int x6)] [] h := by
  unfold X8_bookToTry_111 at hF
  refine V.iinc (v := (x6 + (1))) 6 [(6, _), (0, _), (1, _), (2, _), (3, _), (4, _), (5, _)] dX8_bookToTry_111 rfl rfl (by decide) rfl ?_
  refine V.goto (tgt := 69) dX8_bookToTry_114 rfl ?_
  exact V.sub [1, 2, 3, 4, 5, 6, 0] rfl (hK69 _ _ _ _ _ _ _ hF)
def X8_bookToTry_117 (n : Nat) (x4 : Int32) (h : Mm) : Option (Int32 × Mm) := (some (x4, h))
set_option maxRecDepth 100000 in
set_option maxHeartbeats 4000000 in
theorem v_X8_bookToTry_117 {X : WX} {G : GX} {o : Mm} {n : Nat} {rv : Int32} {hz : Mm} {x4 : Int32} {h : Mm} (hF : X8_bookToTry_117 n x4 h = some (rv, hz)) : V X G RX8 cX8_bookToTry 8 (some .int) 7 0 0 (QR X G true o (some (.int rv)) hz) true o 117 [(4, .int x4)] [] h := by
  unfold X8_bookToTry_117 at hF
  refine V.iload 0 dX8_bookToTry_117 rfl ?_
  cases hF
  exact V.iret dX8_bookToTry_119
def X8_bookToTry_69 (n : Nat) : Nat → Int32 → Int32 → Int32 → Int32 → Int32 → Int32 → Mm → Option (Int32 × Mm)
  | 0, _, _, _, _, _, _, _ => none
  | f + 1, x1, x2, x3, x4, x5, x6, h => (bp (X1_books 13 h) (fun r36 => (if r36 ≤ x6 then (X8_bookToTry_117 n x4 h) else (if x3 = 0 then (X8_bookToTry_117 n x4 h) else (bd (X8_apartBy n x3 x6 x1 x2 h) (fun r38 h40 => (if x5 ≤ r38 then (X8_bookToTry_111 n (X8_bookToTry_69 n f) x1 x2 x3 x4 x5 x6 h40) else (X8_bookToTry_111 n (X8_bookToTry_69 n f) x1 x2 x3 x6 r38 x6 h40))))))))
set_option maxRecDepth 100000 in
set_option maxHeartbeats 4000000 in
theorem v_X8_bookToTry_69 {X : WX} {G : GX} {o : Mm} {n : Nat} {rv : Int32} {hz : Mm} : ∀ (f : Nat) (x1 : Int32) (x2 : Int32) (x3 : Int32) (x4 : Int32) (x5 : Int32) (x6 : Int32) (h : Mm), X8_bookToTry_69 n f x1 x2 x3 x4 x5 x6 h = some (rv, hz) → V X G RX8 cX8_bookToTry 8 (some .int) 7 0 0 (QR X G true o (some (.int rv)) hz) true o 69 [(0, .ref (xa X 249)), (1, .int x1), (2, .int x2), (3, .int x3), (4, .int x4), (5, .int x5), (6, .int x6)] [] h := by
  intro f
  induction f with
  | zero => intro x1 x2 x3 x4 x5 x6 h hF; exact nomatch (show (none : Option (Int32 × Mm)) = some (rv, hz) from hF)
  | succ f ih =>
    intro x1 x2 x3 x4 x5 x6 h hF
    unfold X8_bookToTry_69 at hF
    refine V.iload 6 dX8_bookToTry_69 rfl ?_
    refine V.aload_n 0 dX8_bookToTry_71 rfl rfl ?_
    refine V.getR (v := 13) fl_X8_25 sh_249 rfl fx_249_1 (by decide) dX8_bookToTry_72 ?_
    obtain ⟨r36, hc37, hF⟩ := bp_s hF
    refine V.callVi mf_X1_books ml_X8_77 sh_13 (s_X1_books (Or.inr rfl) hc37) (by decide) rfl rfl (Nat.le_of_ble_eq_true rfl) dX8_bookToTry_75 ?_
    refine V.icmp_ge (tgt := 117) dX8_bookToTry_78 rfl (fun c => ?_) (fun c => ?_)
    · replace hF := ip c hF
      exact V.sub [4] rfl (v_X8_bookToTry_117 hF)
    · replace hF := iq c hF
      refine V.iload_n 3 dX8_bookToTry_81 rfl rfl ?_
      refine V.if_eq (tgt := 117) dX8_bookToTry_82 rfl (fun c => ?_) (fun c => ?_)
      · replace hF := ip c hF
        exact V.sub [4] rfl (v_X8_bookToTry_117 hF)
      · replace hF := iq c hF
        refine V.aload_n 0 dX8_bookToTry_85 rfl rfl ?_
        refine V.iload_n 3 dX8_bookToTry_86 rfl rfl ?_
        refine V.iload 6 dX8_bookToTry_87 rfl ?_
        refine V.iload_n 1 dX8_bookToTry_89 rfl rfl ?_
        refine V.iload_n 2 dX8_bookToTry_90 rfl rfl ?_
        obtain ⟨r38, h40, hc39, hF⟩ := bd_s hF
        refine V.callVi mf_X8_apartBy ml_X8_81 sh_249 (s_X8_apartBy hc39) (by decide) rfl rfl (Nat.le_of_ble_eq_true rfl) dX8_bookToTry_91 ?_
        refine V.istore [(7, _), (0, _), (1, _), (2, _), (3, _), (4, _), (5, _), (6, _)] dX8_bookToTry_94 (by decide) rfl ?_
        refine V.iload 0 dX8_bookToTry_96 rfl ?_
        refine V.iload 6 dX8_bookToTry_98 rfl ?_
        refine V.icmp_ge (tgt := 111) dX8_bookToTry_100 rfl (fun c => ?_) (fun c => ?_)
        · replace hF := ip c hF
          exact V.sub [1, 2, 3, 4, 5, 6, 7] rfl (v_X8_bookToTry_111 ih hF)
        · replace hF := iq c hF
          refine V.iload 0 dX8_bookToTry_103 rfl ?_
          refine V.istore [(5, _), (7, _), (0, _), (1, _), (2, _), (3, _), (4, _), (6, _)] dX8_bookToTry_105 (by decide) rfl ?_
          refine V.iload 7 dX8_bookToTry_107 rfl ?_
          refine V.istore [(4, _), (5, _), (7, _), (0, _), (1, _), (2, _), (3, _), (6, _)] dX8_bookToTry_109 (by decide) rfl ?_
          exact V.sub [3, 4, 5, 6, 0, 1, 7] rfl (v_X8_bookToTry_111 ih hF)
def X8_bookToTry_15 (n : Nat) : Nat → Int32 → Int32 → Int32 → Int32 → Int32 → Mm → Option (Int32 × Mm)
  | 0, _, _, _, _, _, _ => none
  | f + 1, x1, x2, x3, x5, x6, h => (if x5 ≤ x6 then (X8_bookToTry_69 n n x1 x2 x3 (-1 : Int32) ((Int32.ofNat (aln 1007)) + (1 : Int32)) (0 : Int32) h) else (if inB x6 (aln 1007) then (bd (X8_fits n (rdA h 1007 x6.toNatClampNeg) h) (fun r41 h43 => (if r41 = true then (X8_bookToTry_47 n (X8_bookToTry_15 n f) x1 x2 x5 x6 x3 ((1 : Int32) <<< ((rdA h 1007 x6.toNatClampNeg) &&& 31)) h43) else (X8_bookToTry_47 n (X8_bookToTry_15 n f) x1 x2 x5 x6 x3 (0 : Int32) h43)))) else none))
set_option maxRecDepth 100000 in
set_option maxHeartbeats 4000000 in
theorem v_X8_bookToTry_15 {X : WX} {G : GX} {o : Mm} {n : Nat} {rv : Int32} {hz : Mm} : ∀ (f : Nat) (x1 : Int32) (x2 : Int32) (x3 : Int32) (x5 : Int32) (x6 : Int32) (h : Mm), X8_bookToTry_15 n f x1 x2 x3 x5 x6 h = some (rv, hz) → V X G RX8 cX8_bookToTry 8 (some .int) 7 0 0 (QR X G true o (some (.int rv)) hz) true o 15 [(0, .ref (xa X 249)), (1, .int x1), (2, .int x2), (3, .int x3), (4, .ref (xa X 1007)), (5, .int x5), (6, .int x6)] [] h := by
  intro f
  induction f with
  | zero => intro x1 x2 x3 x5 x6 h hF; exact nomatch (show (none : Option (Int32 × Mm)) = some (rv, hz) from hF)
  | succ f ih =>
    intro x1 x2 x3 x5 x6 h hF
    unfold X8_bookToTry_15 at hF
    refine V.iload 6 dX8_bookToTry_15 rfl ?_
    refine V.iload 5 dX8_bookToTry_17 rfl ?_
    refine V.icmp_ge (tgt := 55) dX8_bookToTry_19 rfl (fun c => ?_) (fun c => ?_)
    · replace hF := ip c hF
      refine V.iconst (v := -1) dX8_bookToTry_55 rfl ?_
      refine V.istore [(4, _), (0, _), (1, _), (2, _), (3, _), (5, _), (6, _)] dX8_bookToTry_56 (by decide) rfl ?_
      refine V.gets zm_1007 sl_X8_70 dX8_bookToTry_58 ?_
      refine V.alenA (Or.inr ⟨by decide, by decide⟩) dX8_bookToTry_61 ?_
      refine V.iconst (v := 1) dX8_bookToTry_62 rfl ?_
      refine V.iadd dX8_bookToTry_63 ?_
      refine V.istore [(5, _), (4, _), (0, _), (1, _), (2, _), (3, _), (6, _)] dX8_bookToTry_64 (by decide) rfl ?_
      refine V.iconst (v := 0) dX8_bookToTry_66 rfl ?_
      refine V.istore [(6, _), (5, _), (4, _), (0, _), (1, _), (2, _), (3, _)] dX8_bookToTry_67 (by decide) rfl ?_
      exact V.sub [3, 4, 5, 6, 2, 1, 0] rfl (v_X8_bookToTry_69 n _ _ _ _ _ _ _ hF)
    · replace hF := iq c hF
      refine V.aload 4 dX8_bookToTry_22 rfl ?_
      refine V.iload 6 dX8_bookToTry_24 rfl ?_
      obtain ⟨hk, hF⟩ := ck hF
      refine V.ialdA (Or.inr ⟨by decide, by decide⟩) hk dX8_bookToTry_26 ?_
      refine V.istore [(7, _), (0, _), (1, _), (2, _), (3, _), (4, _), (5, _), (6, _)] dX8_bookToTry_27 (by decide) rfl ?_
      refine V.iload_n 4 dX8_bookToTry_29 rfl rfl ?_
      refine V.aload_n 1 dX8_bookToTry_30 rfl rfl ?_
      refine V.iload 0 dX8_bookToTry_31 rfl ?_
      obtain ⟨r41, h43, hc42, hF⟩ := bd_s hF
      refine V.callVi mf_X8_fits ml_X8_73 sh_249 (s_X8_fits hc42) (by decide) rfl rfl (Nat.le_of_ble_eq_true rfl) dX8_bookToTry_33 ?_
      refine V.ifz_eq (tgt := 46) dX8_bookToTry_36 rfl (fun c => ?_) (fun c => ?_)
      · replace hF := iq c hF
        refine V.iconst (v := 0) dX8_bookToTry_46 rfl ?_
        exact V.sub [1, 2, 3, 5, 6, 7] rfl (v_X8_bookToTry_47 ih hF)
      · replace hF := ip c hF
        refine V.iconst (v := 1) dX8_bookToTry_39 rfl ?_
        refine V.iload 0 dX8_bookToTry_40 rfl ?_
        refine V.ishl dX8_bookToTry_42 ?_
        refine V.goto (tgt := 47) dX8_bookToTry_43 rfl ?_
        exact V.sub [1, 2, 3, 5, 6, 7] rfl (v_X8_bookToTry_47 ih hF)
def X8_bookToTry (n : Nat) (x1 : Int32) (x2 : Int32) (h : Mm) : Option (Int32 × Mm) := (X8_bookToTry_15 n n x1 x2 (0 : Int32) (Int32.ofNat (aln 1007)) (0 : Int32) h)
set_option maxRecDepth 100000 in
set_option maxHeartbeats 4000000 in
theorem s_X8_bookToTry {X : WX} {o : Mm} {n : Nat} {x1 : Int32} {x2 : Int32} {rv : Int32} {hz : Mm} {h : Mm} (hF : X8_bookToTry n x1 x2 h = some (rv, hz)) : Sat X yX8_bookToTry cX8_bookToTry 8 (some .int) 7 [.ref (xa X 249), .int x1, .int x2] true o h (some (.int rv)) hz := by
  unfold X8_bookToTry at hF
  refine Sat.mk (own := RX8) rfl (by decide +kernel) (Nat.le_of_ble_eq_true rfl) (fun G => ?_)
  refine V.sub (lv2 := [(0, _), (1, _), (2, _)]) [0, 1, 2] rfl ?_
  refine V.iconst (v := 0) dX8_bookToTry_0 rfl ?_
  refine V.istore_n [(3, _), (0, _), (1, _), (2, _)] dX8_bookToTry_1 rfl (by decide) rfl ?_
  refine V.gets zm_1007 sl_X8_70 dX8_bookToTry_2 ?_
  refine V.astore [(4, _), (3, _), (0, _), (1, _), (2, _)] dX8_bookToTry_5 (by decide) rfl ?_
  refine V.aload 0 dX8_bookToTry_7 rfl ?_
  refine V.alenA (Or.inr ⟨by decide, by decide⟩) dX8_bookToTry_9 ?_
  refine V.istore [(5, _), (4, _), (3, _), (0, _), (1, _), (2, _)] dX8_bookToTry_10 (by decide) rfl ?_
  refine V.iconst (v := 0) dX8_bookToTry_12 rfl ?_
  refine V.istore [(6, _), (5, _), (4, _), (3, _), (0, _), (1, _), (2, _)] dX8_bookToTry_13 (by decide) rfl ?_
  exact V.sub [4, 5, 6, 3, 2, 1, 0] rfl (v_X8_bookToTry_15 n _ _ _ _ _ _ hF)
/-! MonsterCot.probe -/
theorem dX11_probe_0 : decode cX11_probe 0 = .ok (.aload_n 0, 1) := by decide +kernel
theorem dX11_probe_1 : decode cX11_probe 1 = .ok (.getfield 42, 3) := by decide +kernel
theorem dX11_probe_4 : decode cX11_probe 4 = .ok (.iload_n 1, 1) := by decide +kernel
theorem dX11_probe_5 : decode cX11_probe 5 = .ok (.invokevirtual 153, 3) := by decide +kernel
theorem dX11_probe_8 : decode cX11_probe 8 = .ok (.ifCond .eq 25, 3) := by decide +kernel
theorem dX11_probe_11 : decode cX11_probe 11 = .ok (.iload_n 2, 1) := by decide +kernel
theorem dX11_probe_12 : decode cX11_probe 12 = .ok (.ifCond .lt 21, 3) := by decide +kernel
theorem dX11_probe_15 : decode cX11_probe 15 = .ok (.iload_n 2, 1) := by decide +kernel
theorem dX11_probe_16 : decode cX11_probe 16 = .ok (.bipush 99, 2) := by decide +kernel
theorem dX11_probe_18 : decode cX11_probe 18 = .ok (.if_icmp .gt 15, 3) := by decide +kernel
theorem dX11_probe_21 : decode cX11_probe 21 = .ok (.aload_n 0, 1) := by decide +kernel
theorem dX11_probe_22 : decode cX11_probe 22 = .ok (.getfield 91, 3) := by decide +kernel
theorem dX11_probe_25 : decode cX11_probe 25 = .ok (.iload_n 1, 1) := by decide +kernel
theorem dX11_probe_26 : decode cX11_probe 26 = .ok (.iload_n 2, 1) := by decide +kernel
theorem dX11_probe_27 : decode cX11_probe 27 = .ok (.invokevirtual 324, 3) := by decide +kernel
theorem dX11_probe_30 : decode cX11_probe 30 = .ok (.goto 4, 3) := by decide +kernel
theorem dX11_probe_33 : decode cX11_probe 33 = .ok (.iconst (-1), 1) := by decide +kernel
theorem dX11_probe_34 : decode cX11_probe 34 = .ok (.ireturn, 1) := by decide +kernel
def X11_probe (n : Nat) (x1 : Int32) (x2 : Int32) (h : Mm) : Option (Int32 × Mm) := (bp (X1_hasHouse 13 x1 h) (fun r6 => (if r6 = true then (if x2 < 0 then (some ((-1 : Int32), h)) else (if (99 : Int32) < x2 then (some ((-1 : Int32), h)) else (bd (X8_bookToTry n x1 x2 h) (fun r8 h10 => (some (r8, h10)))))) else (some ((-1 : Int32), h)))))
set_option maxRecDepth 100000 in
set_option maxHeartbeats 4000000 in
theorem s_X11_probe {X : WX} {o : Mm} {n : Nat} {x1 : Int32} {x2 : Int32} {rv : Int32} {hz : Mm} {h : Mm} (hF : X11_probe n x1 x2 h = some (rv, hz)) : Sat X yX11_probe cX11_probe 3 (some .int) 8 [.ref (xa X 0), .int x1, .int x2] true o h (some (.int rv)) hz := by
  unfold X11_probe at hF
  refine Sat.mk (own := RX11) rfl (by decide +kernel) (Nat.le_of_ble_eq_true rfl) (fun G => ?_)
  refine V.sub (lv2 := [(0, _), (1, _), (2, _)]) [0, 1, 2] rfl ?_
  refine V.aload_n 0 dX11_probe_0 rfl rfl ?_
  refine V.getR (v := 13) fl_X11_42 sh_0 rfl fx_0_4 (by decide) dX11_probe_1 ?_
  refine V.iload_n 1 dX11_probe_4 rfl rfl ?_
  obtain ⟨r6, hc7, hF⟩ := bp_s hF
  refine V.callVi mf_X1_hasHouse ml_X11_153 sh_13 (s_X1_hasHouse (Or.inr rfl) hc7) (by decide) rfl rfl (Nat.le_of_ble_eq_true rfl) dX11_probe_5 ?_
  refine V.ifz_eq (tgt := 33) dX11_probe_8 rfl (fun c => ?_) (fun c => ?_)
  · replace hF := iq c hF
    refine V.iconst (v := -1) dX11_probe_33 rfl ?_
    cases hF
    exact V.iret dX11_probe_34
  · replace hF := ip c hF
    refine V.iload_n 2 dX11_probe_11 rfl rfl ?_
    refine V.if_lt (tgt := 33) dX11_probe_12 rfl (fun c => ?_) (fun c => ?_)
    · replace hF := ip c hF
      refine V.iconst (v := -1) dX11_probe_33 rfl ?_
      cases hF
      exact V.iret dX11_probe_34
    · replace hF := iq c hF
      refine V.iload_n 2 dX11_probe_15 rfl rfl ?_
      refine V.bipush (v := 99) dX11_probe_16 (by decide) ?_
      refine V.icmp_gt (tgt := 33) dX11_probe_18 rfl (fun c => ?_) (fun c => ?_)
      · replace hF := ip c hF
        refine V.iconst (v := -1) dX11_probe_33 rfl ?_
        cases hF
        exact V.iret dX11_probe_34
      · replace hF := iq c hF
        refine V.aload_n 0 dX11_probe_21 rfl rfl ?_
        refine V.getR (v := 249) fl_X11_91 sh_0 rfl fx_0_11 (by decide) dX11_probe_22 ?_
        refine V.iload_n 1 dX11_probe_25 rfl rfl ?_
        refine V.iload_n 2 dX11_probe_26 rfl rfl ?_
        obtain ⟨r8, h10, hc9, hF⟩ := bd_s hF
        refine V.callVi mf_X8_bookToTry ml_X11_324 sh_249 (s_X8_bookToTry hc9) (by decide) rfl rfl (Nat.le_of_ble_eq_true rfl) dX11_probe_27 ?_
        refine V.goto (tgt := 34) dX11_probe_30 rfl ?_
        cases hF
        exact V.iret dX11_probe_34
