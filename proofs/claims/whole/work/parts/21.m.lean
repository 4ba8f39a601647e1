/-! MonsterCotModel.steps -/
theorem dX12_steps_0 : decode cX12_steps 0 = .ok (.aload_n 0, 1) := by decide +kernel
theorem dX12_steps_1 : decode cX12_steps 1 = .ok (.getfield 55, 3) := by decide +kernel
theorem dX12_steps_4 : decode cX12_steps 4 = .ok (.iload_n 2, 1) := by decide +kernel
theorem dX12_steps_5 : decode cX12_steps 5 = .ok (.iaload, 1) := by decide +kernel
theorem dX12_steps_6 : decode cX12_steps 6 = .ok (.tableswitch 80 0 3 #[30, 30, 68, 74], 30) := by decide +kernel
theorem dX12_steps_36 : decode cX12_steps 36 = .ok (.aload_n 0, 1) := by decide +kernel
theorem dX12_steps_37 : decode cX12_steps 37 = .ok (.aload_n 1, 1) := by decide +kernel
theorem dX12_steps_38 : decode cX12_steps 38 = .ok (.aload_n 0, 1) := by decide +kernel
theorem dX12_steps_39 : decode cX12_steps 39 = .ok (.getfield 55, 3) := by decide +kernel
theorem dX12_steps_42 : decode cX12_steps 42 = .ok (.iload_n 2, 1) := by decide +kernel
theorem dX12_steps_43 : decode cX12_steps 43 = .ok (.iconst 1, 1) := by decide +kernel
theorem dX12_steps_44 : decode cX12_steps 44 = .ok (.iadd, 1) := by decide +kernel
theorem dX12_steps_45 : decode cX12_steps 45 = .ok (.iaload, 1) := by decide +kernel
theorem dX12_steps_46 : decode cX12_steps 46 = .ok (.aload_n 0, 1) := by decide +kernel
theorem dX12_steps_47 : decode cX12_steps 47 = .ok (.getfield 55, 3) := by decide +kernel
theorem dX12_steps_50 : decode cX12_steps 50 = .ok (.iload_n 2, 1) := by decide +kernel
theorem dX12_steps_51 : decode cX12_steps 51 = .ok (.iconst 2, 1) := by decide +kernel
theorem dX12_steps_52 : decode cX12_steps 52 = .ok (.iadd, 1) := by decide +kernel
theorem dX12_steps_53 : decode cX12_steps 53 = .ok (.iaload, 1) := by decide +kernel
theorem dX12_steps_54 : decode cX12_steps 54 = .ok (.aload_n 0, 1) := by decide +kernel
theorem dX12_steps_55 : decode cX12_steps 55 = .ok (.getfield 55, 3) := by decide +kernel
theorem dX12_steps_58 : decode cX12_steps 58 = .ok (.iload_n 2, 1) := by decide +kernel
theorem dX12_steps_59 : decode cX12_steps 59 = .ok (.iaload, 1) := by decide +kernel
theorem dX12_steps_60 : decode cX12_steps 60 = .ok (.iconst 1, 1) := by decide +kernel
theorem dX12_steps_61 : decode cX12_steps 61 = .ok (.if_icmp .ne 7, 3) := by decide +kernel
theorem dX12_steps_64 : decode cX12_steps 64 = .ok (.iconst 1, 1) := by decide +kernel
theorem dX12_steps_65 : decode cX12_steps 65 = .ok (.goto 4, 3) := by decide +kernel
theorem dX12_steps_68 : decode cX12_steps 68 = .ok (.iconst 0, 1) := by decide +kernel
theorem dX12_steps_69 : decode cX12_steps 69 = .ok (.invokevirtual 365, 3) := by decide +kernel
theorem dX12_steps_72 : decode cX12_steps 72 = .ok (.iconst 0, 1) := by decide +kernel
theorem dX12_steps_73 : decode cX12_steps 73 = .ok (.ireturn, 1) := by decide +kernel
theorem dX12_steps_74 : decode cX12_steps 74 = .ok (.aload_n 1, 1) := by decide +kernel
theorem dX12_steps_75 : decode cX12_steps 75 = .ok (.invokestatic 369, 3) := by decide +kernel
theorem dX12_steps_78 : decode cX12_steps 78 = .ok (.iconst 0, 1) := by decide +kernel
theorem dX12_steps_79 : decode cX12_steps 79 = .ok (.ireturn, 1) := by decide +kernel
theorem dX12_steps_80 : decode cX12_steps 80 = .ok (.aload_n 0, 1) := by decide +kernel
theorem dX12_steps_81 : decode cX12_steps 81 = .ok (.aload_n 1, 1) := by decide +kernel
theorem dX12_steps_82 : decode cX12_steps 82 = .ok (.invokevirtual 377, 3) := by decide +kernel
theorem dX12_steps_85 : decode cX12_steps 85 = .ok (.ireturn, 1) := by decide +kernel
theorem dX12_steps_86 : decode cX12_steps 86 = .ok (.aload_n 1, 1) := by decide +kernel
theorem dX12_steps_87 : decode cX12_steps 87 = .ok (.bipush 23, 2) := by decide +kernel
theorem dX12_steps_89 : decode cX12_steps 89 = .ok (.aload_n 0, 1) := by decide +kernel
theorem dX12_steps_90 : decode cX12_steps 90 = .ok (.getfield 55, 3) := by decide +kernel
theorem dX12_steps_93 : decode cX12_steps 93 = .ok (.iload_n 2, 1) := by decide +kernel
theorem dX12_steps_94 : decode cX12_steps 94 = .ok (.iconst 1, 1) := by decide +kernel
theorem dX12_steps_95 : decode cX12_steps 95 = .ok (.iadd, 1) := by decide +kernel
theorem dX12_steps_96 : decode cX12_steps 96 = .ok (.iaload, 1) := by decide +kernel
theorem dX12_steps_97 : decode cX12_steps 97 = .ok (.iastore, 1) := by decide +kernel
theorem dX12_steps_98 : decode cX12_steps 98 = .ok (.aload_n 1, 1) := by decide +kernel
theorem dX12_steps_99 : decode cX12_steps 99 = .ok (.bipush 26, 2) := by decide +kernel
theorem dX12_steps_101 : decode cX12_steps 101 = .ok (.iconst 1, 1) := by decide +kernel
theorem dX12_steps_102 : decode cX12_steps 102 = .ok (.iastore, 1) := by decide +kernel
theorem dX12_steps_103 : decode cX12_steps 103 = .ok (.iconst 0, 1) := by decide +kernel
theorem dX12_steps_104 : decode cX12_steps 104 = .ok (.ireturn, 1) := by decide +kernel
def X12_steps_69 (n : Nat) (a1 : Nat) (s2 : Int32) (s3 : Int32) (s4 : Bool) (h : Mm) : Option (Int32 × Mm) := (bd (X12_reads n a1 s2 s3 s4 h) (fun _ h18 => (some ((0), h18))))
set_option maxRecDepth 100000 in
set_option maxHeartbeats 4000000 in
theorem v_X12_steps_69 {X : WX} {G : GX} {o : Mm} {n : Nat} {a1 : Nat} {rv : Int32} {hz : Mm} (ha1 : isO false 0 a1) {s2 : Int32} {s3 : Int32} {s4 : Bool} {h : Mm} (hF : X12_steps_69 n a1 s2 s3 s4 h = some (rv, hz)) : V X G RX12 cX12_steps 3 (some .int) 92 0 0 (QR X G false o (some (.int rv)) hz) false o 69 [] [.int (b2i s4), .int s3, .int s2, .ref (xa X a1), .ref (xa X 251)] h := by
  unfold X12_steps_69 at hF
  obtain ⟨r16, h18, hc17, hF⟩ := bd_s hF
  refine V.callVv mf_X12_reads ml_X12_365 sh_251 (s_X12_reads ha1 hc17) (by decide) rfl rfl (Nat.le_of_ble_eq_true rfl) dX12_steps_69 ?_
  refine V.iconst (v := 0) dX12_steps_72 rfl ?_
  cases hF
  exact V.iret dX12_steps_73
def X12_steps_36 (n : Nat) (a1 : Nat) (x2 : Int32) (h : Mm) : Option (Int32 × Mm) := (if inB (x2 + (1)) (aln 262) then (if inB (x2 + (2)) (aln 262) then (if inB x2 (aln 262) then (if (h.1 262 x2.toNatClampNeg) = (1) then (X12_steps_69 n a1 (h.1 262 (x2 + (1)).toNatClampNeg) (h.1 262 (x2 + (2)).toNatClampNeg) true h) else (X12_steps_69 n a1 (h.1 262 (x2 + (1)).toNatClampNeg) (h.1 262 (x2 + (2)).toNatClampNeg) false h)) else none) else none) else none)
set_option maxRecDepth 100000 in
set_option maxHeartbeats 4000000 in
theorem v_X12_steps_36 {X : WX} {G : GX} {o : Mm} {n : Nat} {a1 : Nat} {rv : Int32} {hz : Mm} (ha1 : isO false 0 a1) {x2 : Int32} {h : Mm} (hF : X12_steps_36 n a1 x2 h = some (rv, hz)) : V X G RX12 cX12_steps 3 (some .int) 92 0 0 (QR X G false o (some (.int rv)) hz) false o 36 [(0, .ref (xa X 251)), (1, .ref (xa X a1)), (2, .int x2)] [] h := by
  unfold X12_steps_36 at hF
  refine V.aload_n 0 dX12_steps_36 rfl rfl ?_
  refine V.aload_n 1 dX12_steps_37 rfl rfl ?_
  refine V.aload_n 0 dX12_steps_38 rfl rfl ?_
  refine V.getR (v := 262) fl_X12_55 sh_251 rfl fx_251_24 (by decide) dX12_steps_39 ?_
  refine V.iload_n 2 dX12_steps_42 rfl rfl ?_
  refine V.iconst (v := 1) dX12_steps_43 rfl ?_
  refine V.iadd dX12_steps_44 ?_
  obtain ⟨hk, hF⟩ := ck hF
  refine V.iald io_262 hk dX12_steps_45 ?_
  refine V.aload_n 0 dX12_steps_46 rfl rfl ?_
  refine V.getR (v := 262) fl_X12_55 sh_251 rfl fx_251_24 (by decide) dX12_steps_47 ?_
  refine V.iload_n 2 dX12_steps_50 rfl rfl ?_
  refine V.iconst (v := 2) dX12_steps_51 rfl ?_
  refine V.iadd dX12_steps_52 ?_
  obtain ⟨hk, hF⟩ := ck hF
  refine V.iald io_262 hk dX12_steps_53 ?_
  refine V.aload_n 0 dX12_steps_54 rfl rfl ?_
  refine V.getR (v := 262) fl_X12_55 sh_251 rfl fx_251_24 (by decide) dX12_steps_55 ?_
  refine V.iload_n 2 dX12_steps_58 rfl rfl ?_
  obtain ⟨hk, hF⟩ := ck hF
  refine V.iald io_262 hk dX12_steps_59 ?_
  refine V.iconst (v := 1) dX12_steps_60 rfl ?_
  refine V.icmp_ne (tgt := 68) dX12_steps_61 rfl (fun c => ?_) (fun c => ?_)
  · replace hF := (if_neg c).symm.trans hF
    refine V.iconst (v := 0) dX12_steps_68 rfl ?_
    exact V.sub [] rfl (v_X12_steps_69 ha1 hF)
  · replace hF := (if_pos c).symm.trans hF
    refine V.iconst (v := 1) dX12_steps_64 rfl ?_
    refine V.goto (tgt := 69) dX12_steps_65 rfl ?_
    exact V.sub [] rfl (v_X12_steps_69 ha1 hF)
def X12_steps (n : Nat) (a1 : Nat) (x2 : Int32) (h : Mm) : Option (Int32 × Mm) := (if inB x2 (aln 262) then (if (h.1 262 x2.toNatClampNeg) = 0 then (X12_steps_36 n a1 x2 h) else (if (h.1 262 x2.toNatClampNeg) = 1 then (X12_steps_36 n a1 x2 h) else (if (h.1 262 x2.toNatClampNeg) = 2 then (bd (X12_drinks a1 h) (fun _ h21 => (some ((0), h21)))) else (if (h.1 262 x2.toNatClampNeg) = 3 then (bd (X12_goNight n a1 h) (fun r22 h24 => (some (r22, h24)))) else (if inB (x2 + (1)) (aln 262) then (if inB (23) (aln a1) then (if inB (26) (aln a1) then (some ((0), (wI (wI h a1 (23).toNatClampNeg (h.1 262 (x2 + (1)).toNatClampNeg)) a1 (26).toNatClampNeg (1)))) else none) else none) else none))))) else none)
set_option maxRecDepth 100000 in
set_option maxHeartbeats 4000000 in
theorem s_X12_steps {X : WX} {o : Mm} {n : Nat} {a1 : Nat} {x2 : Int32} {rv : Int32} {hz : Mm} {h : Mm} (ha1 : isO false 0 a1) (hF : X12_steps n a1 x2 h = some (rv, hz)) : Sat X yX12_steps cX12_steps 3 (some .int) 92 [.ref (xa X 251), .ref (xa X a1), .int x2] false o h (some (.int rv)) hz := by
  unfold X12_steps at hF
  refine Sat.mk (own := RX12) rfl (by decide +kernel) (Nat.le_of_ble_eq_true rfl) (fun G => ?_)
  refine V.sub (lv2 := [(0, _), (1, _), (2, _)]) [0, 1, 2] rfl ?_
  refine V.aload_n 0 dX12_steps_0 rfl rfl ?_
  refine V.getR (v := 262) fl_X12_55 sh_251 rfl fx_251_24 (by decide) dX12_steps_1 ?_
  refine V.iload_n 2 dX12_steps_4 rfl rfl ?_
  obtain ⟨hk, hF⟩ := ck hF
  refine V.iald io_262 hk dX12_steps_5 ?_
  by_cases c0 : (h.1 262 x2.toNatClampNeg) = 0
  · replace hF := (if_pos c0).symm.trans hF
    refine V.tswIn (tgt := 36) c0 dX12_steps_6 (by decide) (by decide) rfl rfl ?_
    exact (v_X12_steps_36 ha1 hF)
  replace hF := (if_neg c0).symm.trans hF
  by_cases c1 : (h.1 262 x2.toNatClampNeg) = 1
  · replace hF := (if_pos c1).symm.trans hF
    refine V.tswIn (tgt := 36) c1 dX12_steps_6 (by decide) (by decide) rfl rfl ?_
    exact (v_X12_steps_36 ha1 hF)
  replace hF := (if_neg c1).symm.trans hF
  by_cases c2 : (h.1 262 x2.toNatClampNeg) = 2
  · replace hF := (if_pos c2).symm.trans hF
    refine V.tswIn (tgt := 74) c2 dX12_steps_6 (by decide) (by decide) rfl rfl ?_
    refine V.aload_n 1 dX12_steps_74 rfl rfl ?_
    obtain ⟨r19, h21, hc20, hF⟩ := bd_s hF
    refine V.callSv mf_X12_drinks ml_X12_369 (s_X12_drinks ha1 hc20) (by decide) rfl rfl (Nat.le_of_ble_eq_true rfl) dX12_steps_75 ?_
    refine V.iconst (v := 0) dX12_steps_78 rfl ?_
    cases hF
    exact V.iret dX12_steps_79
  replace hF := (if_neg c2).symm.trans hF
  by_cases c3 : (h.1 262 x2.toNatClampNeg) = 3
  · replace hF := (if_pos c3).symm.trans hF
    refine V.tswIn (tgt := 80) c3 dX12_steps_6 (by decide) (by decide) rfl rfl ?_
    refine V.aload_n 0 dX12_steps_80 rfl rfl ?_
    refine V.aload_n 1 dX12_steps_81 rfl rfl ?_
    obtain ⟨r22, h24, hc23, hF⟩ := bd_s hF
    refine V.callVi mf_X12_goNight ml_X12_377 sh_251 (s_X12_goNight ha1 hc23) (by decide) rfl rfl (Nat.le_of_ble_eq_true rfl) dX12_steps_82 ?_
    cases hF
    exact V.iret dX12_steps_85
  replace hF := (if_neg c3).symm.trans hF
  refine V.tswOut (tgt := 86) dX12_steps_6 (tsw_out (by decide) (by decide) [0, 1, 2, 3] rfl (fun v hv => ?_)) rfl ?_
  · simp only [List.mem_cons, List.not_mem_nil, or_false] at hv
    rcases hv with rfl | rfl | rfl | rfl <;> assumption
  refine V.aload_n 1 dX12_steps_86 rfl rfl ?_
  refine V.bipush (v := 23) dX12_steps_87 (by decide) ?_
  refine V.aload_n 0 dX12_steps_89 rfl rfl ?_
  refine V.getR (v := 262) fl_X12_55 sh_251 rfl fx_251_24 (by decide) dX12_steps_90 ?_
  refine V.iload_n 2 dX12_steps_93 rfl rfl ?_
  refine V.iconst (v := 1) dX12_steps_94 rfl ?_
  refine V.iadd dX12_steps_95 ?_
  obtain ⟨hk, hF⟩ := ck hF
  refine V.iald io_262 hk dX12_steps_96 ?_
  obtain ⟨hk, hF⟩ := ck hF
  refine V.iast ha1 hk dX12_steps_97 ?_
  refine V.aload_n 1 dX12_steps_98 rfl rfl ?_
  refine V.bipush (v := 26) dX12_steps_99 (by decide) ?_
  refine V.iconst (v := 1) dX12_steps_101 rfl ?_
  obtain ⟨hk, hF⟩ := ck hF
  refine V.iast ha1 hk dX12_steps_102 ?_
  refine V.iconst (v := 0) dX12_steps_103 rfl ?_
  cases hF
  exact V.iret dX12_steps_104
/-! MonsterCotModel.run -/
theorem dX12_run_0 : decode cX12_run 0 = .ok (.aload_n 0, 1) := by decide +kernel
theorem dX12_run_1 : decode cX12_run 1 = .ok (.iconst 0, 1) := by decide +kernel
theorem dX12_run_2 : decode cX12_run 2 = .ok (.putfield 93, 3) := by decide +kernel
theorem dX12_run_5 : decode cX12_run 5 = .ok (.aload_n 0, 1) := by decide +kernel
theorem dX12_run_6 : decode cX12_run 6 = .ok (.iload_n 1, 1) := by decide +kernel
theorem dX12_run_7 : decode cX12_run 7 = .ok (.invokevirtual 397, 3) := by decide +kernel
theorem dX12_run_10 : decode cX12_run 10 = .ok (.ifCond .eq 20, 3) := by decide +kernel
theorem dX12_run_13 : decode cX12_run 13 = .ok (.aload_n 0, 1) := by decide +kernel
theorem dX12_run_14 : decode cX12_run 14 = .ok (.getfield 291, 3) := by decide +kernel
theorem dX12_run_17 : decode cX12_run 17 = .ok (.ifCond .eq 13, 3) := by decide +kernel
theorem dX12_run_20 : decode cX12_run 20 = .ok (.iload_n 2, 1) := by decide +kernel
theorem dX12_run_21 : decode cX12_run 21 = .ok (.i2l, 1) := by decide +kernel
theorem dX12_run_22 : decode cX12_run 22 = .ok (.lconst 0, 1) := by decide +kernel
theorem dX12_run_23 : decode cX12_run 23 = .ok (.lconst 1, 1) := by decide +kernel
theorem dX12_run_24 : decode cX12_run 24 = .ok (.invokestatic 214, 3) := by decide +kernel
theorem dX12_run_27 : decode cX12_run 27 = .ok (.ifCond .ne 7, 3) := by decide +kernel
theorem dX12_run_30 : decode cX12_run 30 = .ok (.ldc_w 400, 3) := by decide +kernel
theorem dX12_run_33 : decode cX12_run 33 = .ok (.ireturn, 1) := by decide +kernel
theorem dX12_run_34 : decode cX12_run 34 = .ok (.aload_n 0, 1) := by decide +kernel
theorem dX12_run_35 : decode cX12_run 35 = .ok (.getfield 61, 3) := by decide +kernel
theorem dX12_run_38 : decode cX12_run 38 = .ok (.aload_n 0, 1) := by decide +kernel
theorem dX12_run_39 : decode cX12_run 39 = .ok (.getfield 64, 3) := by decide +kernel
theorem dX12_run_42 : decode cX12_run 42 = .ok (.invokestatic 401, 3) := by decide +kernel
theorem dX12_run_45 : decode cX12_run 45 = .ok (.iconst 0, 1) := by decide +kernel
theorem dX12_run_46 : decode cX12_run 46 = .ok (.istore_n 3, 1) := by decide +kernel
theorem dX12_run_47 : decode cX12_run 47 = .ok (.iconst 0, 1) := by decide +kernel
theorem dX12_run_48 : decode cX12_run 48 = .ok (.istore 4, 2) := by decide +kernel
theorem dX12_run_50 : decode cX12_run 50 = .ok (.iload_n 3, 1) := by decide +kernel
theorem dX12_run_51 : decode cX12_run 51 = .ok (.aload_n 0, 1) := by decide +kernel
theorem dX12_run_52 : decode cX12_run 52 = .ok (.getfield 58, 3) := by decide +kernel
theorem dX12_run_55 : decode cX12_run 55 = .ok (.iload_n 1, 1) := by decide +kernel
theorem dX12_run_56 : decode cX12_run 56 = .ok (.iaload, 1) := by decide +kernel
theorem dX12_run_57 : decode cX12_run 57 = .ok (.if_icmp .ge 49, 3) := by decide +kernel
theorem dX12_run_60 : decode cX12_run 60 = .ok (.aload_n 0, 1) := by decide +kernel
theorem dX12_run_61 : decode cX12_run 61 = .ok (.aload_n 0, 1) := by decide +kernel
theorem dX12_run_62 : decode cX12_run 62 = .ok (.getfield 64, 3) := by decide +kernel
theorem dX12_run_65 : decode cX12_run 65 = .ok (.iconst 3, 1) := by decide +kernel
theorem dX12_run_66 : decode cX12_run 66 = .ok (.bipush 16, 2) := by decide +kernel
theorem dX12_run_68 : decode cX12_run 68 = .ok (.iload_n 1, 1) := by decide +kernel
theorem dX12_run_69 : decode cX12_run 69 = .ok (.imul, 1) := by decide +kernel
theorem dX12_run_70 : decode cX12_run 70 = .ok (.iload_n 3, 1) := by decide +kernel
theorem dX12_run_71 : decode cX12_run 71 = .ok (.iadd, 1) := by decide +kernel
theorem dX12_run_72 : decode cX12_run 72 = .ok (.imul, 1) := by decide +kernel
theorem dX12_run_73 : decode cX12_run 73 = .ok (.invokevirtual 405, 3) := by decide +kernel
theorem dX12_run_76 : decode cX12_run 76 = .ok (.ifCond .eq 30, 3) := by decide +kernel
theorem dX12_run_79 : decode cX12_run 79 = .ok (.iload 4, 2) := by decide +kernel
theorem dX12_run_81 : decode cX12_run 81 = .ok (.aload_n 0, 1) := by decide +kernel
theorem dX12_run_82 : decode cX12_run 82 = .ok (.aload_n 0, 1) := by decide +kernel
theorem dX12_run_83 : decode cX12_run 83 = .ok (.getfield 64, 3) := by decide +kernel
theorem dX12_run_86 : decode cX12_run 86 = .ok (.iconst 3, 1) := by decide +kernel
theorem dX12_run_87 : decode cX12_run 87 = .ok (.bipush 16, 2) := by decide +kernel
theorem dX12_run_89 : decode cX12_run 89 = .ok (.iload_n 1, 1) := by decide +kernel
theorem dX12_run_90 : decode cX12_run 90 = .ok (.imul, 1) := by decide +kernel
theorem dX12_run_91 : decode cX12_run 91 = .ok (.iload_n 3, 1) := by decide +kernel
theorem dX12_run_92 : decode cX12_run 92 = .ok (.iadd, 1) := by decide +kernel
theorem dX12_run_93 : decode cX12_run 93 = .ok (.imul, 1) := by decide +kernel
theorem dX12_run_94 : decode cX12_run 94 = .ok (.invokevirtual 408, 3) := by decide +kernel
theorem dX12_run_97 : decode cX12_run 97 = .ok (.iadd, 1) := by decide +kernel
theorem dX12_run_98 : decode cX12_run 98 = .ok (.istore 4, 2) := by decide +kernel
theorem dX12_run_100 : decode cX12_run 100 = .ok (.iinc 3 1, 3) := by decide +kernel
theorem dX12_run_103 : decode cX12_run 103 = .ok (.goto (-53), 3) := by decide +kernel
theorem dX12_run_106 : decode cX12_run 106 = .ok (.iload_n 2, 1) := by decide +kernel
theorem dX12_run_107 : decode cX12_run 107 = .ok (.iconst 1, 1) := by decide +kernel
theorem dX12_run_108 : decode cX12_run 108 = .ok (.if_icmp .ne 6, 3) := by decide +kernel
theorem dX12_run_111 : decode cX12_run 111 = .ok (.iload 4, 2) := by decide +kernel
theorem dX12_run_113 : decode cX12_run 113 = .ok (.ireturn, 1) := by decide +kernel
theorem dX12_run_114 : decode cX12_run 114 = .ok (.iload_n 3, 1) := by decide +kernel
theorem dX12_run_115 : decode cX12_run 115 = .ok (.aload_n 0, 1) := by decide +kernel
theorem dX12_run_116 : decode cX12_run 116 = .ok (.getfield 58, 3) := by decide +kernel
theorem dX12_run_119 : decode cX12_run 119 = .ok (.iload_n 1, 1) := by decide +kernel
theorem dX12_run_120 : decode cX12_run 120 = .ok (.iaload, 1) := by decide +kernel
theorem dX12_run_121 : decode cX12_run 121 = .ok (.if_icmp .ne 7, 3) := by decide +kernel
theorem dX12_run_124 : decode cX12_run 124 = .ok (.iconst (-1), 1) := by decide +kernel
theorem dX12_run_125 : decode cX12_run 125 = .ok (.goto 4, 3) := by decide +kernel
theorem dX12_run_128 : decode cX12_run 128 = .ok (.iload_n 3, 1) := by decide +kernel
theorem dX12_run_129 : decode cX12_run 129 = .ok (.ireturn, 1) := by decide +kernel
def X12_run_30 (n : Nat) (h : Mm) : Option (Int32 × Mm) := (some ((-1000000), h))
set_option maxRecDepth 100000 in
set_option maxHeartbeats 4000000 in
theorem v_X12_run_30 {X : WX} {G : GX} {o : Mm} {n : Nat} {rv : Int32} {hz : Mm} {h : Mm} (hF : X12_run_30 n h = some (rv, hz)) : V X G RX12 cX12_run 5 (some .int) 93 0 0 (QR X G false o (some (.int rv)) hz) false o 30 [] [] h := by
  unfold X12_run_30 at hF
  refine V.ldcw (v := -1000000) dX12_run_30 kc_X12_400 ?_
  cases hF
  exact V.iret dX12_run_33
def X12_run_106 (n : Nat) (x1 : Int32) (x2 : Int32) (x3 : Int32) (x4 : Int32) (h : Mm) : Option (Int32 × Mm) := (if x2 = (1) then (some (x4, h)) else (if inB x1 (aln 263) then (if x3 = (h.1 263 x1.toNatClampNeg) then (some ((-1), h)) else (some (x3, h))) else none))
set_option maxRecDepth 100000 in
set_option maxHeartbeats 4000000 in
theorem v_X12_run_106 {X : WX} {G : GX} {o : Mm} {n : Nat} {rv : Int32} {hz : Mm} {x1 : Int32} {x2 : Int32} {x3 : Int32} {x4 : Int32} {h : Mm} (hF : X12_run_106 n x1 x2 x3 x4 h = some (rv, hz)) : V X G RX12 cX12_run 5 (some .int) 93 0 0 (QR X G false o (some (.int rv)) hz) false o 106 [(0, .ref (xa X 251)), (1, .int x1), (2, .int x2), (3, .int x3), (4, .int x4)] [] h := by
  unfold X12_run_106 at hF
  refine V.iload_n 2 dX12_run_106 rfl rfl ?_
  refine V.iconst (v := 1) dX12_run_107 rfl ?_
  refine V.icmp_ne (tgt := 114) dX12_run_108 rfl (fun c => ?_) (fun c => ?_)
  · replace hF := (if_neg c).symm.trans hF
    refine V.iload_n 3 dX12_run_114 rfl rfl ?_
    refine V.aload_n 0 dX12_run_115 rfl rfl ?_
    refine V.getR (v := 263) fl_X12_58 sh_251 rfl fx_251_25 (by decide) dX12_run_116 ?_
    refine V.iload_n 1 dX12_run_119 rfl rfl ?_
    obtain ⟨hk, hF⟩ := ck hF
    refine V.iald io_263 hk dX12_run_120 ?_
    refine V.icmp_ne (tgt := 128) dX12_run_121 rfl (fun c => ?_) (fun c => ?_)
    · replace hF := (if_neg c).symm.trans hF
      refine V.iload_n 3 dX12_run_128 rfl rfl ?_
      cases hF
      exact V.iret dX12_run_129
    · replace hF := (if_pos c).symm.trans hF
      refine V.iconst (v := -1) dX12_run_124 rfl ?_
      refine V.goto (tgt := 129) dX12_run_125 rfl ?_
      cases hF
      exact V.iret dX12_run_129
  · replace hF := (if_pos c).symm.trans hF
    refine V.iload 4 dX12_run_111 rfl ?_
    cases hF
    exact V.iret dX12_run_113
def X12_run_50 (n : Nat) : Nat → Int32 → Int32 → Int32 → Int32 → Mm → Option (Int32 × Mm)
  | 0, _, _, _, _, _ => none
  | f + 1, x1, x2, x3, x4, h => (if inB x1 (aln 263) then (if (h.1 263 x1.toNatClampNeg) ≤ x3 then (X12_run_106 n x1 x2 x3 x4 h) else (bp (X12_canStep 265 ((3) * (((16) * x1) + x3)) h) (fun r37 => (if r37 = true then (bd (X12_steps n 265 ((3) * (((16) * x1) + x3)) h) (fun r39 h41 => ((X12_run_50 n f) x1 x2 (x3 + (1)) (x4 + r39) h41))) else (X12_run_106 n x1 x2 x3 x4 h))))) else none)
set_option maxRecDepth 100000 in
set_option maxHeartbeats 4000000 in
theorem v_X12_run_50 {X : WX} {G : GX} {o : Mm} {n : Nat} {rv : Int32} {hz : Mm} : ∀ (f : Nat) (x1 : Int32) (x2 : Int32) (x3 : Int32) (x4 : Int32) (h : Mm), X12_run_50 n f x1 x2 x3 x4 h = some (rv, hz) → V X G RX12 cX12_run 5 (some .int) 93 0 0 (QR X G false o (some (.int rv)) hz) false o 50 [(0, .ref (xa X 251)), (1, .int x1), (2, .int x2), (3, .int x3), (4, .int x4)] [] h := by
  intro f
  induction f with
  | zero => intro x1 x2 x3 x4 h hF; exact nomatch (show (none : Option (Int32 × Mm)) = some (rv, hz) from hF)
  | succ f ih =>
    intro x1 x2 x3 x4 h hF
    unfold X12_run_50 at hF
    refine V.iload_n 3 dX12_run_50 rfl rfl ?_
    refine V.aload_n 0 dX12_run_51 rfl rfl ?_
    refine V.getR (v := 263) fl_X12_58 sh_251 rfl fx_251_25 (by decide) dX12_run_52 ?_
    refine V.iload_n 1 dX12_run_55 rfl rfl ?_
    obtain ⟨hk, hF⟩ := ck hF
    refine V.iald io_263 hk dX12_run_56 ?_
    refine V.icmp_ge (tgt := 106) dX12_run_57 rfl (fun c => ?_) (fun c => ?_)
    · replace hF := (if_pos c).symm.trans hF
      exact (v_X12_run_106 hF)
    · replace hF := (if_neg c).symm.trans hF
      refine V.aload_n 0 dX12_run_60 rfl rfl ?_
      refine V.aload_n 0 dX12_run_61 rfl rfl ?_
      refine V.getR (v := 265) fl_X12_64 sh_251 rfl fx_251_33 (by decide) dX12_run_62 ?_
      refine V.iconst (v := 3) dX12_run_65 rfl ?_
      refine V.bipush (v := 16) dX12_run_66 (by decide) ?_
      refine V.iload_n 1 dX12_run_68 rfl rfl ?_
      refine V.imul dX12_run_69 ?_
      refine V.iload_n 3 dX12_run_70 rfl rfl ?_
      refine V.iadd dX12_run_71 ?_
      refine V.imul dX12_run_72 ?_
      obtain ⟨r37, hc38, hF⟩ := bp_s hF
      refine V.callVi mf_X12_canStep ml_X12_405 sh_251 (s_X12_canStep io_265 hc38) (by decide) rfl rfl (Nat.le_of_ble_eq_true rfl) dX12_run_73 ?_
      refine V.ifz_eq (tgt := 106) dX12_run_76 rfl (fun c => ?_) (fun c => ?_)
      · replace hF := (if_neg c).symm.trans hF
        exact (v_X12_run_106 hF)
      · replace hF := (if_pos c).symm.trans hF
        refine V.iload 4 dX12_run_79 rfl ?_
        refine V.aload_n 0 dX12_run_81 rfl rfl ?_
        refine V.aload_n 0 dX12_run_82 rfl rfl ?_
        refine V.getR (v := 265) fl_X12_64 sh_251 rfl fx_251_33 (by decide) dX12_run_83 ?_
        refine V.iconst (v := 3) dX12_run_86 rfl ?_
        refine V.bipush (v := 16) dX12_run_87 (by decide) ?_
        refine V.iload_n 1 dX12_run_89 rfl rfl ?_
        refine V.imul dX12_run_90 ?_
        refine V.iload_n 3 dX12_run_91 rfl rfl ?_
        refine V.iadd dX12_run_92 ?_
        refine V.imul dX12_run_93 ?_
        obtain ⟨r39, h41, hc40, hF⟩ := bd_s hF
        refine V.callVi mf_X12_steps ml_X12_408 sh_251 (s_X12_steps io_265 hc40) (by decide) rfl rfl (Nat.le_of_ble_eq_true rfl) dX12_run_94 ?_
        refine V.iadd dX12_run_97 ?_
        refine V.istore [(4, _), (0, _), (1, _), (2, _), (3, _)] dX12_run_98 (by decide) rfl ?_
        refine V.iinc (v := (x3 + (1))) 4 [(3, _), (4, _), (0, _), (1, _), (2, _)] dX12_run_100 rfl rfl (by decide) rfl ?_
        refine V.goto (tgt := 50) dX12_run_103 rfl ?_
        exact V.sub [2, 3, 4, 0, 1] rfl (ih _ _ _ _ _ hF)
def X12_run (n : Nat) (x1 : Int32) (x2 : Int32) (h : Mm) : Option (Int32 × Mm) := (bp (X12_isWeek x1 (wI h 251 0 (0))) (fun r42 => (if r42 = true then (if ((wI h 251 0 (0)).1 251 27) = 0 then (X12_run_30 n (wI h 251 0 (0))) else (bp (X12_isIn x2.toInt64 (0 : Int64) (1 : Int64) (wI h 251 0 (0))) (fun r44 => (if r44 = true then (bd (X12_copy n 264 265 (wI h 251 0 (0))) (fun _ h48 => (X12_run_50 n n x1 x2 (0) (0) h48))) else (X12_run_30 n (wI h 251 0 (0))))))) else (X12_run_30 n (wI h 251 0 (0))))))
set_option maxRecDepth 100000 in
set_option maxHeartbeats 4000000 in
theorem s_X12_run {X : WX} {o : Mm} {n : Nat} {x1 : Int32} {x2 : Int32} {rv : Int32} {hz : Mm} {h : Mm} (hF : X12_run n x1 x2 h = some (rv, hz)) : Sat X yX12_run cX12_run 5 (some .int) 93 [.ref (xa X 251), .int x1, .int x2] false o h (some (.int rv)) hz := by
  unfold X12_run at hF
  refine Sat.mk (own := RX12) rfl (by decide +kernel) (Nat.le_of_ble_eq_true rfl) (fun G => ?_)
  refine V.sub (lv2 := [(0, _), (1, _), (2, _)]) [0, 1, 2] rfl ?_
  refine V.aload_n 0 dX12_run_0 rfl rfl ?_
  refine V.iconst (v := 0) dX12_run_1 rfl ?_
  refine V.putI fl_X12_93 rfl (tyX12_ok 0 (by decide)) rfl rfl sh_251 rfl km_251 dX12_run_2 ?_
  refine V.aload_n 0 dX12_run_5 rfl rfl ?_
  refine V.iload_n 1 dX12_run_6 rfl rfl ?_
  obtain ⟨r42, hc43, hF⟩ := bp_s hF
  refine V.callVi mf_X12_isWeek ml_X12_397 sh_251 (s_X12_isWeek hc43) (by decide) rfl rfl (Nat.le_of_ble_eq_true rfl) dX12_run_7 ?_
  refine V.ifz_eq (tgt := 30) dX12_run_10 rfl (fun c => ?_) (fun c => ?_)
  · replace hF := (if_neg c).symm.trans hF
    exact V.sub [] rfl (v_X12_run_30 hF)
  · replace hF := (if_pos c).symm.trans hF
    refine V.aload_n 0 dX12_run_13 rfl rfl ?_
    refine V.getI fl_X12_291 sh_251 rfl km_251 dX12_run_14 ?_
    refine V.if_eq (tgt := 30) dX12_run_17 rfl (fun c => ?_) (fun c => ?_)
    · replace hF := (if_pos c).symm.trans hF
      exact V.sub [] rfl (v_X12_run_30 hF)
    · replace hF := (if_neg c).symm.trans hF
      refine V.iload_n 2 dX12_run_20 rfl rfl ?_
      refine V.i2l dX12_run_21 ?_
      refine V.lconst (v := 0) dX12_run_22 rfl ?_
      refine V.lconst (v := 1) dX12_run_23 rfl ?_
      obtain ⟨r44, hc45, hF⟩ := bp_s hF
      refine V.callSi mf_X12_isIn ml_X12_214 (s_X12_isIn hc45) (by decide) rfl rfl (Nat.le_of_ble_eq_true rfl) dX12_run_24 ?_
      refine V.ifz_ne (tgt := 34) dX12_run_27 rfl (fun c => ?_) (fun c => ?_)
      · replace hF := (if_pos c).symm.trans hF
        refine V.aload_n 0 dX12_run_34 rfl rfl ?_
        refine V.getR (v := 264) fl_X12_61 sh_251 rfl fx_251_32 (by decide) dX12_run_35 ?_
        refine V.aload_n 0 dX12_run_38 rfl rfl ?_
        refine V.getR (v := 265) fl_X12_64 sh_251 rfl fx_251_33 (by decide) dX12_run_39 ?_
        obtain ⟨r46, h48, hc47, hF⟩ := bd_s hF
        refine V.callSv mf_X12_copy ml_X12_401 (s_X12_copy io_264 io_265 hc47) (by decide) rfl rfl (Nat.le_of_ble_eq_true rfl) dX12_run_42 ?_
        refine V.iconst (v := 0) dX12_run_45 rfl ?_
        refine V.istore_n [(3, _), (0, _), (1, _), (2, _)] dX12_run_46 rfl (by decide) rfl ?_
        refine V.iconst (v := 0) dX12_run_47 rfl ?_
        refine V.istore [(4, _), (3, _), (0, _), (1, _), (2, _)] dX12_run_48 (by decide) rfl ?_
        exact V.sub [2, 3, 4, 1, 0] rfl (v_X12_run_50 n _ _ _ _ _ hF)
      · replace hF := (if_neg c).symm.trans hF
        exact V.sub [] rfl (v_X12_run_30 hF)
/-! MonsterCotModel.perform -/
theorem dX12_perform_0 : decode cX12_perform 0 = .ok (.aload_n 0, 1) := by decide +kernel
theorem dX12_perform_1 : decode cX12_perform 1 = .ok (.iconst 0, 1) := by decide +kernel
theorem dX12_perform_2 : decode cX12_perform 2 = .ok (.putfield 93, 3) := by decide +kernel
theorem dX12_perform_5 : decode cX12_perform 5 = .ok (.aload_n 0, 1) := by decide +kernel
theorem dX12_perform_6 : decode cX12_perform 6 = .ok (.iload_n 1, 1) := by decide +kernel
theorem dX12_perform_7 : decode cX12_perform 7 = .ok (.invokevirtual 397, 3) := by decide +kernel
theorem dX12_perform_10 : decode cX12_perform 10 = .ok (.ifCond .eq 10, 3) := by decide +kernel
theorem dX12_perform_13 : decode cX12_perform 13 = .ok (.aload_n 0, 1) := by decide +kernel
theorem dX12_perform_14 : decode cX12_perform 14 = .ok (.getfield 291, 3) := by decide +kernel
theorem dX12_perform_17 : decode cX12_perform 17 = .ok (.ifCond .ne 5, 3) := by decide +kernel
theorem dX12_perform_20 : decode cX12_perform 20 = .ok (.iconst (-1), 1) := by decide +kernel
theorem dX12_perform_21 : decode cX12_perform 21 = .ok (.ireturn, 1) := by decide +kernel
theorem dX12_perform_22 : decode cX12_perform 22 = .ok (.iconst 0, 1) := by decide +kernel
theorem dX12_perform_23 : decode cX12_perform 23 = .ok (.istore_n 2, 1) := by decide +kernel
theorem dX12_perform_24 : decode cX12_perform 24 = .ok (.iload_n 2, 1) := by decide +kernel
theorem dX12_perform_25 : decode cX12_perform 25 = .ok (.aload_n 0, 1) := by decide +kernel
theorem dX12_perform_26 : decode cX12_perform 26 = .ok (.getfield 58, 3) := by decide +kernel
theorem dX12_perform_29 : decode cX12_perform 29 = .ok (.iload_n 1, 1) := by decide +kernel
theorem dX12_perform_30 : decode cX12_perform 30 = .ok (.iaload, 1) := by decide +kernel
theorem dX12_perform_31 : decode cX12_perform 31 = .ok (.if_icmp .ge 49, 3) := by decide +kernel
theorem dX12_perform_34 : decode cX12_perform 34 = .ok (.aload_n 0, 1) := by decide +kernel
theorem dX12_perform_35 : decode cX12_perform 35 = .ok (.aload_n 0, 1) := by decide +kernel
theorem dX12_perform_36 : decode cX12_perform 36 = .ok (.getfield 61, 3) := by decide +kernel
theorem dX12_perform_39 : decode cX12_perform 39 = .ok (.iconst 3, 1) := by decide +kernel
theorem dX12_perform_40 : decode cX12_perform 40 = .ok (.bipush 16, 2) := by decide +kernel
theorem dX12_perform_42 : decode cX12_perform 42 = .ok (.iload_n 1, 1) := by decide +kernel
theorem dX12_perform_43 : decode cX12_perform 43 = .ok (.imul, 1) := by decide +kernel
theorem dX12_perform_44 : decode cX12_perform 44 = .ok (.iload_n 2, 1) := by decide +kernel
theorem dX12_perform_45 : decode cX12_perform 45 = .ok (.iadd, 1) := by decide +kernel
theorem dX12_perform_46 : decode cX12_perform 46 = .ok (.imul, 1) := by decide +kernel
theorem dX12_perform_47 : decode cX12_perform 47 = .ok (.invokevirtual 405, 3) := by decide +kernel
theorem dX12_perform_50 : decode cX12_perform 50 = .ok (.ifCond .eq 30, 3) := by decide +kernel
theorem dX12_perform_53 : decode cX12_perform 53 = .ok (.aload_n 0, 1) := by decide +kernel
theorem dX12_perform_54 : decode cX12_perform 54 = .ok (.invokevirtual 362, 3) := by decide +kernel
theorem dX12_perform_57 : decode cX12_perform 57 = .ok (.aload_n 0, 1) := by decide +kernel
theorem dX12_perform_58 : decode cX12_perform 58 = .ok (.aload_n 0, 1) := by decide +kernel
theorem dX12_perform_59 : decode cX12_perform 59 = .ok (.getfield 61, 3) := by decide +kernel
theorem dX12_perform_62 : decode cX12_perform 62 = .ok (.iconst 3, 1) := by decide +kernel
theorem dX12_perform_63 : decode cX12_perform 63 = .ok (.bipush 16, 2) := by decide +kernel
theorem dX12_perform_65 : decode cX12_perform 65 = .ok (.iload_n 1, 1) := by decide +kernel
theorem dX12_perform_66 : decode cX12_perform 66 = .ok (.imul, 1) := by decide +kernel
theorem dX12_perform_67 : decode cX12_perform 67 = .ok (.iload_n 2, 1) := by decide +kernel
theorem dX12_perform_68 : decode cX12_perform 68 = .ok (.iadd, 1) := by decide +kernel
theorem dX12_perform_69 : decode cX12_perform 69 = .ok (.imul, 1) := by decide +kernel
theorem dX12_perform_70 : decode cX12_perform 70 = .ok (.invokevirtual 408, 3) := by decide +kernel
theorem dX12_perform_73 : decode cX12_perform 73 = .ok (.istore_n 3, 1) := by decide +kernel
theorem dX12_perform_74 : decode cX12_perform 74 = .ok (.iinc 2 1, 3) := by decide +kernel
theorem dX12_perform_77 : decode cX12_perform 77 = .ok (.goto (-53), 3) := by decide +kernel
theorem dX12_perform_80 : decode cX12_perform 80 = .ok (.iload_n 2, 1) := by decide +kernel
theorem dX12_perform_81 : decode cX12_perform 81 = .ok (.ireturn, 1) := by decide +kernel
def X12_perform_80 (n : Nat) (x2 : Int32) (h : Mm) : Option (Int32 × Mm) := (some (x2, h))
set_option maxRecDepth 100000 in
set_option maxHeartbeats 4000000 in
theorem v_X12_perform_80 {X : WX} {G : GX} {o : Mm} {n : Nat} {rv : Int32} {hz : Mm} {x2 : Int32} {h : Mm} (hF : X12_perform_80 n x2 h = some (rv, hz)) : V X G RX12 cX12_perform 4 (some .int) 93 0 0 (QR X G false o (some (.int rv)) hz) false o 80 [(2, .int x2)] [] h := by
  unfold X12_perform_80 at hF
  refine V.iload_n 0 dX12_perform_80 rfl rfl ?_
  cases hF
  exact V.iret dX12_perform_81
def X12_perform_24 (n : Nat) : Nat → Int32 → Int32 → Mm → Option (Int32 × Mm)
  | 0, _, _, _ => none
  | f + 1, x1, x2, h => (if inB x1 (aln 263) then (if (h.1 263 x1.toNatClampNeg) ≤ x2 then (X12_perform_80 n x2 h) else (bp (X12_canStep 264 ((3) * (((16) * x1) + x2)) h) (fun r31 => (if r31 = true then (bd (X12_remember n h) (fun _ h35 => (bd (X12_steps n 264 ((3) * (((16) * x1) + x2)) h35) (fun r36 h38 => ((X12_perform_24 n f) x1 (x2 + (1)) h38))))) else (X12_perform_80 n x2 h))))) else none)
set_option maxRecDepth 100000 in
set_option maxHeartbeats 4000000 in
theorem v_X12_perform_24 {X : WX} {G : GX} {o : Mm} {n : Nat} {rv : Int32} {hz : Mm} : ∀ (f : Nat) (x1 : Int32) (x2 : Int32) (h : Mm), X12_perform_24 n f x1 x2 h = some (rv, hz) → V X G RX12 cX12_perform 4 (some .int) 93 0 0 (QR X G false o (some (.int rv)) hz) false o 24 [(0, .ref (xa X 251)), (1, .int x1), (2, .int x2)] [] h := by
  intro f
  induction f with
  | zero => intro x1 x2 h hF; exact nomatch (show (none : Option (Int32 × Mm)) = some (rv, hz) from hF)
  | succ f ih =>
    intro x1 x2 h hF
    unfold X12_perform_24 at hF
    refine V.iload_n 2 dX12_perform_24 rfl rfl ?_
    refine V.aload_n 0 dX12_perform_25 rfl rfl ?_
    refine V.getR (v := 263) fl_X12_58 sh_251 rfl fx_251_25 (by decide) dX12_perform_26 ?_
    refine V.iload_n 1 dX12_perform_29 rfl rfl ?_
    obtain ⟨hk, hF⟩ := ck hF
    refine V.iald io_263 hk dX12_perform_30 ?_
    refine V.icmp_ge (tgt := 80) dX12_perform_31 rfl (fun c => ?_) (fun c => ?_)
    · replace hF := (if_pos c).symm.trans hF
      exact V.sub [2] rfl (v_X12_perform_80 hF)
    · replace hF := (if_neg c).symm.trans hF
      refine V.aload_n 0 dX12_perform_34 rfl rfl ?_
      refine V.aload_n 0 dX12_perform_35 rfl rfl ?_
      refine V.getR (v := 264) fl_X12_61 sh_251 rfl fx_251_32 (by decide) dX12_perform_36 ?_
      refine V.iconst (v := 3) dX12_perform_39 rfl ?_
      refine V.bipush (v := 16) dX12_perform_40 (by decide) ?_
      refine V.iload_n 1 dX12_perform_42 rfl rfl ?_
      refine V.imul dX12_perform_43 ?_
      refine V.iload_n 2 dX12_perform_44 rfl rfl ?_
      refine V.iadd dX12_perform_45 ?_
      refine V.imul dX12_perform_46 ?_
      obtain ⟨r31, hc32, hF⟩ := bp_s hF
      refine V.callVi mf_X12_canStep ml_X12_405 sh_251 (s_X12_canStep io_264 hc32) (by decide) rfl rfl (Nat.le_of_ble_eq_true rfl) dX12_perform_47 ?_
      refine V.ifz_eq (tgt := 80) dX12_perform_50 rfl (fun c => ?_) (fun c => ?_)
      · replace hF := (if_neg c).symm.trans hF
        exact V.sub [2] rfl (v_X12_perform_80 hF)
      · replace hF := (if_pos c).symm.trans hF
        refine V.aload_n 0 dX12_perform_53 rfl rfl ?_
        obtain ⟨r33, h35, hc34, hF⟩ := bd_s hF
        refine V.callVv mf_X12_remember ml_X12_362 sh_251 (s_X12_remember hc34) (by decide) rfl rfl (Nat.le_of_ble_eq_true rfl) dX12_perform_54 ?_
        refine V.aload_n 0 dX12_perform_57 rfl rfl ?_
        refine V.aload_n 0 dX12_perform_58 rfl rfl ?_
        refine V.getR (v := 264) fl_X12_61 sh_251 rfl fx_251_32 (by decide) dX12_perform_59 ?_
        refine V.iconst (v := 3) dX12_perform_62 rfl ?_
        refine V.bipush (v := 16) dX12_perform_63 (by decide) ?_
        refine V.iload_n 1 dX12_perform_65 rfl rfl ?_
        refine V.imul dX12_perform_66 ?_
        refine V.iload_n 2 dX12_perform_67 rfl rfl ?_
        refine V.iadd dX12_perform_68 ?_
        refine V.imul dX12_perform_69 ?_
        obtain ⟨r36, h38, hc37, hF⟩ := bd_s hF
        refine V.callVi mf_X12_steps ml_X12_408 sh_251 (s_X12_steps io_264 hc37) (by decide) rfl rfl (Nat.le_of_ble_eq_true rfl) dX12_perform_70 ?_
        refine V.istore_n [(3, _), (0, _), (1, _), (2, _)] dX12_perform_73 rfl (by decide) rfl ?_
        refine V.iinc (v := (x2 + (1))) 3 [(2, _), (3, _), (0, _), (1, _)] dX12_perform_74 rfl rfl (by decide) rfl ?_
        refine V.goto (tgt := 24) dX12_perform_77 rfl ?_
        exact V.sub [2, 3, 0] rfl (ih _ _ _ hF)
def X12_perform (n : Nat) (x1 : Int32) (h : Mm) : Option (Int32 × Mm) := (bp (X12_isWeek x1 (wI h 251 0 (0))) (fun r39 => (if r39 = true then (if ((wI h 251 0 (0)).1 251 27) = 0 then (some ((-1), (wI h 251 0 (0)))) else (X12_perform_24 n n x1 (0) (wI h 251 0 (0)))) else (some ((-1), (wI h 251 0 (0)))))))
set_option maxRecDepth 100000 in
set_option maxHeartbeats 4000000 in
theorem s_X12_perform {X : WX} {o : Mm} {n : Nat} {x1 : Int32} {rv : Int32} {hz : Mm} {h : Mm} (hF : X12_perform n x1 h = some (rv, hz)) : Sat X yX12_perform cX12_perform 4 (some .int) 93 [.ref (xa X 251), .int x1] false o h (some (.int rv)) hz := by
  unfold X12_perform at hF
  refine Sat.mk (own := RX12) rfl (by decide +kernel) (Nat.le_of_ble_eq_true rfl) (fun G => ?_)
  refine V.sub (lv2 := [(0, _), (1, _)]) [0, 1] rfl ?_
  refine V.aload_n 0 dX12_perform_0 rfl rfl ?_
  refine V.iconst (v := 0) dX12_perform_1 rfl ?_
  refine V.putI fl_X12_93 rfl (tyX12_ok 0 (by decide)) rfl rfl sh_251 rfl km_251 dX12_perform_2 ?_
  refine V.aload_n 0 dX12_perform_5 rfl rfl ?_
  refine V.iload_n 1 dX12_perform_6 rfl rfl ?_
  obtain ⟨r39, hc40, hF⟩ := bp_s hF
  refine V.callVi mf_X12_isWeek ml_X12_397 sh_251 (s_X12_isWeek hc40) (by decide) rfl rfl (Nat.le_of_ble_eq_true rfl) dX12_perform_7 ?_
  refine V.ifz_eq (tgt := 20) dX12_perform_10 rfl (fun c => ?_) (fun c => ?_)
  · replace hF := (if_neg c).symm.trans hF
    refine V.iconst (v := -1) dX12_perform_20 rfl ?_
    cases hF
    exact V.iret dX12_perform_21
  · replace hF := (if_pos c).symm.trans hF
    refine V.aload_n 0 dX12_perform_13 rfl rfl ?_
    refine V.getI fl_X12_291 sh_251 rfl km_251 dX12_perform_14 ?_
    refine V.if_ne (tgt := 22) dX12_perform_17 rfl (fun c => ?_) (fun c => ?_)
    · replace hF := (if_neg c).symm.trans hF
      refine V.iconst (v := 0) dX12_perform_22 rfl ?_
      refine V.istore_n [(2, _), (0, _), (1, _)] dX12_perform_23 rfl (by decide) rfl ?_
      exact V.sub [1, 2, 0] rfl (v_X12_perform_24 n _ _ _ hF)
    · replace hF := (if_pos c).symm.trans hF
      refine V.iconst (v := -1) dX12_perform_20 rfl ?_
      cases hF
      exact V.iret dX12_perform_21
/-! MonsterCotModel.calms -/
theorem dX12_calms_0 : decode cX12_calms 0 = .ok (.aload_n 0, 1) := by decide +kernel
theorem dX12_calms_1 : decode cX12_calms 1 = .ok (.iconst 0, 1) := by decide +kernel
theorem dX12_calms_2 : decode cX12_calms 2 = .ok (.putfield 93, 3) := by decide +kernel
theorem dX12_calms_5 : decode cX12_calms 5 = .ok (.aload_n 0, 1) := by decide +kernel
theorem dX12_calms_6 : decode cX12_calms 6 = .ok (.getfield 291, 3) := by decide +kernel
theorem dX12_calms_9 : decode cX12_calms 9 = .ok (.ifCond .eq 17, 3) := by decide +kernel
theorem dX12_calms_12 : decode cX12_calms 12 = .ok (.aload_n 0, 1) := by decide +kernel
theorem dX12_calms_13 : decode cX12_calms 13 = .ok (.aload_n 0, 1) := by decide +kernel
theorem dX12_calms_14 : decode cX12_calms 14 = .ok (.getfield 61, 3) := by decide +kernel
theorem dX12_calms_17 : decode cX12_calms 17 = .ok (.iload_n 1, 1) := by decide +kernel
theorem dX12_calms_18 : decode cX12_calms 18 = .ok (.iload_n 2, 1) := by decide +kernel
theorem dX12_calms_19 : decode cX12_calms 19 = .ok (.iconst 0, 1) := by decide +kernel
theorem dX12_calms_20 : decode cX12_calms 20 = .ok (.invokevirtual 355, 3) := by decide +kernel
theorem dX12_calms_23 : decode cX12_calms 23 = .ok (.ifCond .ne 5, 3) := by decide +kernel
theorem dX12_calms_26 : decode cX12_calms 26 = .ok (.iconst (-1), 1) := by decide +kernel
theorem dX12_calms_27 : decode cX12_calms 27 = .ok (.ireturn, 1) := by decide +kernel
theorem dX12_calms_28 : decode cX12_calms 28 = .ok (.aload_n 0, 1) := by decide +kernel
theorem dX12_calms_29 : decode cX12_calms 29 = .ok (.getfield 61, 3) := by decide +kernel
theorem dX12_calms_32 : decode cX12_calms 32 = .ok (.aload_n 0, 1) := by decide +kernel
theorem dX12_calms_33 : decode cX12_calms 33 = .ok (.getfield 64, 3) := by decide +kernel
theorem dX12_calms_36 : decode cX12_calms 36 = .ok (.invokestatic 401, 3) := by decide +kernel
theorem dX12_calms_39 : decode cX12_calms 39 = .ok (.aload_n 0, 1) := by decide +kernel
theorem dX12_calms_40 : decode cX12_calms 40 = .ok (.aload_n 0, 1) := by decide +kernel
theorem dX12_calms_41 : decode cX12_calms 41 = .ok (.getfield 64, 3) := by decide +kernel
theorem dX12_calms_44 : decode cX12_calms 44 = .ok (.iload_n 1, 1) := by decide +kernel
theorem dX12_calms_45 : decode cX12_calms 45 = .ok (.iload_n 2, 1) := by decide +kernel
theorem dX12_calms_46 : decode cX12_calms 46 = .ok (.iconst 0, 1) := by decide +kernel
theorem dX12_calms_47 : decode cX12_calms 47 = .ok (.invokevirtual 365, 3) := by decide +kernel
theorem dX12_calms_50 : decode cX12_calms 50 = .ok (.aload_n 0, 1) := by decide +kernel
theorem dX12_calms_51 : decode cX12_calms 51 = .ok (.getfield 64, 3) := by decide +kernel
theorem dX12_calms_54 : decode cX12_calms 54 = .ok (.bipush 22, 2) := by decide +kernel
theorem dX12_calms_56 : decode cX12_calms 56 = .ok (.iaload, 1) := by decide +kernel
theorem dX12_calms_57 : decode cX12_calms 57 = .ok (.ireturn, 1) := by decide +kernel
def X12_calms (n : Nat) (x1 : Int32) (x2 : Int32) (h : Mm) : Option (Int32 × Mm) := (if ((wI h 251 0 (0)).1 251 27) = 0 then (some ((-1), (wI h 251 0 (0)))) else (bp (X12_canRead 264 x1 x2 false (wI h 251 0 (0))) (fun r9 => (if r9 = true then (bd (X12_copy n 264 265 (wI h 251 0 (0))) (fun _ h13 => (bd (X12_reads n 265 x1 x2 false h13) (fun _ h16 => (if inB (22) (aln 265) then (some ((h16.1 265 (22).toNatClampNeg), h16)) else none))))) else (some ((-1), (wI h 251 0 (0))))))))
set_option maxRecDepth 100000 in
set_option maxHeartbeats 4000000 in
theorem s_X12_calms {X : WX} {o : Mm} {n : Nat} {x1 : Int32} {x2 : Int32} {rv : Int32} {hz : Mm} {h : Mm} (hF : X12_calms n x1 x2 h = some (rv, hz)) : Sat X yX12_calms cX12_calms 3 (some .int) 92 [.ref (xa X 251), .int x1, .int x2] false o h (some (.int rv)) hz := by
  unfold X12_calms at hF
  refine Sat.mk (own := RX12) rfl (by decide +kernel) (Nat.le_of_ble_eq_true rfl) (fun G => ?_)
  refine V.sub (lv2 := [(0, _), (1, _), (2, _)]) [0, 1, 2] rfl ?_
  refine V.aload_n 0 dX12_calms_0 rfl rfl ?_
  refine V.iconst (v := 0) dX12_calms_1 rfl ?_
  refine V.putI fl_X12_93 rfl (tyX12_ok 0 (by decide)) rfl rfl sh_251 rfl km_251 dX12_calms_2 ?_
  refine V.aload_n 0 dX12_calms_5 rfl rfl ?_
  refine V.getI fl_X12_291 sh_251 rfl km_251 dX12_calms_6 ?_
  refine V.if_eq (tgt := 26) dX12_calms_9 rfl (fun c => ?_) (fun c => ?_)
  · replace hF := (if_pos c).symm.trans hF
    refine V.iconst (v := -1) dX12_calms_26 rfl ?_
    cases hF
    exact V.iret dX12_calms_27
  · replace hF := (if_neg c).symm.trans hF
    refine V.aload_n 0 dX12_calms_12 rfl rfl ?_
    refine V.aload_n 0 dX12_calms_13 rfl rfl ?_
    refine V.getR (v := 264) fl_X12_61 sh_251 rfl fx_251_32 (by decide) dX12_calms_14 ?_
    refine V.iload_n 1 dX12_calms_17 rfl rfl ?_
    refine V.iload_n 2 dX12_calms_18 rfl rfl ?_
    refine V.iconst (v := 0) dX12_calms_19 rfl ?_
    obtain ⟨r9, hc10, hF⟩ := bp_s hF
    refine V.callVi mf_X12_canRead ml_X12_355 sh_251 (s_X12_canRead io_264 hc10) (by decide) rfl rfl (Nat.le_of_ble_eq_true rfl) dX12_calms_20 ?_
    refine V.ifz_ne (tgt := 28) dX12_calms_23 rfl (fun c => ?_) (fun c => ?_)
    · replace hF := (if_pos c).symm.trans hF
      refine V.aload_n 0 dX12_calms_28 rfl rfl ?_
      refine V.getR (v := 264) fl_X12_61 sh_251 rfl fx_251_32 (by decide) dX12_calms_29 ?_
      refine V.aload_n 0 dX12_calms_32 rfl rfl ?_
      refine V.getR (v := 265) fl_X12_64 sh_251 rfl fx_251_33 (by decide) dX12_calms_33 ?_
      obtain ⟨r11, h13, hc12, hF⟩ := bd_s hF
      refine V.callSv mf_X12_copy ml_X12_401 (s_X12_copy io_264 io_265 hc12) (by decide) rfl rfl (Nat.le_of_ble_eq_true rfl) dX12_calms_36 ?_
      refine V.aload_n 0 dX12_calms_39 rfl rfl ?_
      refine V.aload_n 0 dX12_calms_40 rfl rfl ?_
      refine V.getR (v := 265) fl_X12_64 sh_251 rfl fx_251_33 (by decide) dX12_calms_41 ?_
      refine V.iload_n 1 dX12_calms_44 rfl rfl ?_
      refine V.iload_n 2 dX12_calms_45 rfl rfl ?_
      refine V.iconst (v := 0) dX12_calms_46 rfl ?_
      obtain ⟨r14, h16, hc15, hF⟩ := bd_s hF
      refine V.callVv mf_X12_reads ml_X12_365 sh_251 (s_X12_reads io_265 hc15) (by decide) rfl rfl (Nat.le_of_ble_eq_true rfl) dX12_calms_47 ?_
      refine V.aload_n 0 dX12_calms_50 rfl rfl ?_
      refine V.getR (v := 265) fl_X12_64 sh_251 rfl fx_251_33 (by decide) dX12_calms_51 ?_
      refine V.bipush (v := 22) dX12_calms_54 (by decide) ?_
      obtain ⟨hk, hF⟩ := ck hF
      refine V.iald io_265 hk dX12_calms_56 ?_
      cases hF
      exact V.iret dX12_calms_57
    · replace hF := (if_neg c).symm.trans hF
      refine V.iconst (v := -1) dX12_calms_26 rfl ?_
      cases hF
      exact V.iret dX12_calms_27
/-! MonsterCotModel.goLeast -/
theorem dX12_goLeast_0 : decode cX12_goLeast 0 = .ok (.aload_n 0, 1) := by decide +kernel
theorem dX12_goLeast_1 : decode cX12_goLeast 1 = .ok (.aload_n 0, 1) := by decide +kernel
theorem dX12_goLeast_2 : decode cX12_goLeast 2 = .ok (.getfield 64, 3) := by decide +kernel
theorem dX12_goLeast_5 : decode cX12_goLeast 5 = .ok (.bipush 22, 2) := by decide +kernel
theorem dX12_goLeast_7 : decode cX12_goLeast 7 = .ok (.iaload, 1) := by decide +kernel
theorem dX12_goLeast_8 : decode cX12_goLeast 8 = .ok (.invokevirtual 340, 3) := by decide +kernel
theorem dX12_goLeast_11 : decode cX12_goLeast 11 = .ok (.ifCond .eq 47, 3) := by decide +kernel
theorem dX12_goLeast_14 : decode cX12_goLeast 14 = .ok (.aload_n 0, 1) := by decide +kernel
theorem dX12_goLeast_15 : decode cX12_goLeast 15 = .ok (.getfield 412, 3) := by decide +kernel
theorem dX12_goLeast_18 : decode cX12_goLeast 18 = .ok (.iconst (-1), 1) := by decide +kernel
theorem dX12_goLeast_19 : decode cX12_goLeast 19 = .ok (.if_icmp .eq 28, 3) := by decide +kernel
theorem dX12_goLeast_22 : decode cX12_goLeast 22 = .ok (.iload_n 2, 1) := by decide +kernel
theorem dX12_goLeast_23 : decode cX12_goLeast 23 = .ok (.aload_n 0, 1) := by decide +kernel
theorem dX12_goLeast_24 : decode cX12_goLeast 24 = .ok (.getfield 412, 3) := by decide +kernel
theorem dX12_goLeast_27 : decode cX12_goLeast 27 = .ok (.if_icmp .gt 19, 3) := by decide +kernel
theorem dX12_goLeast_30 : decode cX12_goLeast 30 = .ok (.iload_n 2, 1) := by decide +kernel
theorem dX12_goLeast_31 : decode cX12_goLeast 31 = .ok (.aload_n 0, 1) := by decide +kernel
theorem dX12_goLeast_32 : decode cX12_goLeast 32 = .ok (.getfield 412, 3) := by decide +kernel
theorem dX12_goLeast_35 : decode cX12_goLeast 35 = .ok (.if_icmp .ne 12, 3) := by decide +kernel
theorem dX12_goLeast_38 : decode cX12_goLeast 38 = .ok (.iload_n 3, 1) := by decide +kernel
theorem dX12_goLeast_39 : decode cX12_goLeast 39 = .ok (.aload_n 0, 1) := by decide +kernel
theorem dX12_goLeast_40 : decode cX12_goLeast 40 = .ok (.getfield 415, 3) := by decide +kernel
theorem dX12_goLeast_43 : decode cX12_goLeast 43 = .ok (.if_icmp .lt 4, 3) := by decide +kernel
theorem dX12_goLeast_46 : decode cX12_goLeast 46 = .ok (.return_, 1) := by decide +kernel
theorem dX12_goLeast_47 : decode cX12_goLeast 47 = .ok (.aload_n 0, 1) := by decide +kernel
theorem dX12_goLeast_48 : decode cX12_goLeast 48 = .ok (.iload_n 2, 1) := by decide +kernel
theorem dX12_goLeast_49 : decode cX12_goLeast 49 = .ok (.putfield 412, 3) := by decide +kernel
theorem dX12_goLeast_52 : decode cX12_goLeast 52 = .ok (.aload_n 0, 1) := by decide +kernel
theorem dX12_goLeast_53 : decode cX12_goLeast 53 = .ok (.iload_n 3, 1) := by decide +kernel
theorem dX12_goLeast_54 : decode cX12_goLeast 54 = .ok (.putfield 415, 3) := by decide +kernel
theorem dX12_goLeast_57 : decode cX12_goLeast 57 = .ok (.return_, 1) := by decide +kernel
theorem dX12_goLeast_58 : decode cX12_goLeast 58 = .ok (.iload_n 1, 1) := by decide +kernel
theorem dX12_goLeast_59 : decode cX12_goLeast 59 = .ok (.ifCond .ne 4, 3) := by decide +kernel
theorem dX12_goLeast_62 : decode cX12_goLeast 62 = .ok (.return_, 1) := by decide +kernel
theorem dX12_goLeast_63 : decode cX12_goLeast 63 = .ok (.iconst 3, 1) := by decide +kernel
theorem dX12_goLeast_64 : decode cX12_goLeast 64 = .ok (.aload_n 0, 1) := by decide +kernel
theorem dX12_goLeast_65 : decode cX12_goLeast 65 = .ok (.getfield 64, 3) := by decide +kernel
theorem dX12_goLeast_68 : decode cX12_goLeast 68 = .ok (.bipush 23, 2) := by decide +kernel
theorem dX12_goLeast_70 : decode cX12_goLeast 70 = .ok (.iaload, 1) := by decide +kernel
theorem dX12_goLeast_71 : decode cX12_goLeast 71 = .ok (.imul, 1) := by decide +kernel
theorem dX12_goLeast_72 : decode cX12_goLeast 72 = .ok (.iconst 0, 1) := by decide +kernel
theorem dX12_goLeast_73 : decode cX12_goLeast 73 = .ok (.iadd, 1) := by decide +kernel
theorem dX12_goLeast_74 : decode cX12_goLeast 74 = .ok (.istore 4, 2) := by decide +kernel
theorem dX12_goLeast_76 : decode cX12_goLeast 76 = .ok (.aload_n 0, 1) := by decide +kernel
theorem dX12_goLeast_77 : decode cX12_goLeast 77 = .ok (.getfield 64, 3) := by decide +kernel
theorem dX12_goLeast_80 : decode cX12_goLeast 80 = .ok (.bipush 22, 2) := by decide +kernel
theorem dX12_goLeast_82 : decode cX12_goLeast 82 = .ok (.iaload, 1) := by decide +kernel
theorem dX12_goLeast_83 : decode cX12_goLeast 83 = .ok (.istore 5, 2) := by decide +kernel
theorem dX12_goLeast_85 : decode cX12_goLeast 85 = .ok (.aload_n 0, 1) := by decide +kernel
theorem dX12_goLeast_86 : decode cX12_goLeast 86 = .ok (.getfield 64, 3) := by decide +kernel
theorem dX12_goLeast_89 : decode cX12_goLeast 89 = .ok (.iload 4, 2) := by decide +kernel
theorem dX12_goLeast_91 : decode cX12_goLeast 91 = .ok (.iaload, 1) := by decide +kernel
theorem dX12_goLeast_92 : decode cX12_goLeast 92 = .ok (.istore 6, 2) := by decide +kernel
theorem dX12_goLeast_94 : decode cX12_goLeast 94 = .ok (.iconst 0, 1) := by decide +kernel
theorem dX12_goLeast_95 : decode cX12_goLeast 95 = .ok (.istore 7, 2) := by decide +kernel
theorem dX12_goLeast_97 : decode cX12_goLeast 97 = .ok (.iload 7, 2) := by decide +kernel
theorem dX12_goLeast_99 : decode cX12_goLeast 99 = .ok (.aload_n 0, 1) := by decide +kernel
theorem dX12_goLeast_100 : decode cX12_goLeast 100 = .ok (.getfield 288, 3) := by decide +kernel
theorem dX12_goLeast_103 : decode cX12_goLeast 103 = .ok (.if_icmp .ge 167, 3) := by decide +kernel
theorem dX12_goLeast_106 : decode cX12_goLeast 106 = .ok (.bipush 18, 2) := by decide +kernel
theorem dX12_goLeast_108 : decode cX12_goLeast 108 = .ok (.aload_n 0, 1) := by decide +kernel
theorem dX12_goLeast_109 : decode cX12_goLeast 109 = .ok (.iload 7, 2) := by decide +kernel
theorem dX12_goLeast_111 : decode cX12_goLeast 111 = .ok (.invokevirtual 328, 3) := by decide +kernel
theorem dX12_goLeast_114 : decode cX12_goLeast 114 = .ok (.iadd, 1) := by decide +kernel
theorem dX12_goLeast_115 : decode cX12_goLeast 115 = .ok (.istore 8, 2) := by decide +kernel
theorem dX12_goLeast_117 : decode cX12_goLeast 117 = .ok (.aload_n 0, 1) := by decide +kernel
theorem dX12_goLeast_118 : decode cX12_goLeast 118 = .ok (.getfield 64, 3) := by decide +kernel
theorem dX12_goLeast_121 : decode cX12_goLeast 121 = .ok (.iload 8, 2) := by decide +kernel
theorem dX12_goLeast_123 : decode cX12_goLeast 123 = .ok (.iaload, 1) := by decide +kernel
theorem dX12_goLeast_124 : decode cX12_goLeast 124 = .ok (.istore 9, 2) := by decide +kernel
theorem dX12_goLeast_126 : decode cX12_goLeast 126 = .ok (.iconst 1, 1) := by decide +kernel
theorem dX12_goLeast_127 : decode cX12_goLeast 127 = .ok (.istore 10, 2) := by decide +kernel
theorem dX12_goLeast_129 : decode cX12_goLeast 129 = .ok (.iload 10, 2) := by decide +kernel
theorem dX12_goLeast_131 : decode cX12_goLeast 131 = .ok (.aload_n 0, 1) := by decide +kernel
theorem dX12_goLeast_132 : decode cX12_goLeast 132 = .ok (.iload 7, 2) := by decide +kernel
theorem dX12_goLeast_134 : decode cX12_goLeast 134 = .ok (.invokevirtual 322, 3) := by decide +kernel
theorem dX12_goLeast_137 : decode cX12_goLeast 137 = .ok (.if_icmp .gt 127, 3) := by decide +kernel
theorem dX12_goLeast_140 : decode cX12_goLeast 140 = .ok (.aload_n 0, 1) := by decide +kernel
theorem dX12_goLeast_141 : decode cX12_goLeast 141 = .ok (.aload_n 0, 1) := by decide +kernel
theorem dX12_goLeast_142 : decode cX12_goLeast 142 = .ok (.getfield 64, 3) := by decide +kernel
theorem dX12_goLeast_145 : decode cX12_goLeast 145 = .ok (.iload 7, 2) := by decide +kernel
theorem dX12_goLeast_147 : decode cX12_goLeast 147 = .ok (.iload 10, 2) := by decide +kernel
theorem dX12_goLeast_149 : decode cX12_goLeast 149 = .ok (.iconst 0, 1) := by decide +kernel
theorem dX12_goLeast_150 : decode cX12_goLeast 150 = .ok (.invokevirtual 359, 3) := by decide +kernel
theorem dX12_goLeast_153 : decode cX12_goLeast 153 = .ok (.ifCond .eq 111, 3) := by decide +kernel
theorem dX12_goLeast_156 : decode cX12_goLeast 156 = .ok (.aload_n 0, 1) := by decide +kernel
theorem dX12_goLeast_157 : decode cX12_goLeast 157 = .ok (.getfield 412, 3) := by decide +kernel
theorem dX12_goLeast_160 : decode cX12_goLeast 160 = .ok (.iconst (-1), 1) := by decide +kernel
theorem dX12_goLeast_161 : decode cX12_goLeast 161 = .ok (.if_icmp .eq 17, 3) := by decide +kernel
theorem dX12_goLeast_164 : decode cX12_goLeast 164 = .ok (.iload_n 2, 1) := by decide +kernel
theorem dX12_goLeast_165 : decode cX12_goLeast 165 = .ok (.iload 10, 2) := by decide +kernel
theorem dX12_goLeast_167 : decode cX12_goLeast 167 = .ok (.iadd, 1) := by decide +kernel
theorem dX12_goLeast_168 : decode cX12_goLeast 168 = .ok (.aload_n 0, 1) := by decide +kernel
theorem dX12_goLeast_169 : decode cX12_goLeast 169 = .ok (.getfield 412, 3) := by decide +kernel
theorem dX12_goLeast_172 : decode cX12_goLeast 172 = .ok (.if_icmp .le 6, 3) := by decide +kernel
theorem dX12_goLeast_175 : decode cX12_goLeast 175 = .ok (.goto 89, 3) := by decide +kernel
theorem dX12_goLeast_178 : decode cX12_goLeast 178 = .ok (.aload_n 0, 1) := by decide +kernel
theorem dX12_goLeast_179 : decode cX12_goLeast 179 = .ok (.aload_n 0, 1) := by decide +kernel
theorem dX12_goLeast_180 : decode cX12_goLeast 180 = .ok (.getfield 64, 3) := by decide +kernel
theorem dX12_goLeast_183 : decode cX12_goLeast 183 = .ok (.iload 7, 2) := by decide +kernel
theorem dX12_goLeast_185 : decode cX12_goLeast 185 = .ok (.iload 10, 2) := by decide +kernel
theorem dX12_goLeast_187 : decode cX12_goLeast 187 = .ok (.iconst 0, 1) := by decide +kernel
theorem dX12_goLeast_188 : decode cX12_goLeast 188 = .ok (.invokevirtual 365, 3) := by decide +kernel
theorem dX12_goLeast_191 : decode cX12_goLeast 191 = .ok (.aload_n 0, 1) := by decide +kernel
theorem dX12_goLeast_192 : decode cX12_goLeast 192 = .ok (.iload_n 1, 1) := by decide +kernel
theorem dX12_goLeast_193 : decode cX12_goLeast 193 = .ok (.iconst 1, 1) := by decide +kernel
theorem dX12_goLeast_194 : decode cX12_goLeast 194 = .ok (.isub, 1) := by decide +kernel
theorem dX12_goLeast_195 : decode cX12_goLeast 195 = .ok (.iload_n 2, 1) := by decide +kernel
theorem dX12_goLeast_196 : decode cX12_goLeast 196 = .ok (.iload 10, 2) := by decide +kernel
theorem dX12_goLeast_198 : decode cX12_goLeast 198 = .ok (.iadd, 1) := by decide +kernel
theorem dX12_goLeast_199 : decode cX12_goLeast 199 = .ok (.bipush 100, 2) := by decide +kernel
theorem dX12_goLeast_201 : decode cX12_goLeast 201 = .ok (.iload_n 3, 1) := by decide +kernel
theorem dX12_goLeast_202 : decode cX12_goLeast 202 = .ok (.imul, 1) := by decide +kernel
theorem dX12_goLeast_203 : decode cX12_goLeast 203 = .ok (.bipush 10, 2) := by decide +kernel
theorem dX12_goLeast_205 : decode cX12_goLeast 205 = .ok (.iload 7, 2) := by decide +kernel
theorem dX12_goLeast_207 : decode cX12_goLeast 207 = .ok (.imul, 1) := by decide +kernel
theorem dX12_goLeast_208 : decode cX12_goLeast 208 = .ok (.iadd, 1) := by decide +kernel
theorem dX12_goLeast_209 : decode cX12_goLeast 209 = .ok (.iload 10, 2) := by decide +kernel
theorem dX12_goLeast_211 : decode cX12_goLeast 211 = .ok (.iadd, 1) := by decide +kernel
theorem dX12_goLeast_212 : decode cX12_goLeast 212 = .ok (.invokevirtual 418, 3) := by decide +kernel
theorem dX12_goLeast_215 : decode cX12_goLeast 215 = .ok (.aload_n 0, 1) := by decide +kernel
theorem dX12_goLeast_216 : decode cX12_goLeast 216 = .ok (.getfield 64, 3) := by decide +kernel
theorem dX12_goLeast_219 : decode cX12_goLeast 219 = .ok (.bipush 22, 2) := by decide +kernel
theorem dX12_goLeast_221 : decode cX12_goLeast 221 = .ok (.iload 5, 2) := by decide +kernel
theorem dX12_goLeast_223 : decode cX12_goLeast 223 = .ok (.iastore, 1) := by decide +kernel
theorem dX12_goLeast_224 : decode cX12_goLeast 224 = .ok (.aload_n 0, 1) := by decide +kernel
theorem dX12_goLeast_225 : decode cX12_goLeast 225 = .ok (.getfield 64, 3) := by decide +kernel
theorem dX12_goLeast_228 : decode cX12_goLeast 228 = .ok (.iload 4, 2) := by decide +kernel
theorem dX12_goLeast_230 : decode cX12_goLeast 230 = .ok (.iload 6, 2) := by decide +kernel
theorem dX12_goLeast_232 : decode cX12_goLeast 232 = .ok (.iastore, 1) := by decide +kernel
theorem dX12_goLeast_233 : decode cX12_goLeast 233 = .ok (.aload_n 0, 1) := by decide +kernel
theorem dX12_goLeast_234 : decode cX12_goLeast 234 = .ok (.getfield 64, 3) := by decide +kernel
theorem dX12_goLeast_237 : decode cX12_goLeast 237 = .ok (.iload 8, 2) := by decide +kernel
theorem dX12_goLeast_239 : decode cX12_goLeast 239 = .ok (.iload 9, 2) := by decide +kernel
theorem dX12_goLeast_241 : decode cX12_goLeast 241 = .ok (.iastore, 1) := by decide +kernel
theorem dX12_goLeast_242 : decode cX12_goLeast 242 = .ok (.aload_n 0, 1) := by decide +kernel
theorem dX12_goLeast_243 : decode cX12_goLeast 243 = .ok (.getfield 64, 3) := by decide +kernel
theorem dX12_goLeast_246 : decode cX12_goLeast 246 = .ok (.bipush 24, 2) := by decide +kernel
theorem dX12_goLeast_248 : decode cX12_goLeast 248 = .ok (.dup2, 1) := by decide +kernel
theorem dX12_goLeast_249 : decode cX12_goLeast 249 = .ok (.iaload, 1) := by decide +kernel
theorem dX12_goLeast_250 : decode cX12_goLeast 250 = .ok (.iconst 1, 1) := by decide +kernel
theorem dX12_goLeast_251 : decode cX12_goLeast 251 = .ok (.iload 7, 2) := by decide +kernel
theorem dX12_goLeast_253 : decode cX12_goLeast 253 = .ok (.ishl, 1) := by decide +kernel
theorem dX12_goLeast_254 : decode cX12_goLeast 254 = .ok (.iconst (-1), 1) := by decide +kernel
theorem dX12_goLeast_255 : decode cX12_goLeast 255 = .ok (.ixor, 1) := by decide +kernel
theorem dX12_goLeast_256 : decode cX12_goLeast 256 = .ok (.iand, 1) := by decide +kernel
theorem dX12_goLeast_257 : decode cX12_goLeast 257 = .ok (.iastore, 1) := by decide +kernel
theorem dX12_goLeast_258 : decode cX12_goLeast 258 = .ok (.iinc 10 1, 3) := by decide +kernel
theorem dX12_goLeast_261 : decode cX12_goLeast 261 = .ok (.goto (-132), 3) := by decide +kernel
theorem dX12_goLeast_264 : decode cX12_goLeast 264 = .ok (.iinc 7 1, 3) := by decide +kernel
theorem dX12_goLeast_267 : decode cX12_goLeast 267 = .ok (.goto (-170), 3) := by decide +kernel
theorem dX12_goLeast_270 : decode cX12_goLeast 270 = .ok (.return_, 1) := by decide +kernel
def X12_goLeast_47 (n : Nat) (rf : Int32 → Int32 → Int32 → Mm → Option (Unit × Mm)) (x2 : Int32) (x3 : Int32) (h : Mm) : Option (Unit × Mm) := (some ((), (wI (wI h 251 41 x2) 251 42 x3)))
set_option maxRecDepth 100000 in
set_option maxHeartbeats 4000000 in
theorem v_X12_goLeast_47 {X : WX} {G : GX} {o : Mm} {n : Nat} {rf : Int32 → Int32 → Int32 → Mm → Option (Unit × Mm)} {dr : Nat} (hdr : 93 ≤ dr) (hrf : ∀ (x1 : Int32) (x2 : Int32) (x3 : Int32)  (h : Mm) (r : Unit) (h2 : Mm), rf x1 x2 x3 h = some (r, h2) → Sat X yX12_goLeast cX12_goLeast 11 (none) dr [.ref (xa X 251), .int x1, .int x2, .int x3] false o h none h2) {DD : Nat} (hDD : dr + 1 ≤ DD) {rv : Unit} {hz : Mm} {x2 : Int32} {x3 : Int32} {h : Mm} (hF : X12_goLeast_47 n rf x2 x3 h = some (rv, hz)) : V X G RX12 cX12_goLeast 11 (none) DD 0 0 (QR X G false o none hz) false o 47 [(0, .ref (xa X 251)), (2, .int x2), (3, .int x3)] [] h := by
  unfold X12_goLeast_47 at hF
  refine V.aload_n 0 dX12_goLeast_47 rfl rfl ?_
  refine V.iload_n 1 dX12_goLeast_48 rfl rfl ?_
  refine V.putI fl_X12_412 rfl (tyX12_ok 41 (by decide)) rfl rfl sh_251 rfl km_251 dX12_goLeast_49 ?_
  refine V.aload_n 0 dX12_goLeast_52 rfl rfl ?_
  refine V.iload_n 2 dX12_goLeast_53 rfl rfl ?_
  refine V.putI fl_X12_415 rfl (tyX12_ok 42 (by decide)) rfl rfl sh_251 rfl km_251 dX12_goLeast_54 ?_
  cases hF
  exact V.vret dX12_goLeast_57
def X12_goLeast_178 (n : Nat) (rf : Int32 → Int32 → Int32 → Mm → Option (Unit × Mm)) (K97 : Int32 → Int32 → Int32 → Int32 → Int32 → Int32 → Int32 → Mm → Option (Unit × Mm)) (K129 : Int32 → Int32 → Int32 → Int32 → Int32 → Int32 → Int32 → Int32 → Int32 → Int32 → Mm → Option (Unit × Mm)) (x1 : Int32) (x2 : Int32) (x3 : Int32) (x4 : Int32) (x5 : Int32) (x6 : Int32) (x7 : Int32) (x8 : Int32) (x9 : Int32) (x10 : Int32) (h : Mm) : Option (Unit × Mm) := (bd (X12_reads n 265 x7 x10 false h) (fun _ h57 => (bd (rf (x1 - (1)) (x2 + x10) ((((100) * x3) + ((10) * x7)) + x10) h57) (fun _ h60 => (if inB (22) (aln 265) then (if inB x4 (aln 265) then (if inB x8 (aln 265) then (if inB (24) (aln 265) then (if inB (24) (aln 265) then (K129 x1 x2 x3 x4 x5 x6 x7 x8 x9 (x10 + (1)) (wI (wI (wI (wI h60 265 (22).toNatClampNeg x5) 265 x4.toNatClampNeg x6) 265 x8.toNatClampNeg x9) 265 (24).toNatClampNeg (((wI (wI (wI h60 265 (22).toNatClampNeg x5) 265 x4.toNatClampNeg x6) 265 x8.toNatClampNeg x9).1 265 (24).toNatClampNeg) &&& (((1) <<< (x7 &&& 31)) ^^^ (-1))))) else none) else none) else none) else none) else none)))))
set_option maxRecDepth 100000 in
set_option maxHeartbeats 4000000 in
theorem v_X12_goLeast_178 {X : WX} {G : GX} {o : Mm} {n : Nat} {rf : Int32 → Int32 → Int32 → Mm → Option (Unit × Mm)} {dr : Nat} (hdr : 93 ≤ dr) (hrf : ∀ (x1 : Int32) (x2 : Int32) (x3 : Int32)  (h : Mm) (r : Unit) (h2 : Mm), rf x1 x2 x3 h = some (r, h2) → Sat X yX12_goLeast cX12_goLeast 11 (none) dr [.ref (xa X 251), .int x1, .int x2, .int x3] false o h none h2) {DD : Nat} (hDD : dr + 1 ≤ DD) {K97 : Int32 → Int32 → Int32 → Int32 → Int32 → Int32 → Int32 → Mm → Option (Unit × Mm)} {K129 : Int32 → Int32 → Int32 → Int32 → Int32 → Int32 → Int32 → Int32 → Int32 → Int32 → Mm → Option (Unit × Mm)} {rv : Unit} {hz : Mm} (hK97 : ∀ (x1 : Int32) (x2 : Int32) (x3 : Int32) (x4 : Int32) (x5 : Int32) (x6 : Int32) (x7 : Int32) (h : Mm), K97 x1 x2 x3 x4 x5 x6 x7 h = some (rv, hz) → V X G RX12 cX12_goLeast 11 (none) DD 0 0 (QR X G false o none hz) false o 97 [(0, .ref (xa X 251)), (1, .int x1), (2, .int x2), (3, .int x3), (4, .int x4), (5, .int x5), (6, .int x6), (7, .int x7)] [] h) (hK129 : ∀ (x1 : Int32) (x2 : Int32) (x3 : Int32) (x4 : Int32) (x5 : Int32) (x6 : Int32) (x7 : Int32) (x8 : Int32) (x9 : Int32) (x10 : Int32) (h : Mm), K129 x1 x2 x3 x4 x5 x6 x7 x8 x9 x10 h = some (rv, hz) → V X G RX12 cX12_goLeast 11 (none) DD 0 0 (QR X G false o none hz) false o 129 [(0, .ref (xa X 251)), (1, .int x1), (2, .int x2), (3, .int x3), (4, .int x4), (5, .int x5), (6, .int x6), (7, .int x7), (8, .int x8), (9, .int x9), (10, .int x10)] [] h) {x1 : Int32} {x2 : Int32} {x3 : Int32} {x4 : Int32} {x5 : Int32} {x6 : Int32} {x7 : Int32} {x8 : Int32} {x9 : Int32} {x10 : Int32} {h : Mm} (hF : X12_goLeast_178 n rf K97 K129 x1 x2 x3 x4 x5 x6 x7 x8 x9 x10 h = some (rv, hz)) : V X G RX12 cX12_goLeast 11 (none) DD 0 0 (QR X G false o none hz) false o 178 [(0, .ref (xa X 251)), (1, .int x1), (2, .int x2), (3, .int x3), (4, .int x4), (5, .int x5), (6, .int x6), (7, .int x7), (8, .int x8), (9, .int x9), (10, .int x10)] [] h := by
  unfold X12_goLeast_178 at hF
  refine V.aload_n 0 dX12_goLeast_178 rfl rfl ?_
  refine V.aload_n 0 dX12_goLeast_179 rfl rfl ?_
  refine V.getR (v := 265) fl_X12_64 sh_251 rfl fx_251_33 (by decide) dX12_goLeast_180 ?_
  refine V.iload 7 dX12_goLeast_183 rfl ?_
  refine V.iload 10 dX12_goLeast_185 rfl ?_
  refine V.iconst (v := 0) dX12_goLeast_187 rfl ?_
  obtain ⟨r55, h57, hc56, hF⟩ := bd_s hF
  refine V.callVv mf_X12_reads ml_X12_365 sh_251 (s_X12_reads io_265 hc56) (by omega) rfl rfl (Nat.le_of_ble_eq_true rfl) dX12_goLeast_188 ?_
  refine V.aload_n 0 dX12_goLeast_191 rfl rfl ?_
  refine V.iload_n 1 dX12_goLeast_192 rfl rfl ?_
  refine V.iconst (v := 1) dX12_goLeast_193 rfl ?_
  refine V.isub dX12_goLeast_194 ?_
  refine V.iload_n 2 dX12_goLeast_195 rfl rfl ?_
  refine V.iload 10 dX12_goLeast_196 rfl ?_
  refine V.iadd dX12_goLeast_198 ?_
  refine V.bipush (v := 100) dX12_goLeast_199 (by decide) ?_
  refine V.iload_n 3 dX12_goLeast_201 rfl rfl ?_
  refine V.imul dX12_goLeast_202 ?_
  refine V.bipush (v := 10) dX12_goLeast_203 (by decide) ?_
  refine V.iload 7 dX12_goLeast_205 rfl ?_
  refine V.imul dX12_goLeast_207 ?_
  refine V.iadd dX12_goLeast_208 ?_
  refine V.iload 10 dX12_goLeast_209 rfl ?_
  refine V.iadd dX12_goLeast_211 ?_
  obtain ⟨r58, h60, hc59, hF⟩ := bd_s hF
  refine V.callVv mf_X12_goLeast ml_X12_418 sh_251 (hrf _ _ _ _ _ _ hc59) (by omega) rfl rfl (Nat.le_of_ble_eq_true rfl) dX12_goLeast_212 ?_
  refine V.aload_n 0 dX12_goLeast_215 rfl rfl ?_
  refine V.getR (v := 265) fl_X12_64 sh_251 rfl fx_251_33 (by decide) dX12_goLeast_216 ?_
  refine V.bipush (v := 22) dX12_goLeast_219 (by decide) ?_
  refine V.iload 5 dX12_goLeast_221 rfl ?_
  obtain ⟨hk, hF⟩ := ck hF
  refine V.iast io_265 hk dX12_goLeast_223 ?_
  refine V.aload_n 0 dX12_goLeast_224 rfl rfl ?_
  refine V.getR (v := 265) fl_X12_64 sh_251 rfl fx_251_33 (by decide) dX12_goLeast_225 ?_
  refine V.iload 4 dX12_goLeast_228 rfl ?_
  refine V.iload 6 dX12_goLeast_230 rfl ?_
  obtain ⟨hk, hF⟩ := ck hF
  refine V.iast io_265 hk dX12_goLeast_232 ?_
  refine V.aload_n 0 dX12_goLeast_233 rfl rfl ?_
  refine V.getR (v := 265) fl_X12_64 sh_251 rfl fx_251_33 (by decide) dX12_goLeast_234 ?_
  refine V.iload 8 dX12_goLeast_237 rfl ?_
  refine V.iload 9 dX12_goLeast_239 rfl ?_
  obtain ⟨hk, hF⟩ := ck hF
  refine V.iast io_265 hk dX12_goLeast_241 ?_
  refine V.aload_n 0 dX12_goLeast_242 rfl rfl ?_
  refine V.getR (v := 265) fl_X12_64 sh_251 rfl fx_251_33 (by decide) dX12_goLeast_243 ?_
  refine V.bipush (v := 24) dX12_goLeast_246 (by decide) ?_
  refine V.dup2 dX12_goLeast_248 rfl rfl ?_
  obtain ⟨hk, hF⟩ := ck hF
  refine V.iald io_265 hk dX12_goLeast_249 ?_
  refine V.iconst (v := 1) dX12_goLeast_250 rfl ?_
  refine V.iload 7 dX12_goLeast_251 rfl ?_
  refine V.ishl dX12_goLeast_253 ?_
  refine V.iconst (v := -1) dX12_goLeast_254 rfl ?_
  refine V.ixor dX12_goLeast_255 ?_
  refine V.iand dX12_goLeast_256 ?_
  obtain ⟨hk, hF⟩ := ck hF
  refine V.iast io_265 hk dX12_goLeast_257 ?_
  refine V.iinc (v := (x10 + (1))) 10 [(10, _), (0, _), (1, _), (2, _), (3, _), (4, _), (5, _), (6, _), (7, _), (8, _), (9, _)] dX12_goLeast_258 rfl rfl (by decide) rfl ?_
  refine V.goto (tgt := 129) dX12_goLeast_261 rfl ?_
  exact V.sub [1, 2, 3, 4, 5, 6, 7, 8, 9, 10, 0] rfl (hK129 _ _ _ _ _ _ _ _ _ _ _ hF)
def X12_goLeast_264 (n : Nat) (rf : Int32 → Int32 → Int32 → Mm → Option (Unit × Mm)) (K97 : Int32 → Int32 → Int32 → Int32 → Int32 → Int32 → Int32 → Mm → Option (Unit × Mm)) (x1 : Int32) (x2 : Int32) (x3 : Int32) (x4 : Int32) (x5 : Int32) (x6 : Int32) (x7 : Int32) (h : Mm) : Option (Unit × Mm) := (K97 x1 x2 x3 x4 x5 x6 (x7 + (1)) h)
set_option maxRecDepth 100000 in
set_option maxHeartbeats 4000000 in
theorem v_X12_goLeast_264 {X : WX} {G : GX} {o : Mm} {n : Nat} {rf : Int32 → Int32 → Int32 → Mm → Option (Unit × Mm)} {dr : Nat} (hdr : 93 ≤ dr) (hrf : ∀ (x1 : Int32) (x2 : Int32) (x3 : Int32)  (h : Mm) (r : Unit) (h2 : Mm), rf x1 x2 x3 h = some (r, h2) → Sat X yX12_goLeast cX12_goLeast 11 (none) dr [.ref (xa X 251), .int x1, .int x2, .int x3] false o h none h2) {DD : Nat} (hDD : dr + 1 ≤ DD) {K97 : Int32 → Int32 → Int32 → Int32 → Int32 → Int32 → Int32 → Mm → Option (Unit × Mm)} {rv : Unit} {hz : Mm} (hK97 : ∀ (x1 : Int32) (x2 : Int32) (x3 : Int32) (x4 : Int32) (x5 : Int32) (x6 : Int32) (x7 : Int32) (h : Mm), K97 x1 x2 x3 x4 x5 x6 x7 h = some (rv, hz) → V X G RX12 cX12_goLeast 11 (none) DD 0 0 (QR X G false o none hz) false o 97 [(0, .ref (xa X 251)), (1, .int x1), (2, .int x2), (3, .int x3), (4, .int x4), (5, .int x5), (6, .int x6), (7, .int x7)] [] h) {x1 : Int32} {x2 : Int32} {x3 : Int32} {x4 : Int32} {x5 : Int32} {x6 : Int32} {x7 : Int32} {h : Mm} (hF : X12_goLeast_264 n rf K97 x1 x2 x3 x4 x5 x6 x7 h = some (rv, hz)) : V X G RX12 cX12_goLeast 11 (none) DD 0 0 (QR X G false o none hz) false o 264 [(0, .ref (xa X 251)), (1, .int x1), (2, .int x2), (3, .int x3), (4, .int x4), (5, .int x5), (6, .int x6), (7, .int x7)] [] h := by
  unfold X12_goLeast_264 at hF
  refine V.iinc (v := (x7 + (1))) 7 [(7, _), (0, _), (1, _), (2, _), (3, _), (4, _), (5, _), (6, _)] dX12_goLeast_264 rfl rfl (by decide) rfl ?_
  refine V.goto (tgt := 97) dX12_goLeast_267 rfl ?_
  exact V.sub [1, 2, 3, 4, 5, 6, 7, 0] rfl (hK97 _ _ _ _ _ _ _ _ hF)
def X12_goLeast_129 (n : Nat) (rf : Int32 → Int32 → Int32 → Mm → Option (Unit × Mm)) (K97 : Int32 → Int32 → Int32 → Int32 → Int32 → Int32 → Int32 → Mm → Option (Unit × Mm)) : Nat → Int32 → Int32 → Int32 → Int32 → Int32 → Int32 → Int32 → Int32 → Int32 → Int32 → Mm → Option (Unit × Mm)
  | 0, _, _, _, _, _, _, _, _, _, _, _ => none
  | f + 1, x1, x2, x3, x4, x5, x6, x7, x8, x9, x10, h => (bp (X12_pagesOf x7 h) (fun r61 => (if r61 < x10 then (X12_goLeast_264 n rf K97 x1 x2 x3 x4 x5 x6 x7 h) else (bp (X12_mayRead 265 x7 x10 false h) (fun r63 => (if r63 = true then (if (h.1 251 41) = (-1) then (X12_goLeast_178 n rf K97 (X12_goLeast_129 n rf K97 f) x1 x2 x3 x4 x5 x6 x7 x8 x9 x10 h) else (if (x2 + x10) ≤ (h.1 251 41) then (X12_goLeast_178 n rf K97 (X12_goLeast_129 n rf K97 f) x1 x2 x3 x4 x5 x6 x7 x8 x9 x10 h) else (X12_goLeast_264 n rf K97 x1 x2 x3 x4 x5 x6 x7 h))) else (X12_goLeast_264 n rf K97 x1 x2 x3 x4 x5 x6 x7 h)))))))
set_option maxRecDepth 100000 in
set_option maxHeartbeats 4000000 in
theorem v_X12_goLeast_129 {X : WX} {G : GX} {o : Mm} {n : Nat} {rf : Int32 → Int32 → Int32 → Mm → Option (Unit × Mm)} {dr : Nat} (hdr : 93 ≤ dr) (hrf : ∀ (x1 : Int32) (x2 : Int32) (x3 : Int32)  (h : Mm) (r : Unit) (h2 : Mm), rf x1 x2 x3 h = some (r, h2) → Sat X yX12_goLeast cX12_goLeast 11 (none) dr [.ref (xa X 251), .int x1, .int x2, .int x3] false o h none h2) {DD : Nat} (hDD : dr + 1 ≤ DD) {K97 : Int32 → Int32 → Int32 → Int32 → Int32 → Int32 → Int32 → Mm → Option (Unit × Mm)} {rv : Unit} {hz : Mm} (hK97 : ∀ (x1 : Int32) (x2 : Int32) (x3 : Int32) (x4 : Int32) (x5 : Int32) (x6 : Int32) (x7 : Int32) (h : Mm), K97 x1 x2 x3 x4 x5 x6 x7 h = some (rv, hz) → V X G RX12 cX12_goLeast 11 (none) DD 0 0 (QR X G false o none hz) false o 97 [(0, .ref (xa X 251)), (1, .int x1), (2, .int x2), (3, .int x3), (4, .int x4), (5, .int x5), (6, .int x6), (7, .int x7)] [] h) : ∀ (f : Nat) (x1 : Int32) (x2 : Int32) (x3 : Int32) (x4 : Int32) (x5 : Int32) (x6 : Int32) (x7 : Int32) (x8 : Int32) (x9 : Int32) (x10 : Int32) (h : Mm), X12_goLeast_129 n rf K97 f x1 x2 x3 x4 x5 x6 x7 x8 x9 x10 h = some (rv, hz) → V X G RX12 cX12_goLeast 11 (none) DD 0 0 (QR X G false o none hz) false o 129 [(0, .ref (xa X 251)), (1, .int x1), (2, .int x2), (3, .int x3), (4, .int x4), (5, .int x5), (6, .int x6), (7, .int x7), (8, .int x8), (9, .int x9), (10, .int x10)] [] h := by
  intro f
  induction f with
  | zero => intro x1 x2 x3 x4 x5 x6 x7 x8 x9 x10 h hF; exact nomatch (show (none : Option (Unit × Mm)) = some (rv, hz) from hF)
  | succ f ih =>
    intro x1 x2 x3 x4 x5 x6 x7 x8 x9 x10 h hF
    unfold X12_goLeast_129 at hF
    refine V.iload 10 dX12_goLeast_129 rfl ?_
    refine V.aload_n 0 dX12_goLeast_131 rfl rfl ?_
    refine V.iload 7 dX12_goLeast_132 rfl ?_
    obtain ⟨r61, hc62, hF⟩ := bp_s hF
    refine V.callVi mf_X12_pagesOf ml_X12_322 sh_251 (s_X12_pagesOf hc62) (by omega) rfl rfl (Nat.le_of_ble_eq_true rfl) dX12_goLeast_134 ?_
    refine V.icmp_gt (tgt := 264) dX12_goLeast_137 rfl (fun c => ?_) (fun c => ?_)
    · replace hF := (if_pos c).symm.trans hF
      exact V.sub [0, 1, 2, 3, 4, 5, 6, 7] rfl (v_X12_goLeast_264 hdr hrf hK97 hF)
    · replace hF := (if_neg c).symm.trans hF
      refine V.aload_n 0 dX12_goLeast_140 rfl rfl ?_
      refine V.aload_n 0 dX12_goLeast_141 rfl rfl ?_
      refine V.getR (v := 265) fl_X12_64 sh_251 rfl fx_251_33 (by decide) dX12_goLeast_142 ?_
      refine V.iload 7 dX12_goLeast_145 rfl ?_
      refine V.iload 10 dX12_goLeast_147 rfl ?_
      refine V.iconst (v := 0) dX12_goLeast_149 rfl ?_
      obtain ⟨r63, hc64, hF⟩ := bp_s hF
      refine V.callVi mf_X12_mayRead ml_X12_359 sh_251 (s_X12_mayRead io_265 hc64) (by omega) rfl rfl (Nat.le_of_ble_eq_true rfl) dX12_goLeast_150 ?_
      refine V.ifz_eq (tgt := 264) dX12_goLeast_153 rfl (fun c => ?_) (fun c => ?_)
      · replace hF := (if_neg c).symm.trans hF
        exact V.sub [0, 1, 2, 3, 4, 5, 6, 7] rfl (v_X12_goLeast_264 hdr hrf hK97 hF)
      · replace hF := (if_pos c).symm.trans hF
        refine V.aload_n 0 dX12_goLeast_156 rfl rfl ?_
        refine V.getI fl_X12_412 sh_251 rfl km_251 dX12_goLeast_157 ?_
        refine V.iconst (v := -1) dX12_goLeast_160 rfl ?_
        refine V.icmp_eq (tgt := 178) dX12_goLeast_161 rfl (fun c => ?_) (fun c => ?_)
        · replace hF := (if_pos c).symm.trans hF
          exact (v_X12_goLeast_178 hdr hrf hK97 ih hF)
        · replace hF := (if_neg c).symm.trans hF
          refine V.iload_n 2 dX12_goLeast_164 rfl rfl ?_
          refine V.iload 10 dX12_goLeast_165 rfl ?_
          refine V.iadd dX12_goLeast_167 ?_
          refine V.aload_n 0 dX12_goLeast_168 rfl rfl ?_
          refine V.getI fl_X12_412 sh_251 rfl km_251 dX12_goLeast_169 ?_
          refine V.icmp_le (tgt := 178) dX12_goLeast_172 rfl (fun c => ?_) (fun c => ?_)
          · replace hF := (if_pos c).symm.trans hF
            exact (v_X12_goLeast_178 hdr hrf hK97 ih hF)
          · replace hF := (if_neg c).symm.trans hF
            refine V.goto (tgt := 264) dX12_goLeast_175 rfl ?_
            exact V.sub [0, 1, 2, 3, 4, 5, 6, 7] rfl (v_X12_goLeast_264 hdr hrf hK97 hF)
def X12_goLeast_97 (n : Nat) (rf : Int32 → Int32 → Int32 → Mm → Option (Unit × Mm)) : Nat → Int32 → Int32 → Int32 → Int32 → Int32 → Int32 → Int32 → Mm → Option (Unit × Mm)
  | 0, _, _, _, _, _, _, _, _ => none
  | f + 1, x1, x2, x3, x4, x5, x6, x7, h => (if (h.1 251 26) ≤ x7 then (some ((), h)) else (bp (X12_kindOf x7 h) (fun r65 => (if inB ((18) + r65) (aln 265) then (X12_goLeast_129 n rf (X12_goLeast_97 n rf f) n x1 x2 x3 x4 x5 x6 x7 ((18) + r65) (h.1 265 ((18) + r65).toNatClampNeg) (1) h) else none))))
set_option maxRecDepth 100000 in
set_option maxHeartbeats 4000000 in
theorem v_X12_goLeast_97 {X : WX} {G : GX} {o : Mm} {n : Nat} {rf : Int32 → Int32 → Int32 → Mm → Option (Unit × Mm)} {dr : Nat} (hdr : 93 ≤ dr) (hrf : ∀ (x1 : Int32) (x2 : Int32) (x3 : Int32)  (h : Mm) (r : Unit) (h2 : Mm), rf x1 x2 x3 h = some (r, h2) → Sat X yX12_goLeast cX12_goLeast 11 (none) dr [.ref (xa X 251), .int x1, .int x2, .int x3] false o h none h2) {DD : Nat} (hDD : dr + 1 ≤ DD) {rv : Unit} {hz : Mm} : ∀ (f : Nat) (x1 : Int32) (x2 : Int32) (x3 : Int32) (x4 : Int32) (x5 : Int32) (x6 : Int32) (x7 : Int32) (h : Mm), X12_goLeast_97 n rf f x1 x2 x3 x4 x5 x6 x7 h = some (rv, hz) → V X G RX12 cX12_goLeast 11 (none) DD 0 0 (QR X G false o none hz) false o 97 [(0, .ref (xa X 251)), (1, .int x1), (2, .int x2), (3, .int x3), (4, .int x4), (5, .int x5), (6, .int x6), (7, .int x7)] [] h := by
  intro f
  induction f with
  | zero => intro x1 x2 x3 x4 x5 x6 x7 h hF; exact nomatch (show (none : Option (Unit × Mm)) = some (rv, hz) from hF)
  | succ f ih =>
    intro x1 x2 x3 x4 x5 x6 x7 h hF
    unfold X12_goLeast_97 at hF
    refine V.iload 7 dX12_goLeast_97 rfl ?_
    refine V.aload_n 0 dX12_goLeast_99 rfl rfl ?_
    refine V.getI fl_X12_288 sh_251 rfl km_251 dX12_goLeast_100 ?_
    refine V.icmp_ge (tgt := 270) dX12_goLeast_103 rfl (fun c => ?_) (fun c => ?_)
    · replace hF := (if_pos c).symm.trans hF
      cases hF
      exact V.vret dX12_goLeast_270
    · replace hF := (if_neg c).symm.trans hF
      refine V.bipush (v := 18) dX12_goLeast_106 (by decide) ?_
      refine V.aload_n 0 dX12_goLeast_108 rfl rfl ?_
      refine V.iload 7 dX12_goLeast_109 rfl ?_
      obtain ⟨r65, hc66, hF⟩ := bp_s hF
      refine V.callVi mf_X12_kindOf ml_X12_328 sh_251 (s_X12_kindOf hc66) (by omega) rfl rfl (Nat.le_of_ble_eq_true rfl) dX12_goLeast_111 ?_
      refine V.iadd dX12_goLeast_114 ?_
      refine V.istore [(8, _), (0, _), (1, _), (2, _), (3, _), (4, _), (5, _), (6, _), (7, _)] dX12_goLeast_115 (by decide) rfl ?_
      refine V.aload_n 1 dX12_goLeast_117 rfl rfl ?_
      refine V.getR (v := 265) fl_X12_64 sh_251 rfl fx_251_33 (by decide) dX12_goLeast_118 ?_
      refine V.iload 0 dX12_goLeast_121 rfl ?_
      obtain ⟨hk, hF⟩ := ck hF
      refine V.iald io_265 hk dX12_goLeast_123 ?_
      refine V.istore [(9, _), (8, _), (0, _), (1, _), (2, _), (3, _), (4, _), (5, _), (6, _), (7, _)] dX12_goLeast_124 (by decide) rfl ?_
      refine V.iconst (v := 1) dX12_goLeast_126 rfl ?_
      refine V.istore [(10, _), (9, _), (8, _), (0, _), (1, _), (2, _), (3, _), (4, _), (5, _), (6, _), (7, _)] dX12_goLeast_127 (by decide) rfl ?_
      exact V.sub [3, 4, 5, 6, 7, 8, 9, 10, 2, 1, 0] rfl (v_X12_goLeast_129 hdr hrf ih n _ _ _ _ _ _ _ _ _ _ _ hF)
def X12_goLeast_b (n : Nat) (rf : Int32 → Int32 → Int32 → Mm → Option (Unit × Mm)) (x1 : Int32) (x2 : Int32) (x3 : Int32) (h : Mm) : Option (Unit × Mm) := (if inB (22) (aln 265) then (bp (X12_isEnough (h.1 265 (22).toNatClampNeg) h) (fun r67 => (if r67 = true then (if (h.1 251 41) = (-1) then (X12_goLeast_47 n rf x2 x3 h) else (if (h.1 251 41) < x2 then (some ((), h)) else (if x2 = (h.1 251 41) then (if x3 < (h.1 251 42) then (X12_goLeast_47 n rf x2 x3 h) else (some ((), h))) else (X12_goLeast_47 n rf x2 x3 h)))) else (if x1 = 0 then (some ((), h)) else (if inB (23) (aln 265) then (if inB (22) (aln 265) then (if inB (((3) * (h.1 265 (23).toNatClampNeg)) + (0)) (aln 265) then (X12_goLeast_97 n rf n x1 x2 x3 (((3) * (h.1 265 (23).toNatClampNeg)) + (0)) (h.1 265 (22).toNatClampNeg) (h.1 265 (((3) * (h.1 265 (23).toNatClampNeg)) + (0)).toNatClampNeg) (0) h) else none) else none) else none))))) else none)
set_option maxRecDepth 100000 in
set_option maxHeartbeats 4000000 in
theorem s_X12_goLeast_b {X : WX} {o : Mm} {n : Nat} {rf : Int32 → Int32 → Int32 → Mm → Option (Unit × Mm)} {dr : Nat} (hdr : 93 ≤ dr) (hrf : ∀ (x1 : Int32) (x2 : Int32) (x3 : Int32)  (h : Mm) (r : Unit) (h2 : Mm), rf x1 x2 x3 h = some (r, h2) → Sat X yX12_goLeast cX12_goLeast 11 (none) dr [.ref (xa X 251), .int x1, .int x2, .int x3] false o h none h2) {DD : Nat} (hDD : dr + 1 ≤ DD) {x1 : Int32} {x2 : Int32} {x3 : Int32} {rv : Unit} {hz : Mm} {h : Mm} (hF : X12_goLeast_b n rf x1 x2 x3 h = some (rv, hz)) : Sat X yX12_goLeast cX12_goLeast 11 (none) DD [.ref (xa X 251), .int x1, .int x2, .int x3] false o h none hz := by
  unfold X12_goLeast_b at hF
  refine Sat.mk (own := RX12) rfl (by decide +kernel) (Nat.le_of_ble_eq_true rfl) (fun G => ?_)
  refine V.sub (lv2 := [(0, _), (1, _), (2, _), (3, _)]) [0, 1, 2, 3] rfl ?_
  refine V.aload_n 0 dX12_goLeast_0 rfl rfl ?_
  refine V.aload_n 0 dX12_goLeast_1 rfl rfl ?_
  refine V.getR (v := 265) fl_X12_64 sh_251 rfl fx_251_33 (by decide) dX12_goLeast_2 ?_
  refine V.bipush (v := 22) dX12_goLeast_5 (by decide) ?_
  obtain ⟨hk, hF⟩ := ck hF
  refine V.iald io_265 hk dX12_goLeast_7 ?_
  obtain ⟨r67, hc68, hF⟩ := bp_s hF
  refine V.callVi mf_X12_isEnough ml_X12_340 sh_251 (s_X12_isEnough hc68) (by omega) rfl rfl (Nat.le_of_ble_eq_true rfl) dX12_goLeast_8 ?_
  refine V.ifz_eq (tgt := 58) dX12_goLeast_11 rfl (fun c => ?_) (fun c => ?_)
  · replace hF := (if_neg c).symm.trans hF
    refine V.iload_n 1 dX12_goLeast_58 rfl rfl ?_
    refine V.if_ne (tgt := 63) dX12_goLeast_59 rfl (fun c => ?_) (fun c => ?_)
    · replace hF := (if_neg c).symm.trans hF
      refine V.iconst (v := 3) dX12_goLeast_63 rfl ?_
      refine V.aload_n 0 dX12_goLeast_64 rfl rfl ?_
      refine V.getR (v := 265) fl_X12_64 sh_251 rfl fx_251_33 (by decide) dX12_goLeast_65 ?_
      refine V.bipush (v := 23) dX12_goLeast_68 (by decide) ?_
      obtain ⟨hk, hF⟩ := ck hF
      refine V.iald io_265 hk dX12_goLeast_70 ?_
      refine V.imul dX12_goLeast_71 ?_
      refine V.iconst (v := 0) dX12_goLeast_72 rfl ?_
      refine V.iadd dX12_goLeast_73 ?_
      refine V.istore [(4, _), (0, _), (1, _), (2, _), (3, _)] dX12_goLeast_74 (by decide) rfl ?_
      refine V.aload_n 1 dX12_goLeast_76 rfl rfl ?_
      refine V.getR (v := 265) fl_X12_64 sh_251 rfl fx_251_33 (by decide) dX12_goLeast_77 ?_
      refine V.bipush (v := 22) dX12_goLeast_80 (by decide) ?_
      obtain ⟨hk, hF⟩ := ck hF
      refine V.iald io_265 hk dX12_goLeast_82 ?_
      refine V.istore [(5, _), (4, _), (0, _), (1, _), (2, _), (3, _)] dX12_goLeast_83 (by decide) rfl ?_
      refine V.aload_n 2 dX12_goLeast_85 rfl rfl ?_
      refine V.getR (v := 265) fl_X12_64 sh_251 rfl fx_251_33 (by decide) dX12_goLeast_86 ?_
      refine V.iload 1 dX12_goLeast_89 rfl ?_
      obtain ⟨hk, hF⟩ := ck hF
      refine V.iald io_265 hk dX12_goLeast_91 ?_
      refine V.istore [(6, _), (5, _), (4, _), (0, _), (1, _), (2, _), (3, _)] dX12_goLeast_92 (by decide) rfl ?_
      refine V.iconst (v := 0) dX12_goLeast_94 rfl ?_
      refine V.istore [(7, _), (6, _), (5, _), (4, _), (0, _), (1, _), (2, _), (3, _)] dX12_goLeast_95 (by decide) rfl ?_
      exact V.sub [4, 5, 6, 7, 3, 2, 1, 0] rfl (v_X12_goLeast_97 hdr hrf n _ _ _ _ _ _ _ _ hF)
    · replace hF := (if_pos c).symm.trans hF
      cases hF
      exact V.vret dX12_goLeast_62
  · replace hF := (if_pos c).symm.trans hF
    refine V.aload_n 0 dX12_goLeast_14 rfl rfl ?_
    refine V.getI fl_X12_412 sh_251 rfl km_251 dX12_goLeast_15 ?_
    refine V.iconst (v := -1) dX12_goLeast_18 rfl ?_
    refine V.icmp_eq (tgt := 47) dX12_goLeast_19 rfl (fun c => ?_) (fun c => ?_)
    · replace hF := (if_pos c).symm.trans hF
      exact V.sub [0, 2, 3] rfl (v_X12_goLeast_47 hdr hrf hF)
    · replace hF := (if_neg c).symm.trans hF
      refine V.iload_n 2 dX12_goLeast_22 rfl rfl ?_
      refine V.aload_n 0 dX12_goLeast_23 rfl rfl ?_
      refine V.getI fl_X12_412 sh_251 rfl km_251 dX12_goLeast_24 ?_
      refine V.icmp_gt (tgt := 46) dX12_goLeast_27 rfl (fun c => ?_) (fun c => ?_)
      · replace hF := (if_pos c).symm.trans hF
        cases hF
        exact V.vret dX12_goLeast_46
      · replace hF := (if_neg c).symm.trans hF
        refine V.iload_n 2 dX12_goLeast_30 rfl rfl ?_
        refine V.aload_n 0 dX12_goLeast_31 rfl rfl ?_
        refine V.getI fl_X12_412 sh_251 rfl km_251 dX12_goLeast_32 ?_
        refine V.icmp_ne (tgt := 47) dX12_goLeast_35 rfl (fun c => ?_) (fun c => ?_)
        · replace hF := (if_neg c).symm.trans hF
          exact V.sub [0, 2, 3] rfl (v_X12_goLeast_47 hdr hrf hF)
        · replace hF := (if_pos c).symm.trans hF
          refine V.iload_n 3 dX12_goLeast_38 rfl rfl ?_
          refine V.aload_n 0 dX12_goLeast_39 rfl rfl ?_
          refine V.getI fl_X12_415 sh_251 rfl km_251 dX12_goLeast_40 ?_
          refine V.icmp_lt (tgt := 47) dX12_goLeast_43 rfl (fun c => ?_) (fun c => ?_)
          · replace hF := (if_pos c).symm.trans hF
            exact V.sub [0, 2, 3] rfl (v_X12_goLeast_47 hdr hrf hF)
          · replace hF := (if_neg c).symm.trans hF
            cases hF
            exact V.vret dX12_goLeast_46
def X12_goLeast (n : Nat) : Nat → Int32 → Int32 → Int32 → Mm → Option (Unit × Mm)
  | 0, _, _, _, _ => none
  | e + 1, x1, x2, x3, h => X12_goLeast_b n (X12_goLeast n e) x1 x2 x3 h
set_option maxRecDepth 100000 in
set_option maxHeartbeats 4000000 in
theorem s_X12_goLeast {X : WX} {o : Mm} {n : Nat} : ∀ (e : Nat) (x1 : Int32) (x2 : Int32) (x3 : Int32) (h : Mm) (rv : Unit) (hz : Mm), X12_goLeast n e x1 x2 x3 h = some (rv, hz) → Sat X yX12_goLeast cX12_goLeast 11 (none) (93 + 2 * e) [.ref (xa X 251), .int x1, .int x2, .int x3] false o h none hz := by
  intro e
  induction e with
  | zero => intro x1 x2 x3 h rv hz hF; exact nomatch (show (none : Option (Unit × Mm)) = some (rv, hz) from hF)
  | succ e ih => intro x1 x2 x3 h rv hz hF; exact s_X12_goLeast_b (dr := 93 + 2 * e) (by omega) ih (by omega)  hF
/-! MonsterCotModel.least -/
theorem dX12_least_0 : decode cX12_least 0 = .ok (.aload_n 0, 1) := by decide +kernel
theorem dX12_least_1 : decode cX12_least 1 = .ok (.iconst 0, 1) := by decide +kernel
theorem dX12_least_2 : decode cX12_least 2 = .ok (.putfield 93, 3) := by decide +kernel
theorem dX12_least_5 : decode cX12_least 5 = .ok (.aload_n 0, 1) := by decide +kernel
theorem dX12_least_6 : decode cX12_least 6 = .ok (.getfield 291, 3) := by decide +kernel
theorem dX12_least_9 : decode cX12_least 9 = .ok (.ifCond .eq 13, 3) := by decide +kernel
theorem dX12_least_12 : decode cX12_least 12 = .ok (.iload_n 1, 1) := by decide +kernel
theorem dX12_least_13 : decode cX12_least 13 = .ok (.i2l, 1) := by decide +kernel
theorem dX12_least_14 : decode cX12_least 14 = .ok (.lconst 0, 1) := by decide +kernel
theorem dX12_least_15 : decode cX12_least 15 = .ok (.lconst 1, 1) := by decide +kernel
theorem dX12_least_16 : decode cX12_least 16 = .ok (.invokestatic 214, 3) := by decide +kernel
theorem dX12_least_19 : decode cX12_least 19 = .ok (.ifCond .ne 5, 3) := by decide +kernel
theorem dX12_least_22 : decode cX12_least 22 = .ok (.iconst (-1), 1) := by decide +kernel
theorem dX12_least_23 : decode cX12_least 23 = .ok (.ireturn, 1) := by decide +kernel
theorem dX12_least_24 : decode cX12_least 24 = .ok (.aload_n 0, 1) := by decide +kernel
theorem dX12_least_25 : decode cX12_least 25 = .ok (.getfield 61, 3) := by decide +kernel
theorem dX12_least_28 : decode cX12_least 28 = .ok (.aload_n 0, 1) := by decide +kernel
theorem dX12_least_29 : decode cX12_least 29 = .ok (.getfield 64, 3) := by decide +kernel
theorem dX12_least_32 : decode cX12_least 32 = .ok (.invokestatic 401, 3) := by decide +kernel
theorem dX12_least_35 : decode cX12_least 35 = .ok (.aload_n 0, 1) := by decide +kernel
theorem dX12_least_36 : decode cX12_least 36 = .ok (.iconst (-1), 1) := by decide +kernel
theorem dX12_least_37 : decode cX12_least 37 = .ok (.putfield 412, 3) := by decide +kernel
theorem dX12_least_40 : decode cX12_least 40 = .ok (.aload_n 0, 1) := by decide +kernel
theorem dX12_least_41 : decode cX12_least 41 = .ok (.iconst (-1), 1) := by decide +kernel
theorem dX12_least_42 : decode cX12_least 42 = .ok (.putfield 415, 3) := by decide +kernel
theorem dX12_least_45 : decode cX12_least 45 = .ok (.aload_n 0, 1) := by decide +kernel
theorem dX12_least_46 : decode cX12_least 46 = .ok (.iconst 3, 1) := by decide +kernel
theorem dX12_least_47 : decode cX12_least 47 = .ok (.iconst 0, 1) := by decide +kernel
theorem dX12_least_48 : decode cX12_least 48 = .ok (.iconst 0, 1) := by decide +kernel
theorem dX12_least_49 : decode cX12_least 49 = .ok (.invokevirtual 418, 3) := by decide +kernel
theorem dX12_least_52 : decode cX12_least 52 = .ok (.iload_n 1, 1) := by decide +kernel
theorem dX12_least_53 : decode cX12_least 53 = .ok (.ifCond .ne 10, 3) := by decide +kernel
theorem dX12_least_56 : decode cX12_least 56 = .ok (.aload_n 0, 1) := by decide +kernel
theorem dX12_least_57 : decode cX12_least 57 = .ok (.getfield 412, 3) := by decide +kernel
theorem dX12_least_60 : decode cX12_least 60 = .ok (.goto 7, 3) := by decide +kernel
theorem dX12_least_63 : decode cX12_least 63 = .ok (.aload_n 0, 1) := by decide +kernel
theorem dX12_least_64 : decode cX12_least 64 = .ok (.getfield 415, 3) := by decide +kernel
theorem dX12_least_67 : decode cX12_least 67 = .ok (.ireturn, 1) := by decide +kernel
def X12_least (n : Nat) (x1 : Int32) (h : Mm) : Option (Int32 × Mm) := (if ((wI h 251 0 (0)).1 251 27) = 0 then (some ((-1), (wI h 251 0 (0)))) else (bp (X12_isIn x1.toInt64 (0 : Int64) (1 : Int64) (wI h 251 0 (0))) (fun r9 => (if r9 = true then (bd (X12_copy n 264 265 (wI h 251 0 (0))) (fun _ h13 => (bd (X12_goLeast n 9 (3) (0) (0) (wI (wI h13 251 41 (-1)) 251 42 (-1))) (fun _ h16 => (if x1 = 0 then (some ((h16.1 251 41), h16)) else (some ((h16.1 251 42), h16))))))) else (some ((-1), (wI h 251 0 (0))))))))
set_option maxRecDepth 100000 in
set_option maxHeartbeats 4000000 in
theorem s_X12_least {X : WX} {o : Mm} {n : Nat} {x1 : Int32} {rv : Int32} {hz : Mm} {h : Mm} (hF : X12_least n x1 h = some (rv, hz)) : Sat X yX12_least cX12_least 2 (some .int) 112 [.ref (xa X 251), .int x1] false o h (some (.int rv)) hz := by
  unfold X12_least at hF
  refine Sat.mk (own := RX12) rfl (by decide +kernel) (Nat.le_of_ble_eq_true rfl) (fun G => ?_)
  refine V.sub (lv2 := [(0, _), (1, _)]) [0, 1] rfl ?_
  refine V.aload_n 0 dX12_least_0 rfl rfl ?_
  refine V.iconst (v := 0) dX12_least_1 rfl ?_
  refine V.putI fl_X12_93 rfl (tyX12_ok 0 (by decide)) rfl rfl sh_251 rfl km_251 dX12_least_2 ?_
  refine V.aload_n 0 dX12_least_5 rfl rfl ?_
  refine V.getI fl_X12_291 sh_251 rfl km_251 dX12_least_6 ?_
  refine V.if_eq (tgt := 22) dX12_least_9 rfl (fun c => ?_) (fun c => ?_)
  · replace hF := (if_pos c).symm.trans hF
    refine V.iconst (v := -1) dX12_least_22 rfl ?_
    cases hF
    exact V.iret dX12_least_23
  · replace hF := (if_neg c).symm.trans hF
    refine V.iload_n 1 dX12_least_12 rfl rfl ?_
    refine V.i2l dX12_least_13 ?_
    refine V.lconst (v := 0) dX12_least_14 rfl ?_
    refine V.lconst (v := 1) dX12_least_15 rfl ?_
    obtain ⟨r9, hc10, hF⟩ := bp_s hF
    refine V.callSi mf_X12_isIn ml_X12_214 (s_X12_isIn hc10) (by decide) rfl rfl (Nat.le_of_ble_eq_true rfl) dX12_least_16 ?_
    refine V.ifz_ne (tgt := 24) dX12_least_19 rfl (fun c => ?_) (fun c => ?_)
    · replace hF := (if_pos c).symm.trans hF
      refine V.aload_n 0 dX12_least_24 rfl rfl ?_
      refine V.getR (v := 264) fl_X12_61 sh_251 rfl fx_251_32 (by decide) dX12_least_25 ?_
      refine V.aload_n 0 dX12_least_28 rfl rfl ?_
      refine V.getR (v := 265) fl_X12_64 sh_251 rfl fx_251_33 (by decide) dX12_least_29 ?_
      obtain ⟨r11, h13, hc12, hF⟩ := bd_s hF
      refine V.callSv mf_X12_copy ml_X12_401 (s_X12_copy io_264 io_265 hc12) (by decide) rfl rfl (Nat.le_of_ble_eq_true rfl) dX12_least_32 ?_
      refine V.aload_n 0 dX12_least_35 rfl rfl ?_
      refine V.iconst (v := -1) dX12_least_36 rfl ?_
      refine V.putI fl_X12_412 rfl (tyX12_ok 41 (by decide)) rfl rfl sh_251 rfl km_251 dX12_least_37 ?_
      refine V.aload_n 0 dX12_least_40 rfl rfl ?_
      refine V.iconst (v := -1) dX12_least_41 rfl ?_
      refine V.putI fl_X12_415 rfl (tyX12_ok 42 (by decide)) rfl rfl sh_251 rfl km_251 dX12_least_42 ?_
      refine V.aload_n 0 dX12_least_45 rfl rfl ?_
      refine V.iconst (v := 3) dX12_least_46 rfl ?_
      refine V.iconst (v := 0) dX12_least_47 rfl ?_
      refine V.iconst (v := 0) dX12_least_48 rfl ?_
      obtain ⟨r14, h16, hc15, hF⟩ := bd_s hF
      refine V.callVv mf_X12_goLeast ml_X12_418 sh_251 (s_X12_goLeast 9 _ _ _ _ _ _ hc15) (by decide) rfl rfl (Nat.le_of_ble_eq_true rfl) dX12_least_49 ?_
      refine V.iload_n 1 dX12_least_52 rfl rfl ?_
      refine V.if_ne (tgt := 63) dX12_least_53 rfl (fun c => ?_) (fun c => ?_)
      · replace hF := (if_neg c).symm.trans hF
        refine V.aload_n 0 dX12_least_63 rfl rfl ?_
        refine V.getI fl_X12_415 sh_251 rfl km_251 dX12_least_64 ?_
        cases hF
        exact V.iret dX12_least_67
      · replace hF := (if_pos c).symm.trans hF
        refine V.aload_n 0 dX12_least_56 rfl rfl ?_
        refine V.getI fl_X12_412 sh_251 rfl km_251 dX12_least_57 ?_
        refine V.goto (tgt := 67) dX12_least_60 rfl ?_
        cases hF
        exact V.iret dX12_least_67
    · replace hF := (if_neg c).symm.trans hF
      refine V.iconst (v := -1) dX12_least_22 rfl ?_
      cases hF
      exact V.iret dX12_least_23
/-! MonsterCotModel.best -/
theorem dX12_best_0 : decode cX12_best 0 = .ok (.aload_n 0, 1) := by decide +kernel
theorem dX12_best_1 : decode cX12_best 1 = .ok (.iconst 0, 1) := by decide +kernel
theorem dX12_best_2 : decode cX12_best 2 = .ok (.putfield 93, 3) := by decide +kernel
theorem dX12_best_5 : decode cX12_best 5 = .ok (.aload_n 0, 1) := by decide +kernel
theorem dX12_best_6 : decode cX12_best 6 = .ok (.getfield 291, 3) := by decide +kernel
theorem dX12_best_9 : decode cX12_best 9 = .ok (.ifCond .eq 25, 3) := by decide +kernel
theorem dX12_best_12 : decode cX12_best 12 = .ok (.iload_n 1, 1) := by decide +kernel
theorem dX12_best_13 : decode cX12_best 13 = .ok (.i2l, 1) := by decide +kernel
theorem dX12_best_14 : decode cX12_best 14 = .ok (.lconst 1, 1) := by decide +kernel
theorem dX12_best_15 : decode cX12_best 15 = .ok (.ldc2_w 350, 3) := by decide +kernel
theorem dX12_best_18 : decode cX12_best 18 = .ok (.invokestatic 214, 3) := by decide +kernel
theorem dX12_best_21 : decode cX12_best 21 = .ok (.ifCond .eq 13, 3) := by decide +kernel
theorem dX12_best_24 : decode cX12_best 24 = .ok (.iload_n 2, 1) := by decide +kernel
theorem dX12_best_25 : decode cX12_best 25 = .ok (.i2l, 1) := by decide +kernel
theorem dX12_best_26 : decode cX12_best 26 = .ok (.lconst 0, 1) := by decide +kernel
theorem dX12_best_27 : decode cX12_best 27 = .ok (.lconst 1, 1) := by decide +kernel
theorem dX12_best_28 : decode cX12_best 28 = .ok (.invokestatic 214, 3) := by decide +kernel
theorem dX12_best_31 : decode cX12_best 31 = .ok (.ifCond .ne 5, 3) := by decide +kernel
theorem dX12_best_34 : decode cX12_best 34 = .ok (.iconst (-1), 1) := by decide +kernel
theorem dX12_best_35 : decode cX12_best 35 = .ok (.ireturn, 1) := by decide +kernel
theorem dX12_best_36 : decode cX12_best 36 = .ok (.iconst (-1), 1) := by decide +kernel
theorem dX12_best_37 : decode cX12_best 37 = .ok (.istore_n 3, 1) := by decide +kernel
theorem dX12_best_38 : decode cX12_best 38 = .ok (.iconst 0, 1) := by decide +kernel
theorem dX12_best_39 : decode cX12_best 39 = .ok (.istore 4, 2) := by decide +kernel
theorem dX12_best_41 : decode cX12_best 41 = .ok (.iconst 0, 1) := by decide +kernel
theorem dX12_best_42 : decode cX12_best 42 = .ok (.istore 5, 2) := by decide +kernel
theorem dX12_best_44 : decode cX12_best 44 = .ok (.iload 5, 2) := by decide +kernel
theorem dX12_best_46 : decode cX12_best 46 = .ok (.aload_n 0, 1) := by decide +kernel
theorem dX12_best_47 : decode cX12_best 47 = .ok (.getfield 288, 3) := by decide +kernel
theorem dX12_best_50 : decode cX12_best 50 = .ok (.if_icmp .ge 82, 3) := by decide +kernel
theorem dX12_best_53 : decode cX12_best 53 = .ok (.aload_n 0, 1) := by decide +kernel
theorem dX12_best_54 : decode cX12_best 54 = .ok (.aload_n 0, 1) := by decide +kernel
theorem dX12_best_55 : decode cX12_best 55 = .ok (.getfield 61, 3) := by decide +kernel
theorem dX12_best_58 : decode cX12_best 58 = .ok (.iload 5, 2) := by decide +kernel
theorem dX12_best_60 : decode cX12_best 60 = .ok (.iload_n 1, 1) := by decide +kernel
theorem dX12_best_61 : decode cX12_best 61 = .ok (.iconst 0, 1) := by decide +kernel
theorem dX12_best_62 : decode cX12_best 62 = .ok (.invokevirtual 359, 3) := by decide +kernel
theorem dX12_best_65 : decode cX12_best 65 = .ok (.ifCond .ne 6, 3) := by decide +kernel
theorem dX12_best_68 : decode cX12_best 68 = .ok (.goto 58, 3) := by decide +kernel
theorem dX12_best_71 : decode cX12_best 71 = .ok (.aload_n 0, 1) := by decide +kernel
theorem dX12_best_72 : decode cX12_best 72 = .ok (.getfield 61, 3) := by decide +kernel
theorem dX12_best_75 : decode cX12_best 75 = .ok (.aload_n 0, 1) := by decide +kernel
theorem dX12_best_76 : decode cX12_best 76 = .ok (.getfield 64, 3) := by decide +kernel
theorem dX12_best_79 : decode cX12_best 79 = .ok (.invokestatic 401, 3) := by decide +kernel
theorem dX12_best_82 : decode cX12_best 82 = .ok (.aload_n 0, 1) := by decide +kernel
theorem dX12_best_83 : decode cX12_best 83 = .ok (.aload_n 0, 1) := by decide +kernel
theorem dX12_best_84 : decode cX12_best 84 = .ok (.getfield 64, 3) := by decide +kernel
theorem dX12_best_87 : decode cX12_best 87 = .ok (.iload 5, 2) := by decide +kernel
theorem dX12_best_89 : decode cX12_best 89 = .ok (.iload_n 1, 1) := by decide +kernel
theorem dX12_best_90 : decode cX12_best 90 = .ok (.iconst 0, 1) := by decide +kernel
theorem dX12_best_91 : decode cX12_best 91 = .ok (.invokevirtual 365, 3) := by decide +kernel
theorem dX12_best_94 : decode cX12_best 94 = .ok (.iload_n 3, 1) := by decide +kernel
theorem dX12_best_95 : decode cX12_best 95 = .ok (.iconst (-1), 1) := by decide +kernel
theorem dX12_best_96 : decode cX12_best 96 = .ok (.if_icmp .eq 18, 3) := by decide +kernel
theorem dX12_best_99 : decode cX12_best 99 = .ok (.aload_n 0, 1) := by decide +kernel
theorem dX12_best_100 : decode cX12_best 100 = .ok (.getfield 64, 3) := by decide +kernel
theorem dX12_best_103 : decode cX12_best 103 = .ok (.bipush 22, 2) := by decide +kernel
theorem dX12_best_105 : decode cX12_best 105 = .ok (.iaload, 1) := by decide +kernel
theorem dX12_best_106 : decode cX12_best 106 = .ok (.iload 4, 2) := by decide +kernel
theorem dX12_best_108 : decode cX12_best 108 = .ok (.if_icmp .gt 6, 3) := by decide +kernel
theorem dX12_best_111 : decode cX12_best 111 = .ok (.goto 15, 3) := by decide +kernel
theorem dX12_best_114 : decode cX12_best 114 = .ok (.iload 5, 2) := by decide +kernel
theorem dX12_best_116 : decode cX12_best 116 = .ok (.istore_n 3, 1) := by decide +kernel
theorem dX12_best_117 : decode cX12_best 117 = .ok (.aload_n 0, 1) := by decide +kernel
theorem dX12_best_118 : decode cX12_best 118 = .ok (.getfield 64, 3) := by decide +kernel
theorem dX12_best_121 : decode cX12_best 121 = .ok (.bipush 22, 2) := by decide +kernel
theorem dX12_best_123 : decode cX12_best 123 = .ok (.iaload, 1) := by decide +kernel
theorem dX12_best_124 : decode cX12_best 124 = .ok (.istore 4, 2) := by decide +kernel
theorem dX12_best_126 : decode cX12_best 126 = .ok (.iinc 5 1, 3) := by decide +kernel
theorem dX12_best_129 : decode cX12_best 129 = .ok (.goto (-85), 3) := by decide +kernel
theorem dX12_best_132 : decode cX12_best 132 = .ok (.iload_n 3, 1) := by decide +kernel
theorem dX12_best_133 : decode cX12_best 133 = .ok (.iconst (-1), 1) := by decide +kernel
theorem dX12_best_134 : decode cX12_best 134 = .ok (.if_icmp .eq 7, 3) := by decide +kernel
theorem dX12_best_137 : decode cX12_best 137 = .ok (.iload_n 2, 1) := by decide +kernel
theorem dX12_best_138 : decode cX12_best 138 = .ok (.ifCond .ne 7, 3) := by decide +kernel
theorem dX12_best_141 : decode cX12_best 141 = .ok (.iload_n 3, 1) := by decide +kernel
theorem dX12_best_142 : decode cX12_best 142 = .ok (.goto 5, 3) := by decide +kernel
theorem dX12_best_145 : decode cX12_best 145 = .ok (.iload 4, 2) := by decide +kernel
theorem dX12_best_147 : decode cX12_best 147 = .ok (.ireturn, 1) := by decide +kernel
def X12_best_126 (n : Nat) (K44 : Int32 → Int32 → Int32 → Int32 → Int32 → Mm → Option (Int32 × Mm)) (x1 : Int32) (x2 : Int32) (x3 : Int32) (x4 : Int32) (x5 : Int32) (h : Mm) : Option (Int32 × Mm) := (K44 x1 x2 x3 x4 (x5 + (1)) h)
set_option maxRecDepth 100000 in
set_option maxHeartbeats 4000000 in
theorem v_X12_best_126 {X : WX} {G : GX} {o : Mm} {n : Nat} {K44 : Int32 → Int32 → Int32 → Int32 → Int32 → Mm → Option (Int32 × Mm)} {rv : Int32} {hz : Mm} (hK44 : ∀ (x1 : Int32) (x2 : Int32) (x3 : Int32) (x4 : Int32) (x5 : Int32) (h : Mm), K44 x1 x2 x3 x4 x5 h = some (rv, hz) → V X G RX12 cX12_best 6 (some .int) 92 0 0 (QR X G false o (some (.int rv)) hz) false o 44 [(0, .ref (xa X 251)), (1, .int x1), (2, .int x2), (3, .int x3), (4, .int x4), (5, .int x5)] [] h) {x1 : Int32} {x2 : Int32} {x3 : Int32} {x4 : Int32} {x5 : Int32} {h : Mm} (hF : X12_best_126 n K44 x1 x2 x3 x4 x5 h = some (rv, hz)) : V X G RX12 cX12_best 6 (some .int) 92 0 0 (QR X G false o (some (.int rv)) hz) false o 126 [(0, .ref (xa X 251)), (1, .int x1), (2, .int x2), (3, .int x3), (4, .int x4), (5, .int x5)] [] h := by
  unfold X12_best_126 at hF
  refine V.iinc (v := (x5 + (1))) 5 [(5, _), (0, _), (1, _), (2, _), (3, _), (4, _)] dX12_best_126 rfl rfl (by decide) rfl ?_
  refine V.goto (tgt := 44) dX12_best_129 rfl ?_
  exact V.sub [1, 2, 3, 4, 5, 0] rfl (hK44 _ _ _ _ _ _ hF)
def X12_best_114 (n : Nat) (K44 : Int32 → Int32 → Int32 → Int32 → Int32 → Mm → Option (Int32 × Mm)) (x1 : Int32) (x2 : Int32) (x5 : Int32) (h : Mm) : Option (Int32 × Mm) := (if inB (22) (aln 265) then (X12_best_126 n K44 x1 x2 x5 (h.1 265 (22).toNatClampNeg) x5 h) else none)
set_option maxRecDepth 100000 in
set_option maxHeartbeats 4000000 in
theorem v_X12_best_114 {X : WX} {G : GX} {o : Mm} {n : Nat} {K44 : Int32 → Int32 → Int32 → Int32 → Int32 → Mm → Option (Int32 × Mm)} {rv : Int32} {hz : Mm} (hK44 : ∀ (x1 : Int32) (x2 : Int32) (x3 : Int32) (x4 : Int32) (x5 : Int32) (h : Mm), K44 x1 x2 x3 x4 x5 h = some (rv, hz) → V X G RX12 cX12_best 6 (some .int) 92 0 0 (QR X G false o (some (.int rv)) hz) false o 44 [(0, .ref (xa X 251)), (1, .int x1), (2, .int x2), (3, .int x3), (4, .int x4), (5, .int x5)] [] h) {x1 : Int32} {x2 : Int32} {x5 : Int32} {h : Mm} (hF : X12_best_114 n K44 x1 x2 x5 h = some (rv, hz)) : V X G RX12 cX12_best 6 (some .int) 92 0 0 (QR X G false o (some (.int rv)) hz) false o 114 [(0, .ref (xa X 251)), (1, .int x1), (2, .int x2), (5, .int x5)] [] h := by
  unfold X12_best_114 at hF
  refine V.iload 3 dX12_best_114 rfl ?_
  refine V.istore_n [(3, _), (0, _), (1, _), (2, _), (5, _)] dX12_best_116 rfl (by decide) rfl ?_
  refine V.aload_n 1 dX12_best_117 rfl rfl ?_
  refine V.getR (v := 265) fl_X12_64 sh_251 rfl fx_251_33 (by decide) dX12_best_118 ?_
  refine V.bipush (v := 22) dX12_best_121 (by decide) ?_
  obtain ⟨hk, hF⟩ := ck hF
  refine V.iald io_265 hk dX12_best_123 ?_
  refine V.istore [(4, _), (3, _), (0, _), (1, _), (2, _), (5, _)] dX12_best_124 (by decide) rfl ?_
  exact V.sub [2, 3, 4, 1, 0, 5] rfl (v_X12_best_126 hK44 hF)
def X12_best_141 (n : Nat) (x3 : Int32) (h : Mm) : Option (Int32 × Mm) := (some (x3, h))
set_option maxRecDepth 100000 in
set_option maxHeartbeats 4000000 in
theorem v_X12_best_141 {X : WX} {G : GX} {o : Mm} {n : Nat} {rv : Int32} {hz : Mm} {x3 : Int32} {h : Mm} (hF : X12_best_141 n x3 h = some (rv, hz)) : V X G RX12 cX12_best 6 (some .int) 92 0 0 (QR X G false o (some (.int rv)) hz) false o 141 [(3, .int x3)] [] h := by
  unfold X12_best_141 at hF
  refine V.iload_n 0 dX12_best_141 rfl rfl ?_
  refine V.goto (tgt := 147) dX12_best_142 rfl ?_
  cases hF
  exact V.iret dX12_best_147
def X12_best_44 (n : Nat) : Nat → Int32 → Int32 → Int32 → Int32 → Int32 → Mm → Option (Int32 × Mm)
  | 0, _, _, _, _, _, _ => none
  | f + 1, x1, x2, x3, x4, x5, h => (if (h.1 251 26) ≤ x5 then (if x3 = (-1) then (X12_best_141 n x3 h) else (if x2 = 0 then (X12_best_141 n x3 h) else (some (x4, h)))) else (bp (X12_mayRead 264 x5 x1 false h) (fun r49 => (if r49 = true then (bd (X12_copy n 264 265 h) (fun _ h53 => (bd (X12_reads n 265 x5 x1 false h53) (fun _ h56 => (if x3 = (-1) then (X12_best_114 n (X12_best_44 n f) x1 x2 x5 h56) else (if inB (22) (aln 265) then (if x4 < (h56.1 265 (22).toNatClampNeg) then (X12_best_114 n (X12_best_44 n f) x1 x2 x5 h56) else (X12_best_126 n (X12_best_44 n f) x1 x2 x3 x4 x5 h56)) else none)))))) else (X12_best_126 n (X12_best_44 n f) x1 x2 x3 x4 x5 h)))))
set_option maxRecDepth 100000 in
set_option maxHeartbeats 4000000 in
theorem v_X12_best_44 {X : WX} {G : GX} {o : Mm} {n : Nat} {rv : Int32} {hz : Mm} : ∀ (f : Nat) (x1 : Int32) (x2 : Int32) (x3 : Int32) (x4 : Int32) (x5 : Int32) (h : Mm), X12_best_44 n f x1 x2 x3 x4 x5 h = some (rv, hz) → V X G RX12 cX12_best 6 (some .int) 92 0 0 (QR X G false o (some (.int rv)) hz) false o 44 [(0, .ref (xa X 251)), (1, .int x1), (2, .int x2), (3, .int x3), (4, .int x4), (5, .int x5)] [] h := by
  intro f
  induction f with
  | zero => intro x1 x2 x3 x4 x5 h hF; exact nomatch (show (none : Option (Int32 × Mm)) = some (rv, hz) from hF)
  | succ f ih =>
    intro x1 x2 x3 x4 x5 h hF
    unfold X12_best_44 at hF
    refine V.iload 5 dX12_best_44 rfl ?_
    refine V.aload_n 0 dX12_best_46 rfl rfl ?_
    refine V.getI fl_X12_288 sh_251 rfl km_251 dX12_best_47 ?_
    refine V.icmp_ge (tgt := 132) dX12_best_50 rfl (fun c => ?_) (fun c => ?_)
    · replace hF := (if_pos c).symm.trans hF
      refine V.iload_n 3 dX12_best_132 rfl rfl ?_
      refine V.iconst (v := -1) dX12_best_133 rfl ?_
      refine V.icmp_eq (tgt := 141) dX12_best_134 rfl (fun c => ?_) (fun c => ?_)
      · replace hF := (if_pos c).symm.trans hF
        exact V.sub [3] rfl (v_X12_best_141 hF)
      · replace hF := (if_neg c).symm.trans hF
        refine V.iload_n 2 dX12_best_137 rfl rfl ?_
        refine V.if_ne (tgt := 145) dX12_best_138 rfl (fun c => ?_) (fun c => ?_)
        · replace hF := (if_neg c).symm.trans hF
          refine V.iload 4 dX12_best_145 rfl ?_
          cases hF
          exact V.iret dX12_best_147
        · replace hF := (if_pos c).symm.trans hF
          exact V.sub [3] rfl (v_X12_best_141 hF)
    · replace hF := (if_neg c).symm.trans hF
      refine V.aload_n 0 dX12_best_53 rfl rfl ?_
      refine V.aload_n 0 dX12_best_54 rfl rfl ?_
      refine V.getR (v := 264) fl_X12_61 sh_251 rfl fx_251_32 (by decide) dX12_best_55 ?_
      refine V.iload 5 dX12_best_58 rfl ?_
      refine V.iload_n 1 dX12_best_60 rfl rfl ?_
      refine V.iconst (v := 0) dX12_best_61 rfl ?_
      obtain ⟨r49, hc50, hF⟩ := bp_s hF
      refine V.callVi mf_X12_mayRead ml_X12_359 sh_251 (s_X12_mayRead io_264 hc50) (by decide) rfl rfl (Nat.le_of_ble_eq_true rfl) dX12_best_62 ?_
      refine V.ifz_ne (tgt := 71) dX12_best_65 rfl (fun c => ?_) (fun c => ?_)
      · replace hF := (if_pos c).symm.trans hF
        refine V.aload_n 0 dX12_best_71 rfl rfl ?_
        refine V.getR (v := 264) fl_X12_61 sh_251 rfl fx_251_32 (by decide) dX12_best_72 ?_
        refine V.aload_n 0 dX12_best_75 rfl rfl ?_
        refine V.getR (v := 265) fl_X12_64 sh_251 rfl fx_251_33 (by decide) dX12_best_76 ?_
        obtain ⟨r51, h53, hc52, hF⟩ := bd_s hF
        refine V.callSv mf_X12_copy ml_X12_401 (s_X12_copy io_264 io_265 hc52) (by decide) rfl rfl (Nat.le_of_ble_eq_true rfl) dX12_best_79 ?_
        refine V.aload_n 0 dX12_best_82 rfl rfl ?_
        refine V.aload_n 0 dX12_best_83 rfl rfl ?_
        refine V.getR (v := 265) fl_X12_64 sh_251 rfl fx_251_33 (by decide) dX12_best_84 ?_
        refine V.iload 5 dX12_best_87 rfl ?_
        refine V.iload_n 1 dX12_best_89 rfl rfl ?_
        refine V.iconst (v := 0) dX12_best_90 rfl ?_
        obtain ⟨r54, h56, hc55, hF⟩ := bd_s hF
        refine V.callVv mf_X12_reads ml_X12_365 sh_251 (s_X12_reads io_265 hc55) (by decide) rfl rfl (Nat.le_of_ble_eq_true rfl) dX12_best_91 ?_
        refine V.iload_n 3 dX12_best_94 rfl rfl ?_
        refine V.iconst (v := -1) dX12_best_95 rfl ?_
        refine V.icmp_eq (tgt := 114) dX12_best_96 rfl (fun c => ?_) (fun c => ?_)
        · replace hF := (if_pos c).symm.trans hF
          exact V.sub [0, 1, 2, 5] rfl (v_X12_best_114 ih hF)
        · replace hF := (if_neg c).symm.trans hF
          refine V.aload_n 0 dX12_best_99 rfl rfl ?_
          refine V.getR (v := 265) fl_X12_64 sh_251 rfl fx_251_33 (by decide) dX12_best_100 ?_
          refine V.bipush (v := 22) dX12_best_103 (by decide) ?_
          obtain ⟨hk, hF⟩ := ck hF
          refine V.iald io_265 hk dX12_best_105 ?_
          refine V.iload 4 dX12_best_106 rfl ?_
          refine V.icmp_gt (tgt := 114) dX12_best_108 rfl (fun c => ?_) (fun c => ?_)
          · replace hF := (if_pos c).symm.trans hF
            exact V.sub [0, 1, 2, 5] rfl (v_X12_best_114 ih hF)
          · replace hF := (if_neg c).symm.trans hF
            refine V.goto (tgt := 126) dX12_best_111 rfl ?_
            exact (v_X12_best_126 ih hF)
      · replace hF := (if_neg c).symm.trans hF
        refine V.goto (tgt := 126) dX12_best_68 rfl ?_
        exact (v_X12_best_126 ih hF)
def X12_best (n : Nat) (x1 : Int32) (x2 : Int32) (h : Mm) : Option (Int32 × Mm) := (if ((wI h 251 0 (0)).1 251 27) = 0 then (some ((-1), (wI h 251 0 (0)))) else (bp (X12_isIn x1.toInt64 (1 : Int64) (9 : Int64) (wI h 251 0 (0))) (fun r57 => (if r57 = true then (bp (X12_isIn x2.toInt64 (0 : Int64) (1 : Int64) (wI h 251 0 (0))) (fun r59 => (if r59 = true then (X12_best_44 n n x1 x2 (-1) (0) (0) (wI h 251 0 (0))) else (some ((-1), (wI h 251 0 (0))))))) else (some ((-1), (wI h 251 0 (0))))))))
set_option maxRecDepth 100000 in
set_option maxHeartbeats 4000000 in
theorem s_X12_best {X : WX} {o : Mm} {n : Nat} {x1 : Int32} {x2 : Int32} {rv : Int32} {hz : Mm} {h : Mm} (hF : X12_best n x1 x2 h = some (rv, hz)) : Sat X yX12_best cX12_best 6 (some .int) 92 [.ref (xa X 251), .int x1, .int x2] false o h (some (.int rv)) hz := by
  unfold X12_best at hF
  refine Sat.mk (own := RX12) rfl (by decide +kernel) (Nat.le_of_ble_eq_true rfl) (fun G => ?_)
  refine V.sub (lv2 := [(0, _), (1, _), (2, _)]) [0, 1, 2] rfl ?_
  refine V.aload_n 0 dX12_best_0 rfl rfl ?_
  refine V.iconst (v := 0) dX12_best_1 rfl ?_
  refine V.putI fl_X12_93 rfl (tyX12_ok 0 (by decide)) rfl rfl sh_251 rfl km_251 dX12_best_2 ?_
  refine V.aload_n 0 dX12_best_5 rfl rfl ?_
  refine V.getI fl_X12_291 sh_251 rfl km_251 dX12_best_6 ?_
  refine V.if_eq (tgt := 34) dX12_best_9 rfl (fun c => ?_) (fun c => ?_)
  · replace hF := (if_pos c).symm.trans hF
    refine V.iconst (v := -1) dX12_best_34 rfl ?_
    cases hF
    exact V.iret dX12_best_35
  · replace hF := (if_neg c).symm.trans hF
    refine V.iload_n 1 dX12_best_12 rfl rfl ?_
    refine V.i2l dX12_best_13 ?_
    refine V.lconst (v := 1) dX12_best_14 rfl ?_
    refine V.ldc2 (v := 9) dX12_best_15 kc_X12_350 ?_
    obtain ⟨r57, hc58, hF⟩ := bp_s hF
    refine V.callSi mf_X12_isIn ml_X12_214 (s_X12_isIn hc58) (by decide) rfl rfl (Nat.le_of_ble_eq_true rfl) dX12_best_18 ?_
    refine V.ifz_eq (tgt := 34) dX12_best_21 rfl (fun c => ?_) (fun c => ?_)
    · replace hF := (if_neg c).symm.trans hF
      refine V.iconst (v := -1) dX12_best_34 rfl ?_
      cases hF
      exact V.iret dX12_best_35
    · replace hF := (if_pos c).symm.trans hF
      refine V.iload_n 2 dX12_best_24 rfl rfl ?_
      refine V.i2l dX12_best_25 ?_
      refine V.lconst (v := 0) dX12_best_26 rfl ?_
      refine V.lconst (v := 1) dX12_best_27 rfl ?_
      obtain ⟨r59, hc60, hF⟩ := bp_s hF
      refine V.callSi mf_X12_isIn ml_X12_214 (s_X12_isIn hc60) (by decide) rfl rfl (Nat.le_of_ble_eq_true rfl) dX12_best_28 ?_
      refine V.ifz_ne (tgt := 36) dX12_best_31 rfl (fun c => ?_) (fun c => ?_)
      · replace hF := (if_pos c).symm.trans hF
        refine V.iconst (v := -1) dX12_best_36 rfl ?_
        refine V.istore_n [(3, _), (0, _), (1, _), (2, _)] dX12_best_37 rfl (by decide) rfl ?_
        refine V.iconst (v := 0) dX12_best_38 rfl ?_
        refine V.istore [(4, _), (3, _), (0, _), (1, _), (2, _)] dX12_best_39 (by decide) rfl ?_
        refine V.iconst (v := 0) dX12_best_41 rfl ?_
        refine V.istore [(5, _), (4, _), (3, _), (0, _), (1, _), (2, _)] dX12_best_42 (by decide) rfl ?_
        exact V.sub [3, 4, 5, 2, 1, 0] rfl (v_X12_best_44 n _ _ _ _ _ _ hF)
      · replace hF := (if_neg c).symm.trans hF
        refine V.iconst (v := -1) dX12_best_34 rfl ?_
        cases hF
        exact V.iret dX12_best_35
/-! MonsterCotModel.goRoster -/
theorem dX12_goRoster_0 : decode cX12_goRoster 0 = .ok (.iload_n 2, 1) := by decide +kernel
theorem dX12_goRoster_1 : decode cX12_goRoster 1 = .ok (.ifCond .ne 24, 3) := by decide +kernel
theorem dX12_goRoster_4 : decode cX12_goRoster 4 = .ok (.iload_n 3, 1) := by decide +kernel
theorem dX12_goRoster_5 : decode cX12_goRoster 5 = .ok (.aload_n 0, 1) := by decide +kernel
theorem dX12_goRoster_6 : decode cX12_goRoster 6 = .ok (.getfield 422, 3) := by decide +kernel
theorem dX12_goRoster_9 : decode cX12_goRoster 9 = .ok (.if_icmp .gt 4, 3) := by decide +kernel
theorem dX12_goRoster_12 : decode cX12_goRoster 12 = .ok (.return_, 1) := by decide +kernel
theorem dX12_goRoster_13 : decode cX12_goRoster 13 = .ok (.aload_n 0, 1) := by decide +kernel
theorem dX12_goRoster_14 : decode cX12_goRoster 14 = .ok (.iload_n 3, 1) := by decide +kernel
theorem dX12_goRoster_15 : decode cX12_goRoster 15 = .ok (.putfield 422, 3) := by decide +kernel
theorem dX12_goRoster_18 : decode cX12_goRoster 18 = .ok (.aload_n 0, 1) := by decide +kernel
theorem dX12_goRoster_19 : decode cX12_goRoster 19 = .ok (.iload 4, 2) := by decide +kernel
theorem dX12_goRoster_21 : decode cX12_goRoster 21 = .ok (.putfield 425, 3) := by decide +kernel
theorem dX12_goRoster_24 : decode cX12_goRoster 24 = .ok (.return_, 1) := by decide +kernel
theorem dX12_goRoster_25 : decode cX12_goRoster 25 = .ok (.iload_n 2, 1) := by decide +kernel
theorem dX12_goRoster_26 : decode cX12_goRoster 26 = .ok (.invokestatic 428, 3) := by decide +kernel
theorem dX12_goRoster_29 : decode cX12_goRoster 29 = .ok (.istore 5, 2) := by decide +kernel
theorem dX12_goRoster_31 : decode cX12_goRoster 31 = .ok (.iconst 0, 1) := by decide +kernel
theorem dX12_goRoster_32 : decode cX12_goRoster 32 = .ok (.istore 6, 2) := by decide +kernel
theorem dX12_goRoster_34 : decode cX12_goRoster 34 = .ok (.iload 6, 2) := by decide +kernel
theorem dX12_goRoster_36 : decode cX12_goRoster 36 = .ok (.bipush 30, 2) := by decide +kernel
theorem dX12_goRoster_38 : decode cX12_goRoster 38 = .ok (.if_icmp .gt 29, 3) := by decide +kernel
theorem dX12_goRoster_41 : decode cX12_goRoster 41 = .ok (.aload_n 0, 1) := by decide +kernel
theorem dX12_goRoster_42 : decode cX12_goRoster 42 = .ok (.getfield 81, 3) := by decide +kernel
theorem dX12_goRoster_45 : decode cX12_goRoster 45 = .ok (.bipush 31, 2) := by decide +kernel
theorem dX12_goRoster_47 : decode cX12_goRoster 47 = .ok (.iload 5, 2) := by decide +kernel
theorem dX12_goRoster_49 : decode cX12_goRoster 49 = .ok (.imul, 1) := by decide +kernel
theorem dX12_goRoster_50 : decode cX12_goRoster 50 = .ok (.iload 6, 2) := by decide +kernel
theorem dX12_goRoster_52 : decode cX12_goRoster 52 = .ok (.iadd, 1) := by decide +kernel
theorem dX12_goRoster_53 : decode cX12_goRoster 53 = .ok (.aload_n 0, 1) := by decide +kernel
theorem dX12_goRoster_54 : decode cX12_goRoster 54 = .ok (.getfield 64, 3) := by decide +kernel
theorem dX12_goRoster_57 : decode cX12_goRoster 57 = .ok (.iload 6, 2) := by decide +kernel
theorem dX12_goRoster_59 : decode cX12_goRoster 59 = .ok (.iaload, 1) := by decide +kernel
theorem dX12_goRoster_60 : decode cX12_goRoster 60 = .ok (.iastore, 1) := by decide +kernel
theorem dX12_goRoster_61 : decode cX12_goRoster 61 = .ok (.iinc 6 1, 3) := by decide +kernel
theorem dX12_goRoster_64 : decode cX12_goRoster 64 = .ok (.goto (-30), 3) := by decide +kernel
theorem dX12_goRoster_67 : decode cX12_goRoster 67 = .ok (.iconst 0, 1) := by decide +kernel
theorem dX12_goRoster_68 : decode cX12_goRoster 68 = .ok (.istore 6, 2) := by decide +kernel
theorem dX12_goRoster_70 : decode cX12_goRoster 70 = .ok (.iload 6, 2) := by decide +kernel
theorem dX12_goRoster_72 : decode cX12_goRoster 72 = .ok (.aload_n 0, 1) := by decide +kernel
theorem dX12_goRoster_73 : decode cX12_goRoster 73 = .ok (.getfield 291, 3) := by decide +kernel
theorem dX12_goRoster_76 : decode cX12_goRoster 76 = .ok (.if_icmp .ge 134, 3) := by decide +kernel
theorem dX12_goRoster_79 : decode cX12_goRoster 79 = .ok (.iload_n 2, 1) := by decide +kernel
theorem dX12_goRoster_80 : decode cX12_goRoster 80 = .ok (.iload 6, 2) := by decide +kernel
theorem dX12_goRoster_82 : decode cX12_goRoster 82 = .ok (.invokestatic 226, 3) := by decide +kernel
theorem dX12_goRoster_85 : decode cX12_goRoster 85 = .ok (.ifCond .ne 6, 3) := by decide +kernel
theorem dX12_goRoster_88 : decode cX12_goRoster 88 = .ok (.goto 116, 3) := by decide +kernel
theorem dX12_goRoster_91 : decode cX12_goRoster 91 = .ok (.aload_n 0, 1) := by decide +kernel
theorem dX12_goRoster_92 : decode cX12_goRoster 92 = .ok (.getfield 64, 3) := by decide +kernel
theorem dX12_goRoster_95 : decode cX12_goRoster 95 = .ok (.bipush 23, 2) := by decide +kernel
theorem dX12_goRoster_97 : decode cX12_goRoster 97 = .ok (.iload 6, 2) := by decide +kernel
theorem dX12_goRoster_99 : decode cX12_goRoster 99 = .ok (.iastore, 1) := by decide +kernel
theorem dX12_goRoster_100 : decode cX12_goRoster 100 = .ok (.aload_n 0, 1) := by decide +kernel
theorem dX12_goRoster_101 : decode cX12_goRoster 101 = .ok (.aload_n 0, 1) := by decide +kernel
theorem dX12_goRoster_102 : decode cX12_goRoster 102 = .ok (.getfield 64, 3) := by decide +kernel
theorem dX12_goRoster_105 : decode cX12_goRoster 105 = .ok (.iload_n 1, 1) := by decide +kernel
theorem dX12_goRoster_106 : decode cX12_goRoster 106 = .ok (.aload_n 0, 1) := by decide +kernel
theorem dX12_goRoster_107 : decode cX12_goRoster 107 = .ok (.iload_n 1, 1) := by decide +kernel
theorem dX12_goRoster_108 : decode cX12_goRoster 108 = .ok (.invokevirtual 322, 3) := by decide +kernel
theorem dX12_goRoster_111 : decode cX12_goRoster 111 = .ok (.iconst 0, 1) := by decide +kernel
theorem dX12_goRoster_112 : decode cX12_goRoster 112 = .ok (.invokevirtual 359, 3) := by decide +kernel
theorem dX12_goRoster_115 : decode cX12_goRoster 115 = .ok (.ifCond .eq 18, 3) := by decide +kernel
theorem dX12_goRoster_118 : decode cX12_goRoster 118 = .ok (.aload_n 0, 1) := by decide +kernel
theorem dX12_goRoster_119 : decode cX12_goRoster 119 = .ok (.aload_n 0, 1) := by decide +kernel
theorem dX12_goRoster_120 : decode cX12_goRoster 120 = .ok (.getfield 64, 3) := by decide +kernel
theorem dX12_goRoster_123 : decode cX12_goRoster 123 = .ok (.iload_n 1, 1) := by decide +kernel
theorem dX12_goRoster_124 : decode cX12_goRoster 124 = .ok (.aload_n 0, 1) := by decide +kernel
theorem dX12_goRoster_125 : decode cX12_goRoster 125 = .ok (.iload_n 1, 1) := by decide +kernel
theorem dX12_goRoster_126 : decode cX12_goRoster 126 = .ok (.invokevirtual 322, 3) := by decide +kernel
theorem dX12_goRoster_129 : decode cX12_goRoster 129 = .ok (.iconst 0, 1) := by decide +kernel
theorem dX12_goRoster_130 : decode cX12_goRoster 130 = .ok (.invokevirtual 365, 3) := by decide +kernel
theorem dX12_goRoster_133 : decode cX12_goRoster 133 = .ok (.aload_n 0, 1) := by decide +kernel
theorem dX12_goRoster_134 : decode cX12_goRoster 134 = .ok (.aload_n 0, 1) := by decide +kernel
theorem dX12_goRoster_135 : decode cX12_goRoster 135 = .ok (.getfield 64, 3) := by decide +kernel
theorem dX12_goRoster_138 : decode cX12_goRoster 138 = .ok (.invokevirtual 377, 3) := by decide +kernel
theorem dX12_goRoster_141 : decode cX12_goRoster 141 = .ok (.istore 7, 2) := by decide +kernel
theorem dX12_goRoster_143 : decode cX12_goRoster 143 = .ok (.aload_n 0, 1) := by decide +kernel
theorem dX12_goRoster_144 : decode cX12_goRoster 144 = .ok (.iload_n 1, 1) := by decide +kernel
theorem dX12_goRoster_145 : decode cX12_goRoster 145 = .ok (.iload_n 2, 1) := by decide +kernel
theorem dX12_goRoster_146 : decode cX12_goRoster 146 = .ok (.iconst 1, 1) := by decide +kernel
theorem dX12_goRoster_147 : decode cX12_goRoster 147 = .ok (.iload 6, 2) := by decide +kernel
theorem dX12_goRoster_149 : decode cX12_goRoster 149 = .ok (.ishl, 1) := by decide +kernel
theorem dX12_goRoster_150 : decode cX12_goRoster 150 = .ok (.iconst (-1), 1) := by decide +kernel
theorem dX12_goRoster_151 : decode cX12_goRoster 151 = .ok (.ixor, 1) := by decide +kernel
theorem dX12_goRoster_152 : decode cX12_goRoster 152 = .ok (.iand, 1) := by decide +kernel
theorem dX12_goRoster_153 : decode cX12_goRoster 153 = .ok (.iload_n 3, 1) := by decide +kernel
theorem dX12_goRoster_154 : decode cX12_goRoster 154 = .ok (.iload 7, 2) := by decide +kernel
theorem dX12_goRoster_156 : decode cX12_goRoster 156 = .ok (.iadd, 1) := by decide +kernel
theorem dX12_goRoster_157 : decode cX12_goRoster 157 = .ok (.bipush 10, 2) := by decide +kernel
theorem dX12_goRoster_159 : decode cX12_goRoster 159 = .ok (.iload 4, 2) := by decide +kernel
theorem dX12_goRoster_161 : decode cX12_goRoster 161 = .ok (.imul, 1) := by decide +kernel
theorem dX12_goRoster_162 : decode cX12_goRoster 162 = .ok (.iload 6, 2) := by decide +kernel
theorem dX12_goRoster_164 : decode cX12_goRoster 164 = .ok (.iadd, 1) := by decide +kernel
theorem dX12_goRoster_165 : decode cX12_goRoster 165 = .ok (.invokevirtual 433, 3) := by decide +kernel
theorem dX12_goRoster_168 : decode cX12_goRoster 168 = .ok (.iconst 0, 1) := by decide +kernel
theorem dX12_goRoster_169 : decode cX12_goRoster 169 = .ok (.istore 8, 2) := by decide +kernel
theorem dX12_goRoster_171 : decode cX12_goRoster 171 = .ok (.iload 8, 2) := by decide +kernel
theorem dX12_goRoster_173 : decode cX12_goRoster 173 = .ok (.bipush 30, 2) := by decide +kernel
theorem dX12_goRoster_175 : decode cX12_goRoster 175 = .ok (.if_icmp .gt 29, 3) := by decide +kernel
theorem dX12_goRoster_178 : decode cX12_goRoster 178 = .ok (.aload_n 0, 1) := by decide +kernel
theorem dX12_goRoster_179 : decode cX12_goRoster 179 = .ok (.getfield 64, 3) := by decide +kernel
theorem dX12_goRoster_182 : decode cX12_goRoster 182 = .ok (.iload 8, 2) := by decide +kernel
theorem dX12_goRoster_184 : decode cX12_goRoster 184 = .ok (.aload_n 0, 1) := by decide +kernel
theorem dX12_goRoster_185 : decode cX12_goRoster 185 = .ok (.getfield 81, 3) := by decide +kernel
theorem dX12_goRoster_188 : decode cX12_goRoster 188 = .ok (.bipush 31, 2) := by decide +kernel
theorem dX12_goRoster_190 : decode cX12_goRoster 190 = .ok (.iload 5, 2) := by decide +kernel
theorem dX12_goRoster_192 : decode cX12_goRoster 192 = .ok (.imul, 1) := by decide +kernel
theorem dX12_goRoster_193 : decode cX12_goRoster 193 = .ok (.iload 8, 2) := by decide +kernel
theorem dX12_goRoster_195 : decode cX12_goRoster 195 = .ok (.iadd, 1) := by decide +kernel
theorem dX12_goRoster_196 : decode cX12_goRoster 196 = .ok (.iaload, 1) := by decide +kernel
theorem dX12_goRoster_197 : decode cX12_goRoster 197 = .ok (.iastore, 1) := by decide +kernel
theorem dX12_goRoster_198 : decode cX12_goRoster 198 = .ok (.iinc 8 1, 3) := by decide +kernel
theorem dX12_goRoster_201 : decode cX12_goRoster 201 = .ok (.goto (-30), 3) := by decide +kernel
theorem dX12_goRoster_204 : decode cX12_goRoster 204 = .ok (.iinc 6 1, 3) := by decide +kernel
theorem dX12_goRoster_207 : decode cX12_goRoster 207 = .ok (.goto (-137), 3) := by decide +kernel
theorem dX12_goRoster_210 : decode cX12_goRoster 210 = .ok (.return_, 1) := by decide +kernel
def X12_goRoster_204 (n : Nat) (rf : Int32 → Int32 → Int32 → Int32 → Mm → Option (Unit × Mm)) (K70 : Int32 → Int32 → Int32 → Int32 → Int32 → Int32 → Mm → Option (Unit × Mm)) (x1 : Int32) (x2 : Int32) (x3 : Int32) (x4 : Int32) (x5 : Int32) (x6 : Int32) (h : Mm) : Option (Unit × Mm) := (K70 x1 x2 x3 x4 x5 (x6 + (1)) h)
set_option maxRecDepth 100000 in
set_option maxHeartbeats 4000000 in
theorem v_X12_goRoster_204 {X : WX} {G : GX} {o : Mm} {n : Nat} {rf : Int32 → Int32 → Int32 → Int32 → Mm → Option (Unit × Mm)} {dr : Nat} (hdr : 93 ≤ dr) (hrf : ∀ (x1 : Int32) (x2 : Int32) (x3 : Int32) (x4 : Int32)  (h : Mm) (r : Unit) (h2 : Mm), rf x1 x2 x3 x4 h = some (r, h2) → Sat X yX12_goRoster cX12_goRoster 9 (none) dr [.ref (xa X 251), .int x1, .int x2, .int x3, .int x4] false o h none h2) {DD : Nat} (hDD : dr + 1 ≤ DD) {K70 : Int32 → Int32 → Int32 → Int32 → Int32 → Int32 → Mm → Option (Unit × Mm)} {rv : Unit} {hz : Mm} (hK70 : ∀ (x1 : Int32) (x2 : Int32) (x3 : Int32) (x4 : Int32) (x5 : Int32) (x6 : Int32) (h : Mm), K70 x1 x2 x3 x4 x5 x6 h = some (rv, hz) → V X G RX12 cX12_goRoster 9 (none) DD 0 0 (QR X G false o none hz) false o 70 [(0, .ref (xa X 251)), (1, .int x1), (2, .int x2), (3, .int x3), (4, .int x4), (5, .int x5), (6, .int x6)] [] h) {x1 : Int32} {x2 : Int32} {x3 : Int32} {x4 : Int32} {x5 : Int32} {x6 : Int32} {h : Mm} (hF : X12_goRoster_204 n rf K70 x1 x2 x3 x4 x5 x6 h = some (rv, hz)) : V X G RX12 cX12_goRoster 9 (none) DD 0 0 (QR X G false o none hz) false o 204 [(0, .ref (xa X 251)), (1, .int x1), (2, .int x2), (3, .int x3), (4, .int x4), (5, .int x5), (6, .int x6)] [] h := by
  unfold X12_goRoster_204 at hF
  refine V.iinc (v := (x6 + (1))) 6 [(6, _), (0, _), (1, _), (2, _), (3, _), (4, _), (5, _)] dX12_goRoster_204 rfl rfl (by decide) rfl ?_
  refine V.goto (tgt := 70) dX12_goRoster_207 rfl ?_
  exact V.sub [1, 2, 3, 4, 5, 6, 0] rfl (hK70 _ _ _ _ _ _ _ hF)
def X12_goRoster_171 (n : Nat) (rf : Int32 → Int32 → Int32 → Int32 → Mm → Option (Unit × Mm)) (K70 : Int32 → Int32 → Int32 → Int32 → Int32 → Int32 → Mm → Option (Unit × Mm)) : Nat → Int32 → Int32 → Int32 → Int32 → Int32 → Int32 → Int32 → Mm → Option (Unit × Mm)
  | 0, _, _, _, _, _, _, _, _ => none
  | f + 1, x1, x2, x3, x4, x5, x6, x8, h => (if (30) < x8 then (X12_goRoster_204 n rf K70 x1 x2 x3 x4 x5 x6 h) else (if inB (((31) * x5) + x8) (aln 269) then (if inB x8 (aln 265) then ((X12_goRoster_171 n rf K70 f) x1 x2 x3 x4 x5 x6 (x8 + (1)) (wI h 265 x8.toNatClampNeg (h.1 269 (((31) * x5) + x8).toNatClampNeg))) else none) else none))
set_option maxRecDepth 100000 in
set_option maxHeartbeats 4000000 in
theorem v_X12_goRoster_171 {X : WX} {G : GX} {o : Mm} {n : Nat} {rf : Int32 → Int32 → Int32 → Int32 → Mm → Option (Unit × Mm)} {dr : Nat} (hdr : 93 ≤ dr) (hrf : ∀ (x1 : Int32) (x2 : Int32) (x3 : Int32) (x4 : Int32)  (h : Mm) (r : Unit) (h2 : Mm), rf x1 x2 x3 x4 h = some (r, h2) → Sat X yX12_goRoster cX12_goRoster 9 (none) dr [.ref (xa X 251), .int x1, .int x2, .int x3, .int x4] false o h none h2) {DD : Nat} (hDD : dr + 1 ≤ DD) {K70 : Int32 → Int32 → Int32 → Int32 → Int32 → Int32 → Mm → Option (Unit × Mm)} {rv : Unit} {hz : Mm} (hK70 : ∀ (x1 : Int32) (x2 : Int32) (x3 : Int32) (x4 : Int32) (x5 : Int32) (x6 : Int32) (h : Mm), K70 x1 x2 x3 x4 x5 x6 h = some (rv, hz) → V X G RX12 cX12_goRoster 9 (none) DD 0 0 (QR X G false o none hz) false o 70 [(0, .ref (xa X 251)), (1, .int x1), (2, .int x2), (3, .int x3), (4, .int x4), (5, .int x5), (6, .int x6)] [] h) : ∀ (f : Nat) (x1 : Int32) (x2 : Int32) (x3 : Int32) (x4 : Int32) (x5 : Int32) (x6 : Int32) (x8 : Int32) (h : Mm), X12_goRoster_171 n rf K70 f x1 x2 x3 x4 x5 x6 x8 h = some (rv, hz) → V X G RX12 cX12_goRoster 9 (none) DD 0 0 (QR X G false o none hz) false o 171 [(0, .ref (xa X 251)), (1, .int x1), (2, .int x2), (3, .int x3), (4, .int x4), (5, .int x5), (6, .int x6), (8, .int x8)] [] h := by
  intro f
  induction f with
  | zero => intro x1 x2 x3 x4 x5 x6 x8 h hF; exact nomatch (show (none : Option (Unit × Mm)) = some (rv, hz) from hF)
  | succ f ih =>
    intro x1 x2 x3 x4 x5 x6 x8 h hF
    unfold X12_goRoster_171 at hF
    refine V.iload 7 dX12_goRoster_171 rfl ?_
    refine V.bipush (v := 30) dX12_goRoster_173 (by decide) ?_
    refine V.icmp_gt (tgt := 204) dX12_goRoster_175 rfl (fun c => ?_) (fun c => ?_)
    · replace hF := (if_pos c).symm.trans hF
      exact V.sub [0, 1, 2, 3, 4, 5, 6] rfl (v_X12_goRoster_204 hdr hrf hK70 hF)
    · replace hF := (if_neg c).symm.trans hF
      refine V.aload_n 0 dX12_goRoster_178 rfl rfl ?_
      refine V.getR (v := 265) fl_X12_64 sh_251 rfl fx_251_33 (by decide) dX12_goRoster_179 ?_
      refine V.iload 7 dX12_goRoster_182 rfl ?_
      refine V.aload_n 0 dX12_goRoster_184 rfl rfl ?_
      refine V.getR (v := 269) fl_X12_81 sh_251 rfl fx_251_43 (by decide) dX12_goRoster_185 ?_
      refine V.bipush (v := 31) dX12_goRoster_188 (by decide) ?_
      refine V.iload 5 dX12_goRoster_190 rfl ?_
      refine V.imul dX12_goRoster_192 ?_
      refine V.iload 7 dX12_goRoster_193 rfl ?_
      refine V.iadd dX12_goRoster_195 ?_
      obtain ⟨hk, hF⟩ := ck hF
      refine V.iald io_269 hk dX12_goRoster_196 ?_
      obtain ⟨hk, hF⟩ := ck hF
      refine V.iast io_265 hk dX12_goRoster_197 ?_
      refine V.iinc (v := (x8 + (1))) 7 [(8, _), (0, _), (1, _), (2, _), (3, _), (4, _), (5, _), (6, _)] dX12_goRoster_198 rfl rfl (by decide) rfl ?_
      refine V.goto (tgt := 171) dX12_goRoster_201 rfl ?_
      exact V.sub [1, 2, 3, 4, 5, 6, 7, 0] rfl (ih _ _ _ _ _ _ _ _ hF)
def X12_goRoster_133 (n : Nat) (rf : Int32 → Int32 → Int32 → Int32 → Mm → Option (Unit × Mm)) (K70 : Int32 → Int32 → Int32 → Int32 → Int32 → Int32 → Mm → Option (Unit × Mm)) (x1 : Int32) (x2 : Int32) (x3 : Int32) (x4 : Int32) (x5 : Int32) (x6 : Int32) (h : Mm) : Option (Unit × Mm) := (bd (X12_goNight n 265 h) (fun r73 h75 => (bd (rf x1 (x2 &&& (((1) <<< (x6 &&& 31)) ^^^ (-1))) (x3 + r73) (((10) * x4) + x6) h75) (fun _ h78 => (X12_goRoster_171 n rf K70 n x1 x2 x3 x4 x5 x6 (0) h78)))))
set_option maxRecDepth 100000 in
set_option maxHeartbeats 4000000 in
theorem v_X12_goRoster_133 {X : WX} {G : GX} {o : Mm} {n : Nat} {rf : Int32 → Int32 → Int32 → Int32 → Mm → Option (Unit × Mm)} {dr : Nat} (hdr : 93 ≤ dr) (hrf : ∀ (x1 : Int32) (x2 : Int32) (x3 : Int32) (x4 : Int32)  (h : Mm) (r : Unit) (h2 : Mm), rf x1 x2 x3 x4 h = some (r, h2) → Sat X yX12_goRoster cX12_goRoster 9 (none) dr [.ref (xa X 251), .int x1, .int x2, .int x3, .int x4] false o h none h2) {DD : Nat} (hDD : dr + 1 ≤ DD) {K70 : Int32 → Int32 → Int32 → Int32 → Int32 → Int32 → Mm → Option (Unit × Mm)} {rv : Unit} {hz : Mm} (hK70 : ∀ (x1 : Int32) (x2 : Int32) (x3 : Int32) (x4 : Int32) (x5 : Int32) (x6 : Int32) (h : Mm), K70 x1 x2 x3 x4 x5 x6 h = some (rv, hz) → V X G RX12 cX12_goRoster 9 (none) DD 0 0 (QR X G false o none hz) false o 70 [(0, .ref (xa X 251)), (1, .int x1), (2, .int x2), (3, .int x3), (4, .int x4), (5, .int x5), (6, .int x6)] [] h) {x1 : Int32} {x2 : Int32} {x3 : Int32} {x4 : Int32} {x5 : Int32} {x6 : Int32} {h : Mm} (hF : X12_goRoster_133 n rf K70 x1 x2 x3 x4 x5 x6 h = some (rv, hz)) : V X G RX12 cX12_goRoster 9 (none) DD 0 0 (QR X G false o none hz) false o 133 [(0, .ref (xa X 251)), (1, .int x1), (2, .int x2), (3, .int x3), (4, .int x4), (5, .int x5), (6, .int x6)] [] h := by
  unfold X12_goRoster_133 at hF
  refine V.aload_n 0 dX12_goRoster_133 rfl rfl ?_
  refine V.aload_n 0 dX12_goRoster_134 rfl rfl ?_
  refine V.getR (v := 265) fl_X12_64 sh_251 rfl fx_251_33 (by decide) dX12_goRoster_135 ?_
  obtain ⟨r73, h75, hc74, hF⟩ := bd_s hF
  refine V.callVi mf_X12_goNight ml_X12_377 sh_251 (s_X12_goNight io_265 hc74) (by omega) rfl rfl (Nat.le_of_ble_eq_true rfl) dX12_goRoster_138 ?_
  refine V.istore [(7, _), (0, _), (1, _), (2, _), (3, _), (4, _), (5, _), (6, _)] dX12_goRoster_141 (by decide) rfl ?_
  refine V.aload_n 1 dX12_goRoster_143 rfl rfl ?_
  refine V.iload_n 2 dX12_goRoster_144 rfl rfl ?_
  refine V.iload_n 3 dX12_goRoster_145 rfl rfl ?_
  refine V.iconst (v := 1) dX12_goRoster_146 rfl ?_
  refine V.iload 7 dX12_goRoster_147 rfl ?_
  refine V.ishl dX12_goRoster_149 ?_
  refine V.iconst (v := -1) dX12_goRoster_150 rfl ?_
  refine V.ixor dX12_goRoster_151 ?_
  refine V.iand dX12_goRoster_152 ?_
  refine V.iload_n 4 dX12_goRoster_153 rfl rfl ?_
  refine V.iload 0 dX12_goRoster_154 rfl ?_
  refine V.iadd dX12_goRoster_156 ?_
  refine V.bipush (v := 10) dX12_goRoster_157 (by decide) ?_
  refine V.iload 5 dX12_goRoster_159 rfl ?_
  refine V.imul dX12_goRoster_161 ?_
  refine V.iload 7 dX12_goRoster_162 rfl ?_
  refine V.iadd dX12_goRoster_164 ?_
  obtain ⟨r76, h78, hc77, hF⟩ := bd_s hF
  refine V.callVv mf_X12_goRoster ml_X12_433 sh_251 (hrf _ _ _ _ _ _ _ hc77) (by omega) rfl rfl (Nat.le_of_ble_eq_true rfl) dX12_goRoster_165 ?_
  refine V.iconst (v := 0) dX12_goRoster_168 rfl ?_
  refine V.istore [(8, _), (7, _), (0, _), (1, _), (2, _), (3, _), (4, _), (5, _), (6, _)] dX12_goRoster_169 (by decide) rfl ?_
  exact V.sub [2, 3, 4, 5, 6, 7, 8, 0] rfl (v_X12_goRoster_171 hdr hrf hK70 n _ _ _ _ _ _ _ _ hF)
def X12_goRoster_70 (n : Nat) (rf : Int32 → Int32 → Int32 → Int32 → Mm → Option (Unit × Mm)) : Nat → Int32 → Int32 → Int32 → Int32 → Int32 → Int32 → Mm → Option (Unit × Mm)
  | 0, _, _, _, _, _, _, _ => none
  | f + 1, x1, x2, x3, x4, x5, x6, h => (if (h.1 251 27) ≤ x6 then (some ((), h)) else (bp (X12_has x2 x6 h) (fun r79 => (if r79 = true then (if inB (23) (aln 265) then (bp (X12_pagesOf x1 (wI h 265 (23).toNatClampNeg x6)) (fun r81 => (bp (X12_mayRead 265 x1 r81 false (wI h 265 (23).toNatClampNeg x6)) (fun r83 => (if r83 = true then (bp (X12_pagesOf x1 (wI h 265 (23).toNatClampNeg x6)) (fun r85 => (bd (X12_reads n 265 x1 r85 false (wI h 265 (23).toNatClampNeg x6)) (fun _ h89 => (X12_goRoster_133 n rf (X12_goRoster_70 n rf f) x1 x2 x3 x4 x5 x6 h89))))) else (X12_goRoster_133 n rf (X12_goRoster_70 n rf f) x1 x2 x3 x4 x5 x6 (wI h 265 (23).toNatClampNeg x6))))))) else none) else (X12_goRoster_204 n rf (X12_goRoster_70 n rf f) x1 x2 x3 x4 x5 x6 h)))))
set_option maxRecDepth 100000 in
set_option maxHeartbeats 4000000 in
theorem v_X12_goRoster_70 {X : WX} {G : GX} {o : Mm} {n : Nat} {rf : Int32 → Int32 → Int32 → Int32 → Mm → Option (Unit × Mm)} {dr : Nat} (hdr : 93 ≤ dr) (hrf : ∀ (x1 : Int32) (x2 : Int32) (x3 : Int32) (x4 : Int32)  (h : Mm) (r : Unit) (h2 : Mm), rf x1 x2 x3 x4 h = some (r, h2) → Sat X yX12_goRoster cX12_goRoster 9 (none) dr [.ref (xa X 251), .int x1, .int x2, .int x3, .int x4] false o h none h2) {DD : Nat} (hDD : dr + 1 ≤ DD) {rv : Unit} {hz : Mm} : ∀ (f : Nat) (x1 : Int32) (x2 : Int32) (x3 : Int32) (x4 : Int32) (x5 : Int32) (x6 : Int32) (h : Mm), X12_goRoster_70 n rf f x1 x2 x3 x4 x5 x6 h = some (rv, hz) → V X G RX12 cX12_goRoster 9 (none) DD 0 0 (QR X G false o none hz) false o 70 [(0, .ref (xa X 251)), (1, .int x1), (2, .int x2), (3, .int x3), (4, .int x4), (5, .int x5), (6, .int x6)] [] h := by
  intro f
  induction f with
  | zero => intro x1 x2 x3 x4 x5 x6 h hF; exact nomatch (show (none : Option (Unit × Mm)) = some (rv, hz) from hF)
  | succ f ih =>
    intro x1 x2 x3 x4 x5 x6 h hF
    unfold X12_goRoster_70 at hF
    refine V.iload 6 dX12_goRoster_70 rfl ?_
    refine V.aload_n 0 dX12_goRoster_72 rfl rfl ?_
    refine V.getI fl_X12_291 sh_251 rfl km_251 dX12_goRoster_73 ?_
    refine V.icmp_ge (tgt := 210) dX12_goRoster_76 rfl (fun c => ?_) (fun c => ?_)
    · replace hF := (if_pos c).symm.trans hF
      cases hF
      exact V.vret dX12_goRoster_210
    · replace hF := (if_neg c).symm.trans hF
      refine V.iload_n 2 dX12_goRoster_79 rfl rfl ?_
      refine V.iload 6 dX12_goRoster_80 rfl ?_
      obtain ⟨r79, hc80, hF⟩ := bp_s hF
      refine V.callSi mf_X12_has ml_X12_226 (s_X12_has hc80) (by omega) rfl rfl (Nat.le_of_ble_eq_true rfl) dX12_goRoster_82 ?_
      refine V.ifz_ne (tgt := 91) dX12_goRoster_85 rfl (fun c => ?_) (fun c => ?_)
      · replace hF := (if_pos c).symm.trans hF
        refine V.aload_n 0 dX12_goRoster_91 rfl rfl ?_
        refine V.getR (v := 265) fl_X12_64 sh_251 rfl fx_251_33 (by decide) dX12_goRoster_92 ?_
        refine V.bipush (v := 23) dX12_goRoster_95 (by decide) ?_
        refine V.iload 6 dX12_goRoster_97 rfl ?_
        obtain ⟨hk, hF⟩ := ck hF
        refine V.iast io_265 hk dX12_goRoster_99 ?_
        refine V.aload_n 0 dX12_goRoster_100 rfl rfl ?_
        refine V.aload_n 0 dX12_goRoster_101 rfl rfl ?_
        refine V.getR (v := 265) fl_X12_64 sh_251 rfl fx_251_33 (by decide) dX12_goRoster_102 ?_
        refine V.iload_n 1 dX12_goRoster_105 rfl rfl ?_
        refine V.aload_n 0 dX12_goRoster_106 rfl rfl ?_
        refine V.iload_n 1 dX12_goRoster_107 rfl rfl ?_
        obtain ⟨r81, hc82, hF⟩ := bp_s hF
        refine V.callVi mf_X12_pagesOf ml_X12_322 sh_251 (s_X12_pagesOf hc82) (by omega) rfl rfl (Nat.le_of_ble_eq_true rfl) dX12_goRoster_108 ?_
        refine V.iconst (v := 0) dX12_goRoster_111 rfl ?_
        obtain ⟨r83, hc84, hF⟩ := bp_s hF
        refine V.callVi mf_X12_mayRead ml_X12_359 sh_251 (s_X12_mayRead io_265 hc84) (by omega) rfl rfl (Nat.le_of_ble_eq_true rfl) dX12_goRoster_112 ?_
        refine V.ifz_eq (tgt := 133) dX12_goRoster_115 rfl (fun c => ?_) (fun c => ?_)
        · replace hF := (if_neg c).symm.trans hF
          exact (v_X12_goRoster_133 hdr hrf ih hF)
        · replace hF := (if_pos c).symm.trans hF
          refine V.aload_n 0 dX12_goRoster_118 rfl rfl ?_
          refine V.aload_n 0 dX12_goRoster_119 rfl rfl ?_
          refine V.getR (v := 265) fl_X12_64 sh_251 rfl fx_251_33 (by decide) dX12_goRoster_120 ?_
          refine V.iload_n 1 dX12_goRoster_123 rfl rfl ?_
          refine V.aload_n 0 dX12_goRoster_124 rfl rfl ?_
          refine V.iload_n 1 dX12_goRoster_125 rfl rfl ?_
          obtain ⟨r85, hc86, hF⟩ := bp_s hF
          refine V.callVi mf_X12_pagesOf ml_X12_322 sh_251 (s_X12_pagesOf hc86) (by omega) rfl rfl (Nat.le_of_ble_eq_true rfl) dX12_goRoster_126 ?_
          refine V.iconst (v := 0) dX12_goRoster_129 rfl ?_
          obtain ⟨r87, h89, hc88, hF⟩ := bd_s hF
          refine V.callVv mf_X12_reads ml_X12_365 sh_251 (s_X12_reads io_265 hc88) (by omega) rfl rfl (Nat.le_of_ble_eq_true rfl) dX12_goRoster_130 ?_
          exact (v_X12_goRoster_133 hdr hrf ih hF)
      · replace hF := (if_neg c).symm.trans hF
        refine V.goto (tgt := 204) dX12_goRoster_88 rfl ?_
        exact (v_X12_goRoster_204 hdr hrf ih hF)
def X12_goRoster_34 (n : Nat) (rf : Int32 → Int32 → Int32 → Int32 → Mm → Option (Unit × Mm)) : Nat → Int32 → Int32 → Int32 → Int32 → Int32 → Int32 → Mm → Option (Unit × Mm)
  | 0, _, _, _, _, _, _, _ => none
  | f + 1, x1, x2, x3, x4, x5, x6, h => (if (30) < x6 then (X12_goRoster_70 n rf n x1 x2 x3 x4 x5 (0) h) else (if inB x6 (aln 265) then (if inB (((31) * x5) + x6) (aln 269) then ((X12_goRoster_34 n rf f) x1 x2 x3 x4 x5 (x6 + (1)) (wI h 269 (((31) * x5) + x6).toNatClampNeg (h.1 265 x6.toNatClampNeg))) else none) else none))
set_option maxRecDepth 100000 in
set_option maxHeartbeats 4000000 in
theorem v_X12_goRoster_34 {X : WX} {G : GX} {o : Mm} {n : Nat} {rf : Int32 → Int32 → Int32 → Int32 → Mm → Option (Unit × Mm)} {dr : Nat} (hdr : 93 ≤ dr) (hrf : ∀ (x1 : Int32) (x2 : Int32) (x3 : Int32) (x4 : Int32)  (h : Mm) (r : Unit) (h2 : Mm), rf x1 x2 x3 x4 h = some (r, h2) → Sat X yX12_goRoster cX12_goRoster 9 (none) dr [.ref (xa X 251), .int x1, .int x2, .int x3, .int x4] false o h none h2) {DD : Nat} (hDD : dr + 1 ≤ DD) {rv : Unit} {hz : Mm} : ∀ (f : Nat) (x1 : Int32) (x2 : Int32) (x3 : Int32) (x4 : Int32) (x5 : Int32) (x6 : Int32) (h : Mm), X12_goRoster_34 n rf f x1 x2 x3 x4 x5 x6 h = some (rv, hz) → V X G RX12 cX12_goRoster 9 (none) DD 0 0 (QR X G false o none hz) false o 34 [(0, .ref (xa X 251)), (1, .int x1), (2, .int x2), (3, .int x3), (4, .int x4), (5, .int x5), (6, .int x6)] [] h := by
  intro f
  induction f with
  | zero => intro x1 x2 x3 x4 x5 x6 h hF; exact nomatch (show (none : Option (Unit × Mm)) = some (rv, hz) from hF)
  | succ f ih =>
    intro x1 x2 x3 x4 x5 x6 h hF
    unfold X12_goRoster_34 at hF
    refine V.iload 6 dX12_goRoster_34 rfl ?_
    refine V.bipush (v := 30) dX12_goRoster_36 (by decide) ?_
    refine V.icmp_gt (tgt := 67) dX12_goRoster_38 rfl (fun c => ?_) (fun c => ?_)
    · replace hF := (if_pos c).symm.trans hF
      refine V.iconst (v := 0) dX12_goRoster_67 rfl ?_
      refine V.istore [(6, _), (0, _), (1, _), (2, _), (3, _), (4, _), (5, _)] dX12_goRoster_68 (by decide) rfl ?_
      exact V.sub [1, 2, 3, 4, 5, 6, 0] rfl (v_X12_goRoster_70 hdr hrf n _ _ _ _ _ _ _ hF)
    · replace hF := (if_neg c).symm.trans hF
      refine V.aload_n 0 dX12_goRoster_41 rfl rfl ?_
      refine V.getR (v := 269) fl_X12_81 sh_251 rfl fx_251_43 (by decide) dX12_goRoster_42 ?_
      refine V.bipush (v := 31) dX12_goRoster_45 (by decide) ?_
      refine V.iload 5 dX12_goRoster_47 rfl ?_
      refine V.imul dX12_goRoster_49 ?_
      refine V.iload 6 dX12_goRoster_50 rfl ?_
      refine V.iadd dX12_goRoster_52 ?_
      refine V.aload_n 0 dX12_goRoster_53 rfl rfl ?_
      refine V.getR (v := 265) fl_X12_64 sh_251 rfl fx_251_33 (by decide) dX12_goRoster_54 ?_
      refine V.iload 6 dX12_goRoster_57 rfl ?_
      obtain ⟨hk, hF⟩ := ck hF
      refine V.iald io_265 hk dX12_goRoster_59 ?_
      obtain ⟨hk, hF⟩ := ck hF
      refine V.iast io_269 hk dX12_goRoster_60 ?_
      refine V.iinc (v := (x6 + (1))) 6 [(6, _), (0, _), (1, _), (2, _), (3, _), (4, _), (5, _)] dX12_goRoster_61 rfl rfl (by decide) rfl ?_
      refine V.goto (tgt := 34) dX12_goRoster_64 rfl ?_
      exact V.sub [1, 2, 3, 4, 5, 6, 0] rfl (ih _ _ _ _ _ _ _ hF)
def X12_goRoster_b (n : Nat) (rf : Int32 → Int32 → Int32 → Int32 → Mm → Option (Unit × Mm)) (x1 : Int32) (x2 : Int32) (x3 : Int32) (x4 : Int32) (h : Mm) : Option (Unit × Mm) := (if x2 = 0 then (if (h.1 251 45) < x3 then (some ((), (wI (wI h 251 45 x3) 251 44 x4))) else (some ((), h))) else (bp (J6_bitCount_0f7a4 x2 h) (fun r90 => (X12_goRoster_34 n rf n x1 x2 x3 x4 r90 (0) h))))
set_option maxRecDepth 100000 in
set_option maxHeartbeats 4000000 in
theorem s_X12_goRoster_b {X : WX} {o : Mm} {n : Nat} {rf : Int32 → Int32 → Int32 → Int32 → Mm → Option (Unit × Mm)} {dr : Nat} (hdr : 93 ≤ dr) (hrf : ∀ (x1 : Int32) (x2 : Int32) (x3 : Int32) (x4 : Int32)  (h : Mm) (r : Unit) (h2 : Mm), rf x1 x2 x3 x4 h = some (r, h2) → Sat X yX12_goRoster cX12_goRoster 9 (none) dr [.ref (xa X 251), .int x1, .int x2, .int x3, .int x4] false o h none h2) {DD : Nat} (hDD : dr + 1 ≤ DD) {x1 : Int32} {x2 : Int32} {x3 : Int32} {x4 : Int32} {rv : Unit} {hz : Mm} {h : Mm} (hF : X12_goRoster_b n rf x1 x2 x3 x4 h = some (rv, hz)) : Sat X yX12_goRoster cX12_goRoster 9 (none) DD [.ref (xa X 251), .int x1, .int x2, .int x3, .int x4] false o h none hz := by
  unfold X12_goRoster_b at hF
  refine Sat.mk (own := RX12) rfl (by decide +kernel) (Nat.le_of_ble_eq_true rfl) (fun G => ?_)
  refine V.sub (lv2 := [(0, _), (1, _), (2, _), (3, _), (4, _)]) [0, 1, 2, 3, 4] rfl ?_
  refine V.iload_n 2 dX12_goRoster_0 rfl rfl ?_
  refine V.if_ne (tgt := 25) dX12_goRoster_1 rfl (fun c => ?_) (fun c => ?_)
  · replace hF := (if_neg c).symm.trans hF
    refine V.iload_n 2 dX12_goRoster_25 rfl rfl ?_
    obtain ⟨r90, hc91, hF⟩ := bp_s hF
    refine V.callSi mf_J6_bitCount_0f7a4 ml_X12_428 (s_J6_bitCount_0f7a4 hc91) (by omega) rfl rfl (Nat.le_of_ble_eq_true rfl) dX12_goRoster_26 ?_
    refine V.istore [(5, _), (0, _), (1, _), (2, _), (3, _), (4, _)] dX12_goRoster_29 (by decide) rfl ?_
    refine V.iconst (v := 0) dX12_goRoster_31 rfl ?_
    refine V.istore [(6, _), (5, _), (0, _), (1, _), (2, _), (3, _), (4, _)] dX12_goRoster_32 (by decide) rfl ?_
    exact V.sub [2, 3, 4, 5, 6, 1, 0] rfl (v_X12_goRoster_34 hdr hrf n _ _ _ _ _ _ _ hF)
  · replace hF := (if_pos c).symm.trans hF
    refine V.iload_n 3 dX12_goRoster_4 rfl rfl ?_
    refine V.aload_n 0 dX12_goRoster_5 rfl rfl ?_
    refine V.getI fl_X12_422 sh_251 rfl km_251 dX12_goRoster_6 ?_
    refine V.icmp_gt (tgt := 13) dX12_goRoster_9 rfl (fun c => ?_) (fun c => ?_)
    · replace hF := (if_pos c).symm.trans hF
      refine V.aload_n 0 dX12_goRoster_13 rfl rfl ?_
      refine V.iload_n 3 dX12_goRoster_14 rfl rfl ?_
      refine V.putI fl_X12_422 rfl (tyX12_ok 45 (by decide)) rfl rfl sh_251 rfl km_251 dX12_goRoster_15 ?_
      refine V.aload_n 0 dX12_goRoster_18 rfl rfl ?_
      refine V.iload 4 dX12_goRoster_19 rfl ?_
      refine V.putI fl_X12_425 rfl (tyX12_ok 44 (by decide)) rfl rfl sh_251 rfl km_251 dX12_goRoster_21 ?_
      cases hF
      exact V.vret dX12_goRoster_24
    · replace hF := (if_neg c).symm.trans hF
      cases hF
      exact V.vret dX12_goRoster_12
def X12_goRoster (n : Nat) : Nat → Int32 → Int32 → Int32 → Int32 → Mm → Option (Unit × Mm)
  | 0, _, _, _, _, _ => none
  | e + 1, x1, x2, x3, x4, h => X12_goRoster_b n (X12_goRoster n e) x1 x2 x3 x4 h
set_option maxRecDepth 100000 in
set_option maxHeartbeats 4000000 in
theorem s_X12_goRoster {X : WX} {o : Mm} {n : Nat} : ∀ (e : Nat) (x1 : Int32) (x2 : Int32) (x3 : Int32) (x4 : Int32) (h : Mm) (rv : Unit) (hz : Mm), X12_goRoster n e x1 x2 x3 x4 h = some (rv, hz) → Sat X yX12_goRoster cX12_goRoster 9 (none) (93 + 2 * e) [.ref (xa X 251), .int x1, .int x2, .int x3, .int x4] false o h none hz := by
  intro e
  induction e with
  | zero => intro x1 x2 x3 x4 h rv hz hF; exact nomatch (show (none : Option (Unit × Mm)) = some (rv, hz) from hF)
  | succ e ih => intro x1 x2 x3 x4 h rv hz hF; exact s_X12_goRoster_b (dr := 93 + 2 * e) (by omega) ih (by omega)  hF
/-! MonsterCotModel.roster -/
theorem dX12_roster_0 : decode cX12_roster 0 = .ok (.aload_n 0, 1) := by decide +kernel
theorem dX12_roster_1 : decode cX12_roster 1 = .ok (.iconst 0, 1) := by decide +kernel
theorem dX12_roster_2 : decode cX12_roster 2 = .ok (.putfield 93, 3) := by decide +kernel
theorem dX12_roster_5 : decode cX12_roster 5 = .ok (.aload_n 0, 1) := by decide +kernel
theorem dX12_roster_6 : decode cX12_roster 6 = .ok (.iload_n 1, 1) := by decide +kernel
theorem dX12_roster_7 : decode cX12_roster 7 = .ok (.invokevirtual 319, 3) := by decide +kernel
theorem dX12_roster_10 : decode cX12_roster 10 = .ok (.ifCond .eq 13, 3) := by decide +kernel
theorem dX12_roster_13 : decode cX12_roster 13 = .ok (.iload_n 2, 1) := by decide +kernel
theorem dX12_roster_14 : decode cX12_roster 14 = .ok (.i2l, 1) := by decide +kernel
theorem dX12_roster_15 : decode cX12_roster 15 = .ok (.lconst 0, 1) := by decide +kernel
theorem dX12_roster_16 : decode cX12_roster 16 = .ok (.lconst 1, 1) := by decide +kernel
theorem dX12_roster_17 : decode cX12_roster 17 = .ok (.invokestatic 214, 3) := by decide +kernel
theorem dX12_roster_20 : decode cX12_roster 20 = .ok (.ifCond .ne 5, 3) := by decide +kernel
theorem dX12_roster_23 : decode cX12_roster 23 = .ok (.iconst (-1), 1) := by decide +kernel
theorem dX12_roster_24 : decode cX12_roster 24 = .ok (.ireturn, 1) := by decide +kernel
theorem dX12_roster_25 : decode cX12_roster 25 = .ok (.aload_n 0, 1) := by decide +kernel
theorem dX12_roster_26 : decode cX12_roster 26 = .ok (.getfield 61, 3) := by decide +kernel
theorem dX12_roster_29 : decode cX12_roster 29 = .ok (.aload_n 0, 1) := by decide +kernel
theorem dX12_roster_30 : decode cX12_roster 30 = .ok (.getfield 64, 3) := by decide +kernel
theorem dX12_roster_33 : decode cX12_roster 33 = .ok (.invokestatic 401, 3) := by decide +kernel
theorem dX12_roster_36 : decode cX12_roster 36 = .ok (.aload_n 0, 1) := by decide +kernel
theorem dX12_roster_37 : decode cX12_roster 37 = .ok (.iconst (-1), 1) := by decide +kernel
theorem dX12_roster_38 : decode cX12_roster 38 = .ok (.putfield 425, 3) := by decide +kernel
theorem dX12_roster_41 : decode cX12_roster 41 = .ok (.aload_n 0, 1) := by decide +kernel
theorem dX12_roster_42 : decode cX12_roster 42 = .ok (.iconst (-1), 1) := by decide +kernel
theorem dX12_roster_43 : decode cX12_roster 43 = .ok (.putfield 422, 3) := by decide +kernel
theorem dX12_roster_46 : decode cX12_roster 46 = .ok (.aload_n 0, 1) := by decide +kernel
theorem dX12_roster_47 : decode cX12_roster 47 = .ok (.iload_n 1, 1) := by decide +kernel
theorem dX12_roster_48 : decode cX12_roster 48 = .ok (.iconst 1, 1) := by decide +kernel
theorem dX12_roster_49 : decode cX12_roster 49 = .ok (.aload_n 0, 1) := by decide +kernel
theorem dX12_roster_50 : decode cX12_roster 50 = .ok (.getfield 291, 3) := by decide +kernel
theorem dX12_roster_53 : decode cX12_roster 53 = .ok (.ishl, 1) := by decide +kernel
theorem dX12_roster_54 : decode cX12_roster 54 = .ok (.iconst 1, 1) := by decide +kernel
theorem dX12_roster_55 : decode cX12_roster 55 = .ok (.isub, 1) := by decide +kernel
theorem dX12_roster_56 : decode cX12_roster 56 = .ok (.iconst 0, 1) := by decide +kernel
theorem dX12_roster_57 : decode cX12_roster 57 = .ok (.iconst 0, 1) := by decide +kernel
theorem dX12_roster_58 : decode cX12_roster 58 = .ok (.invokevirtual 433, 3) := by decide +kernel
theorem dX12_roster_61 : decode cX12_roster 61 = .ok (.iload_n 2, 1) := by decide +kernel
theorem dX12_roster_62 : decode cX12_roster 62 = .ok (.ifCond .ne 10, 3) := by decide +kernel
theorem dX12_roster_65 : decode cX12_roster 65 = .ok (.aload_n 0, 1) := by decide +kernel
theorem dX12_roster_66 : decode cX12_roster 66 = .ok (.getfield 425, 3) := by decide +kernel
theorem dX12_roster_69 : decode cX12_roster 69 = .ok (.goto 7, 3) := by decide +kernel
theorem dX12_roster_72 : decode cX12_roster 72 = .ok (.aload_n 0, 1) := by decide +kernel
theorem dX12_roster_73 : decode cX12_roster 73 = .ok (.getfield 422, 3) := by decide +kernel
theorem dX12_roster_76 : decode cX12_roster 76 = .ok (.ireturn, 1) := by decide +kernel
def X12_roster (n : Nat) (x1 : Int32) (x2 : Int32) (h : Mm) : Option (Int32 × Mm) := (bp (X12_isBook x1 (wI h 251 0 (0))) (fun r11 => (if r11 = true then (bp (X12_isIn x2.toInt64 (0 : Int64) (1 : Int64) (wI h 251 0 (0))) (fun r13 => (if r13 = true then (bd (X12_copy n 264 265 (wI h 251 0 (0))) (fun _ h17 => (bd (X12_goRoster n 9 x1 (((1) <<< (((wI (wI h17 251 44 (-1)) 251 45 (-1)).1 251 27) &&& 31)) - (1)) (0) (0) (wI (wI h17 251 44 (-1)) 251 45 (-1))) (fun _ h20 => (if x2 = 0 then (some ((h20.1 251 44), h20)) else (some ((h20.1 251 45), h20))))))) else (some ((-1), (wI h 251 0 (0))))))) else (some ((-1), (wI h 251 0 (0)))))))
set_option maxRecDepth 100000 in
set_option maxHeartbeats 4000000 in
theorem s_X12_roster {X : WX} {o : Mm} {n : Nat} {x1 : Int32} {x2 : Int32} {rv : Int32} {hz : Mm} {h : Mm} (hF : X12_roster n x1 x2 h = some (rv, hz)) : Sat X yX12_roster cX12_roster 3 (some .int) 112 [.ref (xa X 251), .int x1, .int x2] false o h (some (.int rv)) hz := by
  unfold X12_roster at hF
  refine Sat.mk (own := RX12) rfl (by decide +kernel) (Nat.le_of_ble_eq_true rfl) (fun G => ?_)
  refine V.sub (lv2 := [(0, _), (1, _), (2, _)]) [0, 1, 2] rfl ?_
  refine V.aload_n 0 dX12_roster_0 rfl rfl ?_
  refine V.iconst (v := 0) dX12_roster_1 rfl ?_
  refine V.putI fl_X12_93 rfl (tyX12_ok 0 (by decide)) rfl rfl sh_251 rfl km_251 dX12_roster_2 ?_
  refine V.aload_n 0 dX12_roster_5 rfl rfl ?_
  refine V.iload_n 1 dX12_roster_6 rfl rfl ?_
  obtain ⟨r11, hc12, hF⟩ := bp_s hF
  refine V.callVi mf_X12_isBook ml_X12_319 sh_251 (s_X12_isBook hc12) (by decide) rfl rfl (Nat.le_of_ble_eq_true rfl) dX12_roster_7 ?_
  refine V.ifz_eq (tgt := 23) dX12_roster_10 rfl (fun c => ?_) (fun c => ?_)
  · replace hF := (if_neg c).symm.trans hF
    refine V.iconst (v := -1) dX12_roster_23 rfl ?_
    cases hF
    exact V.iret dX12_roster_24
  · replace hF := (if_pos c).symm.trans hF
    refine V.iload_n 2 dX12_roster_13 rfl rfl ?_
    refine V.i2l dX12_roster_14 ?_
    refine V.lconst (v := 0) dX12_roster_15 rfl ?_
    refine V.lconst (v := 1) dX12_roster_16 rfl ?_
    obtain ⟨r13, hc14, hF⟩ := bp_s hF
    refine V.callSi mf_X12_isIn ml_X12_214 (s_X12_isIn hc14) (by decide) rfl rfl (Nat.le_of_ble_eq_true rfl) dX12_roster_17 ?_
    refine V.ifz_ne (tgt := 25) dX12_roster_20 rfl (fun c => ?_) (fun c => ?_)
    · replace hF := (if_pos c).symm.trans hF
      refine V.aload_n 0 dX12_roster_25 rfl rfl ?_
      refine V.getR (v := 264) fl_X12_61 sh_251 rfl fx_251_32 (by decide) dX12_roster_26 ?_
      refine V.aload_n 0 dX12_roster_29 rfl rfl ?_
      refine V.getR (v := 265) fl_X12_64 sh_251 rfl fx_251_33 (by decide) dX12_roster_30 ?_
      obtain ⟨r15, h17, hc16, hF⟩ := bd_s hF
      refine V.callSv mf_X12_copy ml_X12_401 (s_X12_copy io_264 io_265 hc16) (by decide) rfl rfl (Nat.le_of_ble_eq_true rfl) dX12_roster_33 ?_
      refine V.aload_n 0 dX12_roster_36 rfl rfl ?_
      refine V.iconst (v := -1) dX12_roster_37 rfl ?_
      refine V.putI fl_X12_425 rfl (tyX12_ok 44 (by decide)) rfl rfl sh_251 rfl km_251 dX12_roster_38 ?_
      refine V.aload_n 0 dX12_roster_41 rfl rfl ?_
      refine V.iconst (v := -1) dX12_roster_42 rfl ?_
      refine V.putI fl_X12_422 rfl (tyX12_ok 45 (by decide)) rfl rfl sh_251 rfl km_251 dX12_roster_43 ?_
      refine V.aload_n 0 dX12_roster_46 rfl rfl ?_
      refine V.iload_n 1 dX12_roster_47 rfl rfl ?_
      refine V.iconst (v := 1) dX12_roster_48 rfl ?_
      refine V.aload_n 0 dX12_roster_49 rfl rfl ?_
      refine V.getI fl_X12_291 sh_251 rfl km_251 dX12_roster_50 ?_
      refine V.ishl dX12_roster_53 ?_
      refine V.iconst (v := 1) dX12_roster_54 rfl ?_
      refine V.isub dX12_roster_55 ?_
      refine V.iconst (v := 0) dX12_roster_56 rfl ?_
      refine V.iconst (v := 0) dX12_roster_57 rfl ?_
      obtain ⟨r18, h20, hc19, hF⟩ := bd_s hF
      refine V.callVv mf_X12_goRoster ml_X12_433 sh_251 (s_X12_goRoster 9 _ _ _ _ _ _ _ hc19) (by decide) rfl rfl (Nat.le_of_ble_eq_true rfl) dX12_roster_58 ?_
      refine V.iload_n 2 dX12_roster_61 rfl rfl ?_
      refine V.if_ne (tgt := 72) dX12_roster_62 rfl (fun c => ?_) (fun c => ?_)
      · replace hF := (if_neg c).symm.trans hF
        refine V.aload_n 0 dX12_roster_72 rfl rfl ?_
        refine V.getI fl_X12_422 sh_251 rfl km_251 dX12_roster_73 ?_
        cases hF
        exact V.iret dX12_roster_76
      · replace hF := (if_pos c).symm.trans hF
        refine V.aload_n 0 dX12_roster_65 rfl rfl ?_
        refine V.getI fl_X12_425 sh_251 rfl km_251 dX12_roster_66 ?_
        refine V.goto (tgt := 76) dX12_roster_69 rfl ?_
        cases hF
        exact V.iret dX12_roster_76
    · replace hF := (if_neg c).symm.trans hF
      refine V.iconst (v := -1) dX12_roster_23 rfl ?_
      cases hF
      exact V.iret dX12_roster_24
/-! MonsterCotModel.seen -/
theorem dX12_seen_0 : decode cX12_seen 0 = .ok (.aload_n 0, 1) := by decide +kernel
theorem dX12_seen_1 : decode cX12_seen 1 = .ok (.iconst 0, 1) := by decide +kernel
theorem dX12_seen_2 : decode cX12_seen 2 = .ok (.putfield 93, 3) := by decide +kernel
theorem dX12_seen_5 : decode cX12_seen 5 = .ok (.aload_n 0, 1) := by decide +kernel
theorem dX12_seen_6 : decode cX12_seen 6 = .ok (.iload_n 1, 1) := by decide +kernel
theorem dX12_seen_7 : decode cX12_seen 7 = .ok (.invokevirtual 319, 3) := by decide +kernel
theorem dX12_seen_10 : decode cX12_seen 10 = .ok (.ifCond .eq 48, 3) := by decide +kernel
theorem dX12_seen_13 : decode cX12_seen 13 = .ok (.aload_n 0, 1) := by decide +kernel
theorem dX12_seen_14 : decode cX12_seen 14 = .ok (.iload_n 3, 1) := by decide +kernel
theorem dX12_seen_15 : decode cX12_seen 15 = .ok (.invokevirtual 337, 3) := by decide +kernel
theorem dX12_seen_18 : decode cX12_seen 18 = .ok (.ifCond .eq 40, 3) := by decide +kernel
theorem dX12_seen_21 : decode cX12_seen 21 = .ok (.iload_n 2, 1) := by decide +kernel
theorem dX12_seen_22 : decode cX12_seen 22 = .ok (.i2l, 1) := by decide +kernel
theorem dX12_seen_23 : decode cX12_seen 23 = .ok (.lconst 1, 1) := by decide +kernel
theorem dX12_seen_24 : decode cX12_seen 24 = .ok (.aload_n 0, 1) := by decide +kernel
theorem dX12_seen_25 : decode cX12_seen 25 = .ok (.iload_n 1, 1) := by decide +kernel
theorem dX12_seen_26 : decode cX12_seen 26 = .ok (.invokevirtual 322, 3) := by decide +kernel
theorem dX12_seen_29 : decode cX12_seen 29 = .ok (.i2l, 1) := by decide +kernel
theorem dX12_seen_30 : decode cX12_seen 30 = .ok (.invokestatic 214, 3) := by decide +kernel
theorem dX12_seen_33 : decode cX12_seen 33 = .ok (.ifCond .eq 25, 3) := by decide +kernel
theorem dX12_seen_36 : decode cX12_seen 36 = .ok (.iload 4, 2) := by decide +kernel
theorem dX12_seen_38 : decode cX12_seen 38 = .ok (.i2l, 1) := by decide +kernel
theorem dX12_seen_39 : decode cX12_seen 39 = .ok (.lconst 0, 1) := by decide +kernel
theorem dX12_seen_40 : decode cX12_seen 40 = .ok (.ldc2_w 437, 3) := by decide +kernel
theorem dX12_seen_43 : decode cX12_seen 43 = .ok (.invokestatic 214, 3) := by decide +kernel
theorem dX12_seen_46 : decode cX12_seen 46 = .ok (.ifCond .eq 12, 3) := by decide +kernel
theorem dX12_seen_49 : decode cX12_seen 49 = .ok (.aload_n 0, 1) := by decide +kernel
theorem dX12_seen_50 : decode cX12_seen 50 = .ok (.getfield 294, 3) := by decide +kernel
theorem dX12_seen_53 : decode cX12_seen 53 = .ok (.bipush 10, 2) := by decide +kernel
theorem dX12_seen_55 : decode cX12_seen 55 = .ok (.if_icmp .ne 5, 3) := by decide +kernel
theorem dX12_seen_58 : decode cX12_seen 58 = .ok (.iconst (-1), 1) := by decide +kernel
theorem dX12_seen_59 : decode cX12_seen 59 = .ok (.ireturn, 1) := by decide +kernel
theorem dX12_seen_60 : decode cX12_seen 60 = .ok (.iconst 5, 1) := by decide +kernel
theorem dX12_seen_61 : decode cX12_seen 61 = .ok (.aload_n 0, 1) := by decide +kernel
theorem dX12_seen_62 : decode cX12_seen 62 = .ok (.getfield 294, 3) := by decide +kernel
theorem dX12_seen_65 : decode cX12_seen 65 = .ok (.imul, 1) := by decide +kernel
theorem dX12_seen_66 : decode cX12_seen 66 = .ok (.istore 6, 2) := by decide +kernel
theorem dX12_seen_68 : decode cX12_seen 68 = .ok (.aload_n 0, 1) := by decide +kernel
theorem dX12_seen_69 : decode cX12_seen 69 = .ok (.getfield 84, 3) := by decide +kernel
theorem dX12_seen_72 : decode cX12_seen 72 = .ok (.iload 6, 2) := by decide +kernel
theorem dX12_seen_74 : decode cX12_seen 74 = .ok (.iload_n 1, 1) := by decide +kernel
theorem dX12_seen_75 : decode cX12_seen 75 = .ok (.iastore, 1) := by decide +kernel
theorem dX12_seen_76 : decode cX12_seen 76 = .ok (.aload_n 0, 1) := by decide +kernel
theorem dX12_seen_77 : decode cX12_seen 77 = .ok (.getfield 84, 3) := by decide +kernel
theorem dX12_seen_80 : decode cX12_seen 80 = .ok (.iload 6, 2) := by decide +kernel
theorem dX12_seen_82 : decode cX12_seen 82 = .ok (.iconst 1, 1) := by decide +kernel
theorem dX12_seen_83 : decode cX12_seen 83 = .ok (.iadd, 1) := by decide +kernel
theorem dX12_seen_84 : decode cX12_seen 84 = .ok (.iload_n 2, 1) := by decide +kernel
theorem dX12_seen_85 : decode cX12_seen 85 = .ok (.iastore, 1) := by decide +kernel
theorem dX12_seen_86 : decode cX12_seen 86 = .ok (.aload_n 0, 1) := by decide +kernel
theorem dX12_seen_87 : decode cX12_seen 87 = .ok (.getfield 84, 3) := by decide +kernel
theorem dX12_seen_90 : decode cX12_seen 90 = .ok (.iload 6, 2) := by decide +kernel
theorem dX12_seen_92 : decode cX12_seen 92 = .ok (.iconst 2, 1) := by decide +kernel
theorem dX12_seen_93 : decode cX12_seen 93 = .ok (.iadd, 1) := by decide +kernel
theorem dX12_seen_94 : decode cX12_seen 94 = .ok (.iload_n 3, 1) := by decide +kernel
theorem dX12_seen_95 : decode cX12_seen 95 = .ok (.iastore, 1) := by decide +kernel
theorem dX12_seen_96 : decode cX12_seen 96 = .ok (.aload_n 0, 1) := by decide +kernel
theorem dX12_seen_97 : decode cX12_seen 97 = .ok (.getfield 84, 3) := by decide +kernel
theorem dX12_seen_100 : decode cX12_seen 100 = .ok (.iload 6, 2) := by decide +kernel
theorem dX12_seen_102 : decode cX12_seen 102 = .ok (.iconst 3, 1) := by decide +kernel
theorem dX12_seen_103 : decode cX12_seen 103 = .ok (.iadd, 1) := by decide +kernel
theorem dX12_seen_104 : decode cX12_seen 104 = .ok (.iload 4, 2) := by decide +kernel
theorem dX12_seen_106 : decode cX12_seen 106 = .ok (.iastore, 1) := by decide +kernel
theorem dX12_seen_107 : decode cX12_seen 107 = .ok (.aload_n 0, 1) := by decide +kernel
theorem dX12_seen_108 : decode cX12_seen 108 = .ok (.getfield 84, 3) := by decide +kernel
theorem dX12_seen_111 : decode cX12_seen 111 = .ok (.iload 6, 2) := by decide +kernel
theorem dX12_seen_113 : decode cX12_seen 113 = .ok (.iconst 4, 1) := by decide +kernel
theorem dX12_seen_114 : decode cX12_seen 114 = .ok (.iadd, 1) := by decide +kernel
theorem dX12_seen_115 : decode cX12_seen 115 = .ok (.iload 5, 2) := by decide +kernel
theorem dX12_seen_117 : decode cX12_seen 117 = .ok (.ifCond .eq 7, 3) := by decide +kernel
theorem dX12_seen_120 : decode cX12_seen 120 = .ok (.iconst 1, 1) := by decide +kernel
theorem dX12_seen_121 : decode cX12_seen 121 = .ok (.goto 4, 3) := by decide +kernel
theorem dX12_seen_124 : decode cX12_seen 124 = .ok (.iconst 0, 1) := by decide +kernel
theorem dX12_seen_125 : decode cX12_seen 125 = .ok (.iastore, 1) := by decide +kernel
theorem dX12_seen_126 : decode cX12_seen 126 = .ok (.aload_n 0, 1) := by decide +kernel
theorem dX12_seen_127 : decode cX12_seen 127 = .ok (.dup, 1) := by decide +kernel
theorem dX12_seen_128 : decode cX12_seen 128 = .ok (.getfield 294, 3) := by decide +kernel
theorem dX12_seen_131 : decode cX12_seen 131 = .ok (.iconst 1, 1) := by decide +kernel
theorem dX12_seen_132 : decode cX12_seen 132 = .ok (.iadd, 1) := by decide +kernel
theorem dX12_seen_133 : decode cX12_seen 133 = .ok (.putfield 294, 3) := by decide +kernel
theorem dX12_seen_136 : decode cX12_seen 136 = .ok (.aload_n 0, 1) := by decide +kernel
theorem dX12_seen_137 : decode cX12_seen 137 = .ok (.getfield 294, 3) := by decide +kernel
theorem dX12_seen_140 : decode cX12_seen 140 = .ok (.ireturn, 1) := by decide +kernel
def X12_seen_125 (s1 : Int32) (s2 : Bool) (h : Mm) : Option (Int32 × Mm) := (if inB s1 (aln 270) then (some (((wI (wI h 270 s1.toNatClampNeg (b2i s2)) 251 47 (((wI h 270 s1.toNatClampNeg (b2i s2)).1 251 47) + (1))).1 251 47), (wI (wI h 270 s1.toNatClampNeg (b2i s2)) 251 47 (((wI h 270 s1.toNatClampNeg (b2i s2)).1 251 47) + (1))))) else none)
set_option maxRecDepth 100000 in
set_option maxHeartbeats 4000000 in
theorem v_X12_seen_125 {X : WX} {G : GX} {o : Mm} {rv : Int32} {hz : Mm} {s1 : Int32} {s2 : Bool} {h : Mm} (hF : X12_seen_125  s1 s2 h = some (rv, hz)) : V X G RX12 cX12_seen 7 (some .int) 2 0 0 (QR X G false o (some (.int rv)) hz) false o 125 [(0, .ref (xa X 251))] [.int (b2i s2), .int s1, .ref (xa X 270)] h := by
  unfold X12_seen_125 at hF
  obtain ⟨hk, hF⟩ := ck hF
  refine V.iast io_270 hk dX12_seen_125 ?_
  refine V.aload_n 0 dX12_seen_126 rfl rfl ?_
  refine V.dup dX12_seen_127 rfl ?_
  refine V.getI fl_X12_294 sh_251 rfl km_251 dX12_seen_128 ?_
  refine V.iconst (v := 1) dX12_seen_131 rfl ?_
  refine V.iadd dX12_seen_132 ?_
  refine V.putI fl_X12_294 rfl (tyX12_ok 47 (by decide)) rfl rfl sh_251 rfl km_251 dX12_seen_133 ?_
  refine V.aload_n 0 dX12_seen_136 rfl rfl ?_
  refine V.getI fl_X12_294 sh_251 rfl km_251 dX12_seen_137 ?_
  cases hF
  exact V.iret dX12_seen_140
def X12_seen (x1 : Int32) (x2 : Int32) (x3 : Int32) (x4 : Int32) (x5 : Bool) (h : Mm) : Option (Int32 × Mm) := (bp (X12_isBook x1 (wI h 251 0 (0))) (fun r21 => (if r21 = true then (bp (X12_isHouse x3 (wI h 251 0 (0))) (fun r23 => (if r23 = true then (bp (X12_pagesOf x1 (wI h 251 0 (0))) (fun r25 => (bp (X12_isIn x2.toInt64 (1 : Int64) r25.toInt64 (wI h 251 0 (0))) (fun r27 => (if r27 = true then (bp (X12_isIn x4.toInt64 (0 : Int64) (99 : Int64) (wI h 251 0 (0))) (fun r29 => (if r29 = true then (if ((wI h 251 0 (0)).1 251 47) = (10) then (some ((-1), (wI h 251 0 (0)))) else (if inB ((5) * ((wI h 251 0 (0)).1 251 47)) (aln 270) then (if inB (((5) * ((wI h 251 0 (0)).1 251 47)) + (1)) (aln 270) then (if inB (((5) * ((wI h 251 0 (0)).1 251 47)) + (2)) (aln 270) then (if inB (((5) * ((wI h 251 0 (0)).1 251 47)) + (3)) (aln 270) then (if x5 = true then (X12_seen_125 (((5) * ((wI h 251 0 (0)).1 251 47)) + (4)) true (wI (wI (wI (wI (wI h 251 0 (0)) 270 ((5) * ((wI h 251 0 (0)).1 251 47)).toNatClampNeg x1) 270 (((5) * ((wI h 251 0 (0)).1 251 47)) + (1)).toNatClampNeg x2) 270 (((5) * ((wI h 251 0 (0)).1 251 47)) + (2)).toNatClampNeg x3) 270 (((5) * ((wI h 251 0 (0)).1 251 47)) + (3)).toNatClampNeg x4)) else (X12_seen_125 (((5) * ((wI h 251 0 (0)).1 251 47)) + (4)) false (wI (wI (wI (wI (wI h 251 0 (0)) 270 ((5) * ((wI h 251 0 (0)).1 251 47)).toNatClampNeg x1) 270 (((5) * ((wI h 251 0 (0)).1 251 47)) + (1)).toNatClampNeg x2) 270 (((5) * ((wI h 251 0 (0)).1 251 47)) + (2)).toNatClampNeg x3) 270 (((5) * ((wI h 251 0 (0)).1 251 47)) + (3)).toNatClampNeg x4))) else none) else none) else none) else none)) else (some ((-1), (wI h 251 0 (0))))))) else (some ((-1), (wI h 251 0 (0))))))))) else (some ((-1), (wI h 251 0 (0))))))) else (some ((-1), (wI h 251 0 (0)))))))
set_option maxRecDepth 100000 in
set_option maxHeartbeats 4000000 in
theorem s_X12_seen {X : WX} {o : Mm} {x1 : Int32} {x2 : Int32} {x3 : Int32} {x4 : Int32} {x5 : Bool} {rv : Int32} {hz : Mm} {h : Mm} (hF : X12_seen x1 x2 x3 x4 x5 h = some (rv, hz)) : Sat X yX12_seen cX12_seen 7 (some .int) 2 [.ref (xa X 251), .int x1, .int x2, .int x3, .int x4, .int (b2i x5)] false o h (some (.int rv)) hz := by
  unfold X12_seen at hF
  refine Sat.mk (own := RX12) rfl (by decide +kernel) (Nat.le_of_ble_eq_true rfl) (fun G => ?_)
  refine V.sub (lv2 := [(0, _), (1, _), (2, _), (3, _), (4, _), (5, _)]) [0, 1, 2, 3, 4, 5] rfl ?_
  refine V.aload_n 0 dX12_seen_0 rfl rfl ?_
  refine V.iconst (v := 0) dX12_seen_1 rfl ?_
  refine V.putI fl_X12_93 rfl (tyX12_ok 0 (by decide)) rfl rfl sh_251 rfl km_251 dX12_seen_2 ?_
  refine V.aload_n 0 dX12_seen_5 rfl rfl ?_
  refine V.iload_n 1 dX12_seen_6 rfl rfl ?_
  obtain ⟨r21, hc22, hF⟩ := bp_s hF
  refine V.callVi mf_X12_isBook ml_X12_319 sh_251 (s_X12_isBook hc22) (by decide) rfl rfl (Nat.le_of_ble_eq_true rfl) dX12_seen_7 ?_
  refine V.ifz_eq (tgt := 58) dX12_seen_10 rfl (fun c => ?_) (fun c => ?_)
  · replace hF := (if_neg c).symm.trans hF
    refine V.iconst (v := -1) dX12_seen_58 rfl ?_
    cases hF
    exact V.iret dX12_seen_59
  · replace hF := (if_pos c).symm.trans hF
    refine V.aload_n 0 dX12_seen_13 rfl rfl ?_
    refine V.iload_n 3 dX12_seen_14 rfl rfl ?_
    obtain ⟨r23, hc24, hF⟩ := bp_s hF
    refine V.callVi mf_X12_isHouse ml_X12_337 sh_251 (s_X12_isHouse hc24) (by decide) rfl rfl (Nat.le_of_ble_eq_true rfl) dX12_seen_15 ?_
    refine V.ifz_eq (tgt := 58) dX12_seen_18 rfl (fun c => ?_) (fun c => ?_)
    · replace hF := (if_neg c).symm.trans hF
      refine V.iconst (v := -1) dX12_seen_58 rfl ?_
      cases hF
      exact V.iret dX12_seen_59
    · replace hF := (if_pos c).symm.trans hF
      refine V.iload_n 2 dX12_seen_21 rfl rfl ?_
      refine V.i2l dX12_seen_22 ?_
      refine V.lconst (v := 1) dX12_seen_23 rfl ?_
      refine V.aload_n 0 dX12_seen_24 rfl rfl ?_
      refine V.iload_n 1 dX12_seen_25 rfl rfl ?_
      obtain ⟨r25, hc26, hF⟩ := bp_s hF
      refine V.callVi mf_X12_pagesOf ml_X12_322 sh_251 (s_X12_pagesOf hc26) (by decide) rfl rfl (Nat.le_of_ble_eq_true rfl) dX12_seen_26 ?_
      refine V.i2l dX12_seen_29 ?_
      obtain ⟨r27, hc28, hF⟩ := bp_s hF
      refine V.callSi mf_X12_isIn ml_X12_214 (s_X12_isIn hc28) (by decide) rfl rfl (Nat.le_of_ble_eq_true rfl) dX12_seen_30 ?_
      refine V.ifz_eq (tgt := 58) dX12_seen_33 rfl (fun c => ?_) (fun c => ?_)
      · replace hF := (if_neg c).symm.trans hF
        refine V.iconst (v := -1) dX12_seen_58 rfl ?_
        cases hF
        exact V.iret dX12_seen_59
      · replace hF := (if_pos c).symm.trans hF
        refine V.iload 4 dX12_seen_36 rfl ?_
        refine V.i2l dX12_seen_38 ?_
        refine V.lconst (v := 0) dX12_seen_39 rfl ?_
        refine V.ldc2 (v := 99) dX12_seen_40 kc_X12_437 ?_
        obtain ⟨r29, hc30, hF⟩ := bp_s hF
        refine V.callSi mf_X12_isIn ml_X12_214 (s_X12_isIn hc30) (by decide) rfl rfl (Nat.le_of_ble_eq_true rfl) dX12_seen_43 ?_
        refine V.ifz_eq (tgt := 58) dX12_seen_46 rfl (fun c => ?_) (fun c => ?_)
        · replace hF := (if_neg c).symm.trans hF
          refine V.iconst (v := -1) dX12_seen_58 rfl ?_
          cases hF
          exact V.iret dX12_seen_59
        · replace hF := (if_pos c).symm.trans hF
          refine V.aload_n 0 dX12_seen_49 rfl rfl ?_
          refine V.getI fl_X12_294 sh_251 rfl km_251 dX12_seen_50 ?_
          refine V.bipush (v := 10) dX12_seen_53 (by decide) ?_
          refine V.icmp_ne (tgt := 60) dX12_seen_55 rfl (fun c => ?_) (fun c => ?_)
          · replace hF := (if_neg c).symm.trans hF
            refine V.iconst (v := 5) dX12_seen_60 rfl ?_
            refine V.aload_n 0 dX12_seen_61 rfl rfl ?_
            refine V.getI fl_X12_294 sh_251 rfl km_251 dX12_seen_62 ?_
            refine V.imul dX12_seen_65 ?_
            refine V.istore [(6, _), (0, _), (1, _), (2, _), (3, _), (4, _), (5, _)] dX12_seen_66 (by decide) rfl ?_
            refine V.aload_n 1 dX12_seen_68 rfl rfl ?_
            refine V.getR (v := 270) fl_X12_84 sh_251 rfl fx_251_46 (by decide) dX12_seen_69 ?_
            refine V.iload 0 dX12_seen_72 rfl ?_
            refine V.iload_n 2 dX12_seen_74 rfl rfl ?_
            obtain ⟨hk, hF⟩ := ck hF
            refine V.iast io_270 hk dX12_seen_75 ?_
            refine V.aload_n 1 dX12_seen_76 rfl rfl ?_
            refine V.getR (v := 270) fl_X12_84 sh_251 rfl fx_251_46 (by decide) dX12_seen_77 ?_
            refine V.iload 0 dX12_seen_80 rfl ?_
            refine V.iconst (v := 1) dX12_seen_82 rfl ?_
            refine V.iadd dX12_seen_83 ?_
            refine V.iload_n 3 dX12_seen_84 rfl rfl ?_
            obtain ⟨hk, hF⟩ := ck hF
            refine V.iast io_270 hk dX12_seen_85 ?_
            refine V.aload_n 1 dX12_seen_86 rfl rfl ?_
            refine V.getR (v := 270) fl_X12_84 sh_251 rfl fx_251_46 (by decide) dX12_seen_87 ?_
            refine V.iload 0 dX12_seen_90 rfl ?_
            refine V.iconst (v := 2) dX12_seen_92 rfl ?_
            refine V.iadd dX12_seen_93 ?_
            refine V.iload_n 4 dX12_seen_94 rfl rfl ?_
            obtain ⟨hk, hF⟩ := ck hF
            refine V.iast io_270 hk dX12_seen_95 ?_
            refine V.aload_n 1 dX12_seen_96 rfl rfl ?_
            refine V.getR (v := 270) fl_X12_84 sh_251 rfl fx_251_46 (by decide) dX12_seen_97 ?_
            refine V.iload 0 dX12_seen_100 rfl ?_
            refine V.iconst (v := 3) dX12_seen_102 rfl ?_
            refine V.iadd dX12_seen_103 ?_
            refine V.iload 5 dX12_seen_104 rfl ?_
            obtain ⟨hk, hF⟩ := ck hF
            refine V.iast io_270 hk dX12_seen_106 ?_
            refine V.aload_n 1 dX12_seen_107 rfl rfl ?_
            refine V.getR (v := 270) fl_X12_84 sh_251 rfl fx_251_46 (by decide) dX12_seen_108 ?_
            refine V.iload 0 dX12_seen_111 rfl ?_
            refine V.iconst (v := 4) dX12_seen_113 rfl ?_
            refine V.iadd dX12_seen_114 ?_
            refine V.iload 6 dX12_seen_115 rfl ?_
            refine V.ifz_eq (tgt := 124) dX12_seen_117 rfl (fun c => ?_) (fun c => ?_)
            · replace hF := (if_neg c).symm.trans hF
              refine V.iconst (v := 0) dX12_seen_124 rfl ?_
              exact V.sub [1] rfl (v_X12_seen_125 hF)
            · replace hF := (if_pos c).symm.trans hF
              refine V.iconst (v := 1) dX12_seen_120 rfl ?_
              refine V.goto (tgt := 125) dX12_seen_121 rfl ?_
              exact V.sub [1] rfl (v_X12_seen_125 hF)
          · replace hF := (if_pos c).symm.trans hF
            refine V.iconst (v := -1) dX12_seen_58 rfl ?_
            cases hF
            exact V.iret dX12_seen_59
