/-! MonsterCotModel.fault -/
theorem dX12_fault_0 : decode cX12_fault 0 = .ok (.aload_n 0, 1) := by decide +kernel
theorem dX12_fault_1 : decode cX12_fault 1 = .ok (.iconst 0, 1) := by decide +kernel
theorem dX12_fault_2 : decode cX12_fault 2 = .ok (.putfield 93, 3) := by decide +kernel
theorem dX12_fault_5 : decode cX12_fault 5 = .ok (.iload_n 1, 1) := by decide +kernel
theorem dX12_fault_6 : decode cX12_fault 6 = .ok (.i2l, 1) := by decide +kernel
theorem dX12_fault_7 : decode cX12_fault 7 = .ok (.lconst 0, 1) := by decide +kernel
theorem dX12_fault_8 : decode cX12_fault 8 = .ok (.ldc2_w 269, 3) := by decide +kernel
theorem dX12_fault_11 : decode cX12_fault 11 = .ok (.invokestatic 214, 3) := by decide +kernel
theorem dX12_fault_14 : decode cX12_fault 14 = .ok (.ifCond .ne 6, 3) := by decide +kernel
theorem dX12_fault_17 : decode cX12_fault 17 = .ok (.bipush (-2), 2) := by decide +kernel
theorem dX12_fault_19 : decode cX12_fault 19 = .ok (.ireturn, 1) := by decide +kernel
theorem dX12_fault_20 : decode cX12_fault 20 = .ok (.iload_n 1, 1) := by decide +kernel
theorem dX12_fault_21 : decode cX12_fault 21 = .ok (.ifCond .ne 7, 3) := by decide +kernel
theorem dX12_fault_24 : decode cX12_fault 24 = .ok (.aload_n 0, 1) := by decide +kernel
theorem dX12_fault_25 : decode cX12_fault 25 = .ok (.invokevirtual 271, 3) := by decide +kernel
theorem dX12_fault_28 : decode cX12_fault 28 = .ok (.iload_n 1, 1) := by decide +kernel
theorem dX12_fault_29 : decode cX12_fault 29 = .ok (.iconst 1, 1) := by decide +kernel
theorem dX12_fault_30 : decode cX12_fault 30 = .ok (.if_icmp .ne 16, 3) := by decide +kernel
theorem dX12_fault_33 : decode cX12_fault 33 = .ok (.aload_n 0, 1) := by decide +kernel
theorem dX12_fault_34 : decode cX12_fault 34 = .ok (.aload_n 0, 1) := by decide +kernel
theorem dX12_fault_35 : decode cX12_fault 35 = .ok (.getfield 9, 3) := by decide +kernel
theorem dX12_fault_38 : decode cX12_fault 38 = .ok (.iconst 0, 1) := by decide +kernel
theorem dX12_fault_39 : decode cX12_fault 39 = .ok (.aload_n 0, 1) := by decide +kernel
theorem dX12_fault_40 : decode cX12_fault 40 = .ok (.getfield 106, 3) := by decide +kernel
theorem dX12_fault_43 : decode cX12_fault 43 = .ok (.invokevirtual 274, 3) := by decide +kernel
theorem dX12_fault_46 : decode cX12_fault 46 = .ok (.iload_n 1, 1) := by decide +kernel
theorem dX12_fault_47 : decode cX12_fault 47 = .ok (.iconst 2, 1) := by decide +kernel
theorem dX12_fault_48 : decode cX12_fault 48 = .ok (.if_icmp .ne 7, 3) := by decide +kernel
theorem dX12_fault_51 : decode cX12_fault 51 = .ok (.aload_n 0, 1) := by decide +kernel
theorem dX12_fault_52 : decode cX12_fault 52 = .ok (.invokevirtual 277, 3) := by decide +kernel
theorem dX12_fault_55 : decode cX12_fault 55 = .ok (.aload_n 0, 1) := by decide +kernel
theorem dX12_fault_56 : decode cX12_fault 56 = .ok (.getfield 125, 3) := by decide +kernel
theorem dX12_fault_59 : decode cX12_fault 59 = .ok (.ireturn, 1) := by decide +kernel
def X12_fault_55 (n : Nat) (h : Mm) : Option (Int32 × Mm) := (some ((h.1 251 11), h))
set_option maxRecDepth 100000 in
set_option maxHeartbeats 4000000 in
theorem v_X12_fault_55 {X : WX} {G : GX} {o : Mm} {n : Nat} {rv : Int32} {hz : Mm} {h : Mm} (hF : X12_fault_55 n h = some (rv, hz)) : V X G RX12 cX12_fault 2 (some .int) 89 0 0 (QR X G false o (some (.int rv)) hz) false o 55 [(0, .ref (xa X 251))] [] h := by
  unfold X12_fault_55 at hF
  refine V.aload_n 0 dX12_fault_55 rfl rfl ?_
  refine V.getI fl_X12_125 sh_251 rfl km_251 dX12_fault_56 ?_
  cases hF
  exact V.iret dX12_fault_59
def X12_fault_46 (n : Nat) (x1 : Int32) (h : Mm) : Option (Int32 × Mm) := (if x1 = (2) then (bd (X12_readWeek n h) (fun _ h33 => (X12_fault_55 n h33))) else (X12_fault_55 n h))
set_option maxRecDepth 100000 in
set_option maxHeartbeats 4000000 in
theorem v_X12_fault_46 {X : WX} {G : GX} {o : Mm} {n : Nat} {rv : Int32} {hz : Mm} {x1 : Int32} {h : Mm} (hF : X12_fault_46 n x1 h = some (rv, hz)) : V X G RX12 cX12_fault 2 (some .int) 89 0 0 (QR X G false o (some (.int rv)) hz) false o 46 [(0, .ref (xa X 251)), (1, .int x1)] [] h := by
  unfold X12_fault_46 at hF
  refine V.iload_n 1 dX12_fault_46 rfl rfl ?_
  refine V.iconst (v := 2) dX12_fault_47 rfl ?_
  refine V.icmp_ne (tgt := 55) dX12_fault_48 rfl (fun c => ?_) (fun c => ?_)
  · replace hF := (if_neg c).symm.trans hF
    exact V.sub [0] rfl (v_X12_fault_55 hF)
  · replace hF := (if_pos c).symm.trans hF
    refine V.aload_n 0 dX12_fault_51 rfl rfl ?_
    obtain ⟨r31, h33, hc32, hF⟩ := bd_s hF
    refine V.callVv mf_X12_readWeek ml_X12_277 sh_251 (s_X12_readWeek hc32) (by decide) rfl rfl (Nat.le_of_ble_eq_true rfl) dX12_fault_52 ?_
    exact V.sub [0] rfl (v_X12_fault_55 hF)
def X12_fault_28 (n : Nat) (x1 : Int32) (h : Mm) : Option (Int32 × Mm) := (if x1 = (1) then (bd (X12_goThrough n 252 (0) (h.1 251 6) h) (fun _ h36 => (X12_fault_46 n x1 h36))) else (X12_fault_46 n x1 h))
set_option maxRecDepth 100000 in
set_option maxHeartbeats 4000000 in
theorem v_X12_fault_28 {X : WX} {G : GX} {o : Mm} {n : Nat} {rv : Int32} {hz : Mm} {x1 : Int32} {h : Mm} (hF : X12_fault_28 n x1 h = some (rv, hz)) : V X G RX12 cX12_fault 2 (some .int) 89 0 0 (QR X G false o (some (.int rv)) hz) false o 28 [(0, .ref (xa X 251)), (1, .int x1)] [] h := by
  unfold X12_fault_28 at hF
  refine V.iload_n 1 dX12_fault_28 rfl rfl ?_
  refine V.iconst (v := 1) dX12_fault_29 rfl ?_
  refine V.icmp_ne (tgt := 46) dX12_fault_30 rfl (fun c => ?_) (fun c => ?_)
  · replace hF := (if_neg c).symm.trans hF
    exact (v_X12_fault_46 hF)
  · replace hF := (if_pos c).symm.trans hF
    refine V.aload_n 0 dX12_fault_33 rfl rfl ?_
    refine V.aload_n 0 dX12_fault_34 rfl rfl ?_
    refine V.getR (v := 252) fl_X12_9 sh_251 rfl fx_251_1 (by decide) dX12_fault_35 ?_
    refine V.iconst (v := 0) dX12_fault_38 rfl ?_
    refine V.aload_n 0 dX12_fault_39 rfl rfl ?_
    refine V.getI fl_X12_106 sh_251 rfl km_251 dX12_fault_40 ?_
    obtain ⟨r34, h36, hc35, hF⟩ := bd_s hF
    refine V.callVv mf_X12_goThrough ml_X12_274 sh_251 (s_X12_goThrough io_252 hc35) (by decide) rfl rfl (Nat.le_of_ble_eq_true rfl) dX12_fault_43 ?_
    exact (v_X12_fault_46 hF)
def X12_fault (n : Nat) (x1 : Int32) (h : Mm) : Option (Int32 × Mm) := (bp (X12_isIn x1.toInt64 (0 : Int64) (2 : Int64) (wI h 251 0 (0))) (fun r37 => (if r37 = true then (if x1 = 0 then (bd (X12_readLanding n (wI h 251 0 (0))) (fun _ h41 => (X12_fault_28 n x1 h41))) else (X12_fault_28 n x1 (wI h 251 0 (0)))) else (some ((-2), (wI h 251 0 (0)))))))
set_option maxRecDepth 100000 in
set_option maxHeartbeats 4000000 in
theorem s_X12_fault {X : WX} {o : Mm} {n : Nat} {x1 : Int32} {rv : Int32} {hz : Mm} {h : Mm} (hF : X12_fault n x1 h = some (rv, hz)) : Sat X yX12_fault cX12_fault 2 (some .int) 89 [.ref (xa X 251), .int x1] false o h (some (.int rv)) hz := by
  unfold X12_fault at hF
  refine Sat.mk (own := RX12) rfl (by decide +kernel) (Nat.le_of_ble_eq_true rfl) (fun G => ?_)
  refine V.sub (lv2 := [(0, _), (1, _)]) [0, 1] rfl ?_
  refine V.aload_n 0 dX12_fault_0 rfl rfl ?_
  refine V.iconst (v := 0) dX12_fault_1 rfl ?_
  refine V.putI fl_X12_93 rfl (tyX12_ok 0 (by decide)) rfl rfl sh_251 rfl km_251 dX12_fault_2 ?_
  refine V.iload_n 1 dX12_fault_5 rfl rfl ?_
  refine V.i2l dX12_fault_6 ?_
  refine V.lconst (v := 0) dX12_fault_7 rfl ?_
  refine V.ldc2 (v := 2) dX12_fault_8 kc_X12_269 ?_
  obtain ⟨r37, hc38, hF⟩ := bp_s hF
  refine V.callSi mf_X12_isIn ml_X12_214 (s_X12_isIn hc38) (by decide) rfl rfl (Nat.le_of_ble_eq_true rfl) dX12_fault_11 ?_
  refine V.ifz_ne (tgt := 20) dX12_fault_14 rfl (fun c => ?_) (fun c => ?_)
  · replace hF := (if_pos c).symm.trans hF
    refine V.iload_n 1 dX12_fault_20 rfl rfl ?_
    refine V.if_ne (tgt := 28) dX12_fault_21 rfl (fun c => ?_) (fun c => ?_)
    · replace hF := (if_neg c).symm.trans hF
      exact (v_X12_fault_28 hF)
    · replace hF := (if_pos c).symm.trans hF
      refine V.aload_n 0 dX12_fault_24 rfl rfl ?_
      obtain ⟨r39, h41, hc40, hF⟩ := bd_s hF
      refine V.callVv mf_X12_readLanding ml_X12_271 sh_251 (s_X12_readLanding hc40) (by decide) rfl rfl (Nat.le_of_ble_eq_true rfl) dX12_fault_25 ?_
      exact (v_X12_fault_28 hF)
  · replace hF := (if_neg c).symm.trans hF
    refine V.bipush (v := -2) dX12_fault_17 (by decide) ?_
    cases hF
    exact V.iret dX12_fault_19
/-! MonsterCotModel.text -/
theorem dX12_text_0 : decode cX12_text 0 = .ok (.aload_n 0, 1) := by decide +kernel
theorem dX12_text_1 : decode cX12_text 1 = .ok (.iconst 0, 1) := by decide +kernel
theorem dX12_text_2 : decode cX12_text 2 = .ok (.putfield 93, 3) := by decide +kernel
theorem dX12_text_5 : decode cX12_text 5 = .ok (.iload_n 1, 1) := by decide +kernel
theorem dX12_text_6 : decode cX12_text 6 = .ok (.i2l, 1) := by decide +kernel
theorem dX12_text_7 : decode cX12_text 7 = .ok (.lconst 0, 1) := by decide +kernel
theorem dX12_text_8 : decode cX12_text 8 = .ok (.ldc2_w 269, 3) := by decide +kernel
theorem dX12_text_11 : decode cX12_text 11 = .ok (.invokestatic 214, 3) := by decide +kernel
theorem dX12_text_14 : decode cX12_text 14 = .ok (.ifCond .eq 38, 3) := by decide +kernel
theorem dX12_text_17 : decode cX12_text 17 = .ok (.iload_n 1, 1) := by decide +kernel
theorem dX12_text_18 : decode cX12_text 18 = .ok (.iconst 1, 1) := by decide +kernel
theorem dX12_text_19 : decode cX12_text 19 = .ok (.if_icmp .ne 11, 3) := by decide +kernel
theorem dX12_text_22 : decode cX12_text 22 = .ok (.aload_n 0, 1) := by decide +kernel
theorem dX12_text_23 : decode cX12_text 23 = .ok (.getfield 280, 3) := by decide +kernel
theorem dX12_text_26 : decode cX12_text 26 = .ok (.iconst 4, 1) := by decide +kernel
theorem dX12_text_27 : decode cX12_text 27 = .ok (.if_icmp .eq 25, 3) := by decide +kernel
theorem dX12_text_30 : decode cX12_text 30 = .ok (.iload_n 1, 1) := by decide +kernel
theorem dX12_text_31 : decode cX12_text 31 = .ok (.iconst 2, 1) := by decide +kernel
theorem dX12_text_32 : decode cX12_text 32 = .ok (.if_icmp .ne 11, 3) := by decide +kernel
theorem dX12_text_35 : decode cX12_text 35 = .ok (.aload_n 0, 1) := by decide +kernel
theorem dX12_text_36 : decode cX12_text 36 = .ok (.getfield 283, 3) := by decide +kernel
theorem dX12_text_39 : decode cX12_text 39 = .ok (.iconst 4, 1) := by decide +kernel
theorem dX12_text_40 : decode cX12_text 40 = .ok (.if_icmp .eq 12, 3) := by decide +kernel
theorem dX12_text_43 : decode cX12_text 43 = .ok (.aload_n 0, 1) := by decide +kernel
theorem dX12_text_44 : decode cX12_text 44 = .ok (.iload_n 1, 1) := by decide +kernel
theorem dX12_text_45 : decode cX12_text 45 = .ok (.invokevirtual 286, 3) := by decide +kernel
theorem dX12_text_48 : decode cX12_text 48 = .ok (.iconst (-1), 1) := by decide +kernel
theorem dX12_text_49 : decode cX12_text 49 = .ok (.if_icmp .eq 5, 3) := by decide +kernel
theorem dX12_text_52 : decode cX12_text 52 = .ok (.iconst (-1), 1) := by decide +kernel
theorem dX12_text_53 : decode cX12_text 53 = .ok (.ireturn, 1) := by decide +kernel
theorem dX12_text_54 : decode cX12_text 54 = .ok (.aload_n 0, 1) := by decide +kernel
theorem dX12_text_55 : decode cX12_text 55 = .ok (.getfield 106, 3) := by decide +kernel
theorem dX12_text_58 : decode cX12_text 58 = .ok (.istore_n 2, 1) := by decide +kernel
theorem dX12_text_59 : decode cX12_text 59 = .ok (.aload_n 0, 1) := by decide +kernel
theorem dX12_text_60 : decode cX12_text 60 = .ok (.iconst 0, 1) := by decide +kernel
theorem dX12_text_61 : decode cX12_text 61 = .ok (.putfield 106, 3) := by decide +kernel
theorem dX12_text_64 : decode cX12_text 64 = .ok (.iload_n 1, 1) := by decide +kernel
theorem dX12_text_65 : decode cX12_text 65 = .ok (.iconst 1, 1) := by decide +kernel
theorem dX12_text_66 : decode cX12_text 66 = .ok (.if_icmp .ne 64, 3) := by decide +kernel
theorem dX12_text_69 : decode cX12_text 69 = .ok (.iconst 0, 1) := by decide +kernel
theorem dX12_text_70 : decode cX12_text 70 = .ok (.istore_n 3, 1) := by decide +kernel
theorem dX12_text_71 : decode cX12_text 71 = .ok (.iload_n 3, 1) := by decide +kernel
theorem dX12_text_72 : decode cX12_text 72 = .ok (.iload_n 2, 1) := by decide +kernel
theorem dX12_text_73 : decode cX12_text 73 = .ok (.if_icmp .ge 30, 3) := by decide +kernel
theorem dX12_text_76 : decode cX12_text 76 = .ok (.aload_n 0, 1) := by decide +kernel
theorem dX12_text_77 : decode cX12_text 77 = .ok (.getfield 13, 3) := by decide +kernel
theorem dX12_text_80 : decode cX12_text 80 = .ok (.sipush 240, 3) := by decide +kernel
theorem dX12_text_83 : decode cX12_text 83 = .ok (.aload_n 0, 1) := by decide +kernel
theorem dX12_text_84 : decode cX12_text 84 = .ok (.getfield 280, 3) := by decide +kernel
theorem dX12_text_87 : decode cX12_text 87 = .ok (.imul, 1) := by decide +kernel
theorem dX12_text_88 : decode cX12_text 88 = .ok (.iload_n 3, 1) := by decide +kernel
theorem dX12_text_89 : decode cX12_text 89 = .ok (.iadd, 1) := by decide +kernel
theorem dX12_text_90 : decode cX12_text 90 = .ok (.aload_n 0, 1) := by decide +kernel
theorem dX12_text_91 : decode cX12_text 91 = .ok (.getfield 9, 3) := by decide +kernel
theorem dX12_text_94 : decode cX12_text 94 = .ok (.iload_n 3, 1) := by decide +kernel
theorem dX12_text_95 : decode cX12_text 95 = .ok (.baload, 1) := by decide +kernel
theorem dX12_text_96 : decode cX12_text 96 = .ok (.bastore, 1) := by decide +kernel
theorem dX12_text_97 : decode cX12_text 97 = .ok (.iinc 3 1, 3) := by decide +kernel
theorem dX12_text_100 : decode cX12_text 100 = .ok (.goto (-29), 3) := by decide +kernel
theorem dX12_text_103 : decode cX12_text 103 = .ok (.aload_n 0, 1) := by decide +kernel
theorem dX12_text_104 : decode cX12_text 104 = .ok (.getfield 16, 3) := by decide +kernel
theorem dX12_text_107 : decode cX12_text 107 = .ok (.aload_n 0, 1) := by decide +kernel
theorem dX12_text_108 : decode cX12_text 108 = .ok (.getfield 280, 3) := by decide +kernel
theorem dX12_text_111 : decode cX12_text 111 = .ok (.iload_n 2, 1) := by decide +kernel
theorem dX12_text_112 : decode cX12_text 112 = .ok (.iastore, 1) := by decide +kernel
theorem dX12_text_113 : decode cX12_text 113 = .ok (.aload_n 0, 1) := by decide +kernel
theorem dX12_text_114 : decode cX12_text 114 = .ok (.dup, 1) := by decide +kernel
theorem dX12_text_115 : decode cX12_text 115 = .ok (.getfield 280, 3) := by decide +kernel
theorem dX12_text_118 : decode cX12_text 118 = .ok (.iconst 1, 1) := by decide +kernel
theorem dX12_text_119 : decode cX12_text 119 = .ok (.iadd, 1) := by decide +kernel
theorem dX12_text_120 : decode cX12_text 120 = .ok (.putfield 280, 3) := by decide +kernel
theorem dX12_text_123 : decode cX12_text 123 = .ok (.aload_n 0, 1) := by decide +kernel
theorem dX12_text_124 : decode cX12_text 124 = .ok (.getfield 280, 3) := by decide +kernel
theorem dX12_text_127 : decode cX12_text 127 = .ok (.iconst 1, 1) := by decide +kernel
theorem dX12_text_128 : decode cX12_text 128 = .ok (.isub, 1) := by decide +kernel
theorem dX12_text_129 : decode cX12_text 129 = .ok (.ireturn, 1) := by decide +kernel
theorem dX12_text_130 : decode cX12_text 130 = .ok (.iload_n 1, 1) := by decide +kernel
theorem dX12_text_131 : decode cX12_text 131 = .ok (.iconst 2, 1) := by decide +kernel
theorem dX12_text_132 : decode cX12_text 132 = .ok (.if_icmp .ne 73, 3) := by decide +kernel
theorem dX12_text_135 : decode cX12_text 135 = .ok (.iconst 0, 1) := by decide +kernel
theorem dX12_text_136 : decode cX12_text 136 = .ok (.istore_n 3, 1) := by decide +kernel
theorem dX12_text_137 : decode cX12_text 137 = .ok (.iload_n 3, 1) := by decide +kernel
theorem dX12_text_138 : decode cX12_text 138 = .ok (.bipush 48, 2) := by decide +kernel
theorem dX12_text_140 : decode cX12_text 140 = .ok (.if_icmp .ge 33, 3) := by decide +kernel
theorem dX12_text_143 : decode cX12_text 143 = .ok (.aload_n 0, 1) := by decide +kernel
theorem dX12_text_144 : decode cX12_text 144 = .ok (.getfield 55, 3) := by decide +kernel
theorem dX12_text_147 : decode cX12_text 147 = .ok (.bipush 48, 2) := by decide +kernel
theorem dX12_text_149 : decode cX12_text 149 = .ok (.aload_n 0, 1) := by decide +kernel
theorem dX12_text_150 : decode cX12_text 150 = .ok (.getfield 283, 3) := by decide +kernel
theorem dX12_text_153 : decode cX12_text 153 = .ok (.imul, 1) := by decide +kernel
theorem dX12_text_154 : decode cX12_text 154 = .ok (.iload_n 3, 1) := by decide +kernel
theorem dX12_text_155 : decode cX12_text 155 = .ok (.iadd, 1) := by decide +kernel
theorem dX12_text_156 : decode cX12_text 156 = .ok (.aload_n 0, 1) := by decide +kernel
theorem dX12_text_157 : decode cX12_text 157 = .ok (.getfield 55, 3) := by decide +kernel
theorem dX12_text_160 : decode cX12_text 160 = .ok (.sipush 192, 3) := by decide +kernel
theorem dX12_text_163 : decode cX12_text 163 = .ok (.iload_n 3, 1) := by decide +kernel
theorem dX12_text_164 : decode cX12_text 164 = .ok (.iadd, 1) := by decide +kernel
theorem dX12_text_165 : decode cX12_text 165 = .ok (.iaload, 1) := by decide +kernel
theorem dX12_text_166 : decode cX12_text 166 = .ok (.iastore, 1) := by decide +kernel
theorem dX12_text_167 : decode cX12_text 167 = .ok (.iinc 3 1, 3) := by decide +kernel
theorem dX12_text_170 : decode cX12_text 170 = .ok (.goto (-33), 3) := by decide +kernel
theorem dX12_text_173 : decode cX12_text 173 = .ok (.aload_n 0, 1) := by decide +kernel
theorem dX12_text_174 : decode cX12_text 174 = .ok (.getfield 58, 3) := by decide +kernel
theorem dX12_text_177 : decode cX12_text 177 = .ok (.aload_n 0, 1) := by decide +kernel
theorem dX12_text_178 : decode cX12_text 178 = .ok (.getfield 283, 3) := by decide +kernel
theorem dX12_text_181 : decode cX12_text 181 = .ok (.aload_n 0, 1) := by decide +kernel
theorem dX12_text_182 : decode cX12_text 182 = .ok (.getfield 58, 3) := by decide +kernel
theorem dX12_text_185 : decode cX12_text 185 = .ok (.iconst 4, 1) := by decide +kernel
theorem dX12_text_186 : decode cX12_text 186 = .ok (.iaload, 1) := by decide +kernel
theorem dX12_text_187 : decode cX12_text 187 = .ok (.iastore, 1) := by decide +kernel
theorem dX12_text_188 : decode cX12_text 188 = .ok (.aload_n 0, 1) := by decide +kernel
theorem dX12_text_189 : decode cX12_text 189 = .ok (.dup, 1) := by decide +kernel
theorem dX12_text_190 : decode cX12_text 190 = .ok (.getfield 283, 3) := by decide +kernel
theorem dX12_text_193 : decode cX12_text 193 = .ok (.iconst 1, 1) := by decide +kernel
theorem dX12_text_194 : decode cX12_text 194 = .ok (.iadd, 1) := by decide +kernel
theorem dX12_text_195 : decode cX12_text 195 = .ok (.putfield 283, 3) := by decide +kernel
theorem dX12_text_198 : decode cX12_text 198 = .ok (.aload_n 0, 1) := by decide +kernel
theorem dX12_text_199 : decode cX12_text 199 = .ok (.getfield 283, 3) := by decide +kernel
theorem dX12_text_202 : decode cX12_text 202 = .ok (.iconst 1, 1) := by decide +kernel
theorem dX12_text_203 : decode cX12_text 203 = .ok (.isub, 1) := by decide +kernel
theorem dX12_text_204 : decode cX12_text 204 = .ok (.ireturn, 1) := by decide +kernel
theorem dX12_text_205 : decode cX12_text 205 = .ok (.aload_n 0, 1) := by decide +kernel
theorem dX12_text_206 : decode cX12_text 206 = .ok (.aload_n 0, 1) := by decide +kernel
theorem dX12_text_207 : decode cX12_text 207 = .ok (.getfield 242, 3) := by decide +kernel
theorem dX12_text_210 : decode cX12_text 210 = .ok (.putfield 288, 3) := by decide +kernel
theorem dX12_text_213 : decode cX12_text 213 = .ok (.aload_n 0, 1) := by decide +kernel
theorem dX12_text_214 : decode cX12_text 214 = .ok (.aload_n 0, 1) := by decide +kernel
theorem dX12_text_215 : decode cX12_text 215 = .ok (.getfield 245, 3) := by decide +kernel
theorem dX12_text_218 : decode cX12_text 218 = .ok (.putfield 291, 3) := by decide +kernel
theorem dX12_text_221 : decode cX12_text 221 = .ok (.iconst 0, 1) := by decide +kernel
theorem dX12_text_222 : decode cX12_text 222 = .ok (.istore_n 3, 1) := by decide +kernel
theorem dX12_text_223 : decode cX12_text 223 = .ok (.iload_n 3, 1) := by decide +kernel
theorem dX12_text_224 : decode cX12_text 224 = .ok (.iconst 3, 1) := by decide +kernel
theorem dX12_text_225 : decode cX12_text 225 = .ok (.if_icmp .ge 21, 3) := by decide +kernel
theorem dX12_text_228 : decode cX12_text 228 = .ok (.aload_n 0, 1) := by decide +kernel
theorem dX12_text_229 : decode cX12_text 229 = .ok (.getfield 37, 3) := by decide +kernel
theorem dX12_text_232 : decode cX12_text 232 = .ok (.iload_n 3, 1) := by decide +kernel
theorem dX12_text_233 : decode cX12_text 233 = .ok (.aload_n 0, 1) := by decide +kernel
theorem dX12_text_234 : decode cX12_text 234 = .ok (.getfield 40, 3) := by decide +kernel
theorem dX12_text_237 : decode cX12_text 237 = .ok (.iload_n 3, 1) := by decide +kernel
theorem dX12_text_238 : decode cX12_text 238 = .ok (.iaload, 1) := by decide +kernel
theorem dX12_text_239 : decode cX12_text 239 = .ok (.iastore, 1) := by decide +kernel
theorem dX12_text_240 : decode cX12_text 240 = .ok (.iinc 3 1, 3) := by decide +kernel
theorem dX12_text_243 : decode cX12_text 243 = .ok (.goto (-20), 3) := by decide +kernel
theorem dX12_text_246 : decode cX12_text 246 = .ok (.iconst 0, 1) := by decide +kernel
theorem dX12_text_247 : decode cX12_text 247 = .ok (.istore_n 3, 1) := by decide +kernel
theorem dX12_text_248 : decode cX12_text 248 = .ok (.iload_n 3, 1) := by decide +kernel
theorem dX12_text_249 : decode cX12_text 249 = .ok (.bipush 18, 2) := by decide +kernel
theorem dX12_text_251 : decode cX12_text 251 = .ok (.if_icmp .ge 21, 3) := by decide +kernel
theorem dX12_text_254 : decode cX12_text 254 = .ok (.aload_n 0, 1) := by decide +kernel
theorem dX12_text_255 : decode cX12_text 255 = .ok (.getfield 43, 3) := by decide +kernel
theorem dX12_text_258 : decode cX12_text 258 = .ok (.iload_n 3, 1) := by decide +kernel
theorem dX12_text_259 : decode cX12_text 259 = .ok (.aload_n 0, 1) := by decide +kernel
theorem dX12_text_260 : decode cX12_text 260 = .ok (.getfield 46, 3) := by decide +kernel
theorem dX12_text_263 : decode cX12_text 263 = .ok (.iload_n 3, 1) := by decide +kernel
theorem dX12_text_264 : decode cX12_text 264 = .ok (.iaload, 1) := by decide +kernel
theorem dX12_text_265 : decode cX12_text 265 = .ok (.iastore, 1) := by decide +kernel
theorem dX12_text_266 : decode cX12_text 266 = .ok (.iinc 3 1, 3) := by decide +kernel
theorem dX12_text_269 : decode cX12_text 269 = .ok (.goto (-21), 3) := by decide +kernel
theorem dX12_text_272 : decode cX12_text 272 = .ok (.iconst 0, 1) := by decide +kernel
theorem dX12_text_273 : decode cX12_text 273 = .ok (.istore_n 3, 1) := by decide +kernel
theorem dX12_text_274 : decode cX12_text 274 = .ok (.iload_n 3, 1) := by decide +kernel
theorem dX12_text_275 : decode cX12_text 275 = .ok (.bipush 18, 2) := by decide +kernel
theorem dX12_text_277 : decode cX12_text 277 = .ok (.if_icmp .ge 21, 3) := by decide +kernel
theorem dX12_text_280 : decode cX12_text 280 = .ok (.aload_n 0, 1) := by decide +kernel
theorem dX12_text_281 : decode cX12_text 281 = .ok (.getfield 49, 3) := by decide +kernel
theorem dX12_text_284 : decode cX12_text 284 = .ok (.iload_n 3, 1) := by decide +kernel
theorem dX12_text_285 : decode cX12_text 285 = .ok (.aload_n 0, 1) := by decide +kernel
theorem dX12_text_286 : decode cX12_text 286 = .ok (.getfield 52, 3) := by decide +kernel
theorem dX12_text_289 : decode cX12_text 289 = .ok (.iload_n 3, 1) := by decide +kernel
theorem dX12_text_290 : decode cX12_text 290 = .ok (.iaload, 1) := by decide +kernel
theorem dX12_text_291 : decode cX12_text 291 = .ok (.iastore, 1) := by decide +kernel
theorem dX12_text_292 : decode cX12_text 292 = .ok (.iinc 3 1, 3) := by decide +kernel
theorem dX12_text_295 : decode cX12_text 295 = .ok (.goto (-21), 3) := by decide +kernel
theorem dX12_text_298 : decode cX12_text 298 = .ok (.iconst 0, 1) := by decide +kernel
theorem dX12_text_299 : decode cX12_text 299 = .ok (.istore_n 3, 1) := by decide +kernel
theorem dX12_text_300 : decode cX12_text 300 = .ok (.iload_n 3, 1) := by decide +kernel
theorem dX12_text_301 : decode cX12_text 301 = .ok (.sipush 211, 3) := by decide +kernel
theorem dX12_text_304 : decode cX12_text 304 = .ok (.if_icmp .ge 16, 3) := by decide +kernel
theorem dX12_text_307 : decode cX12_text 307 = .ok (.aload_n 0, 1) := by decide +kernel
theorem dX12_text_308 : decode cX12_text 308 = .ok (.getfield 61, 3) := by decide +kernel
theorem dX12_text_311 : decode cX12_text 311 = .ok (.iload_n 3, 1) := by decide +kernel
theorem dX12_text_312 : decode cX12_text 312 = .ok (.iconst 0, 1) := by decide +kernel
theorem dX12_text_313 : decode cX12_text 313 = .ok (.iastore, 1) := by decide +kernel
theorem dX12_text_314 : decode cX12_text 314 = .ok (.iinc 3 1, 3) := by decide +kernel
theorem dX12_text_317 : decode cX12_text 317 = .ok (.goto (-17), 3) := by decide +kernel
theorem dX12_text_320 : decode cX12_text 320 = .ok (.iconst 0, 1) := by decide +kernel
theorem dX12_text_321 : decode cX12_text 321 = .ok (.istore_n 3, 1) := by decide +kernel
theorem dX12_text_322 : decode cX12_text 322 = .ok (.iload_n 3, 1) := by decide +kernel
theorem dX12_text_323 : decode cX12_text 323 = .ok (.aload_n 0, 1) := by decide +kernel
theorem dX12_text_324 : decode cX12_text 324 = .ok (.getfield 291, 3) := by decide +kernel
theorem dX12_text_327 : decode cX12_text 327 = .ok (.if_icmp .ge 29, 3) := by decide +kernel
theorem dX12_text_330 : decode cX12_text 330 = .ok (.aload_n 0, 1) := by decide +kernel
theorem dX12_text_331 : decode cX12_text 331 = .ok (.getfield 61, 3) := by decide +kernel
theorem dX12_text_334 : decode cX12_text 334 = .ok (.iconst 3, 1) := by decide +kernel
theorem dX12_text_335 : decode cX12_text 335 = .ok (.iload_n 3, 1) := by decide +kernel
theorem dX12_text_336 : decode cX12_text 336 = .ok (.imul, 1) := by decide +kernel
theorem dX12_text_337 : decode cX12_text 337 = .ok (.iconst 1, 1) := by decide +kernel
theorem dX12_text_338 : decode cX12_text 338 = .ok (.iadd, 1) := by decide +kernel
theorem dX12_text_339 : decode cX12_text 339 = .ok (.aload_n 0, 1) := by decide +kernel
theorem dX12_text_340 : decode cX12_text 340 = .ok (.getfield 49, 3) := by decide +kernel
theorem dX12_text_343 : decode cX12_text 343 = .ok (.iconst 3, 1) := by decide +kernel
theorem dX12_text_344 : decode cX12_text 344 = .ok (.iload_n 3, 1) := by decide +kernel
theorem dX12_text_345 : decode cX12_text 345 = .ok (.imul, 1) := by decide +kernel
theorem dX12_text_346 : decode cX12_text 346 = .ok (.iconst 2, 1) := by decide +kernel
theorem dX12_text_347 : decode cX12_text 347 = .ok (.iadd, 1) := by decide +kernel
theorem dX12_text_348 : decode cX12_text 348 = .ok (.iaload, 1) := by decide +kernel
theorem dX12_text_349 : decode cX12_text 349 = .ok (.iastore, 1) := by decide +kernel
theorem dX12_text_350 : decode cX12_text 350 = .ok (.iinc 3 1, 3) := by decide +kernel
theorem dX12_text_353 : decode cX12_text 353 = .ok (.goto (-31), 3) := by decide +kernel
theorem dX12_text_356 : decode cX12_text 356 = .ok (.aload_n 0, 1) := by decide +kernel
theorem dX12_text_357 : decode cX12_text 357 = .ok (.getfield 61, 3) := by decide +kernel
theorem dX12_text_360 : decode cX12_text 360 = .ok (.bipush 22, 2) := by decide +kernel
theorem dX12_text_362 : decode cX12_text 362 = .ok (.aload_n 0, 1) := by decide +kernel
theorem dX12_text_363 : decode cX12_text 363 = .ok (.getfield 37, 3) := by decide +kernel
theorem dX12_text_366 : decode cX12_text 366 = .ok (.iconst 0, 1) := by decide +kernel
theorem dX12_text_367 : decode cX12_text 367 = .ok (.iaload, 1) := by decide +kernel
theorem dX12_text_368 : decode cX12_text 368 = .ok (.iastore, 1) := by decide +kernel
theorem dX12_text_369 : decode cX12_text 369 = .ok (.aload_n 0, 1) := by decide +kernel
theorem dX12_text_370 : decode cX12_text 370 = .ok (.iconst 0, 1) := by decide +kernel
theorem dX12_text_371 : decode cX12_text 371 = .ok (.putfield 294, 3) := by decide +kernel
theorem dX12_text_374 : decode cX12_text 374 = .ok (.aload_n 0, 1) := by decide +kernel
theorem dX12_text_375 : decode cX12_text 375 = .ok (.iconst 0, 1) := by decide +kernel
theorem dX12_text_376 : decode cX12_text 376 = .ok (.putfield 297, 3) := by decide +kernel
theorem dX12_text_379 : decode cX12_text 379 = .ok (.aload_n 0, 1) := by decide +kernel
theorem dX12_text_380 : decode cX12_text 380 = .ok (.iconst 0, 1) := by decide +kernel
theorem dX12_text_381 : decode cX12_text 381 = .ok (.putfield 300, 3) := by decide +kernel
theorem dX12_text_384 : decode cX12_text 384 = .ok (.aload_n 0, 1) := by decide +kernel
theorem dX12_text_385 : decode cX12_text 385 = .ok (.getfield 291, 3) := by decide +kernel
theorem dX12_text_388 : decode cX12_text 388 = .ok (.ireturn, 1) := by decide +kernel
def X12_text_71 (n : Nat) : Nat → Int32 → Int32 → Mm → Option (Int32 × Mm)
  | 0, _, _, _ => none
  | f + 1, x2, x3, h => (if x2 ≤ x3 then (if inB (h.1 251 7) (aln 254) then (some ((((wI (wI h 254 (h.1 251 7).toNatClampNeg x2) 251 7 (((wI h 254 (h.1 251 7).toNatClampNeg x2).1 251 7) + (1))).1 251 7) - (1)), (wI (wI h 254 (h.1 251 7).toNatClampNeg x2) 251 7 (((wI h 254 (h.1 251 7).toNatClampNeg x2).1 251 7) + (1))))) else none) else (if inB x3 (aln 252) then (if inB (((240) * (h.1 251 7)) + x3) (aln 253) then ((X12_text_71 n f) x2 (x3 + (1)) (wI h 253 (((240) * (h.1 251 7)) + x3).toNatClampNeg (vp_nar .byte (h.1 252 x3.toNatClampNeg)))) else none) else none))
set_option maxRecDepth 100000 in
set_option maxHeartbeats 4000000 in
theorem v_X12_text_71 {X : WX} {G : GX} {o : Mm} {n : Nat} {rv : Int32} {hz : Mm} : ∀ (f : Nat) (x2 : Int32) (x3 : Int32) (h : Mm), X12_text_71 n f x2 x3 h = some (rv, hz) → V X G RX12 cX12_text 4 (some .int) 90 0 0 (QR X G false o (some (.int rv)) hz) false o 71 [(0, .ref (xa X 251)), (2, .int x2), (3, .int x3)] [] h := by
  intro f
  induction f with
  | zero => intro x2 x3 h hF; exact nomatch (show (none : Option (Int32 × Mm)) = some (rv, hz) from hF)
  | succ f ih =>
    intro x2 x3 h hF
    unfold X12_text_71 at hF
    refine V.iload_n 2 dX12_text_71 rfl rfl ?_
    refine V.iload_n 1 dX12_text_72 rfl rfl ?_
    refine V.icmp_ge (tgt := 103) dX12_text_73 rfl (fun c => ?_) (fun c => ?_)
    · replace hF := (if_pos c).symm.trans hF
      refine V.aload_n 0 dX12_text_103 rfl rfl ?_
      refine V.getR (v := 254) fl_X12_16 sh_251 rfl fx_251_3 (by decide) dX12_text_104 ?_
      refine V.aload_n 0 dX12_text_107 rfl rfl ?_
      refine V.getI fl_X12_280 sh_251 rfl km_251 dX12_text_108 ?_
      refine V.iload_n 1 dX12_text_111 rfl rfl ?_
      obtain ⟨hk, hF⟩ := ck hF
      refine V.iast io_254 hk dX12_text_112 ?_
      refine V.aload_n 0 dX12_text_113 rfl rfl ?_
      refine V.dup dX12_text_114 rfl ?_
      refine V.getI fl_X12_280 sh_251 rfl km_251 dX12_text_115 ?_
      refine V.iconst (v := 1) dX12_text_118 rfl ?_
      refine V.iadd dX12_text_119 ?_
      refine V.putI fl_X12_280 rfl (tyX12_ok 7 (by decide)) rfl rfl sh_251 rfl km_251 dX12_text_120 ?_
      refine V.aload_n 0 dX12_text_123 rfl rfl ?_
      refine V.getI fl_X12_280 sh_251 rfl km_251 dX12_text_124 ?_
      refine V.iconst (v := 1) dX12_text_127 rfl ?_
      refine V.isub dX12_text_128 ?_
      cases hF
      exact V.iret dX12_text_129
    · replace hF := (if_neg c).symm.trans hF
      refine V.aload_n 0 dX12_text_76 rfl rfl ?_
      refine V.getR (v := 253) fl_X12_13 sh_251 rfl fx_251_2 (by decide) dX12_text_77 ?_
      refine V.sipush (v := 240) dX12_text_80 (by decide) ?_
      refine V.aload_n 0 dX12_text_83 rfl rfl ?_
      refine V.getI fl_X12_280 sh_251 rfl km_251 dX12_text_84 ?_
      refine V.imul dX12_text_87 ?_
      refine V.iload_n 2 dX12_text_88 rfl rfl ?_
      refine V.iadd dX12_text_89 ?_
      refine V.aload_n 0 dX12_text_90 rfl rfl ?_
      refine V.getR (v := 252) fl_X12_9 sh_251 rfl fx_251_1 (by decide) dX12_text_91 ?_
      refine V.iload_n 2 dX12_text_94 rfl rfl ?_
      obtain ⟨hk, hF⟩ := ck hF
      refine V.bald io_252 hk dX12_text_95 ?_
      obtain ⟨hk, hF⟩ := ck hF
      refine V.bast io_253 hk dX12_text_96 ?_
      refine V.iinc (v := (x3 + (1))) 2 [(3, _), (0, _), (2, _)] dX12_text_97 rfl rfl (by decide) rfl ?_
      refine V.goto (tgt := 71) dX12_text_100 rfl ?_
      exact V.sub [1, 2, 0] rfl (ih _ _ _ hF)
def X12_text_137 (n : Nat) : Nat → Int32 → Mm → Option (Int32 × Mm)
  | 0, _, _ => none
  | f + 1, x3, h => (if (48) ≤ x3 then (if inB (4) (aln 263) then (if inB (h.1 251 30) (aln 263) then (some ((((wI (wI h 263 (h.1 251 30).toNatClampNeg (h.1 263 (4).toNatClampNeg)) 251 30 (((wI h 263 (h.1 251 30).toNatClampNeg (h.1 263 (4).toNatClampNeg)).1 251 30) + (1))).1 251 30) - (1)), (wI (wI h 263 (h.1 251 30).toNatClampNeg (h.1 263 (4).toNatClampNeg)) 251 30 (((wI h 263 (h.1 251 30).toNatClampNeg (h.1 263 (4).toNatClampNeg)).1 251 30) + (1))))) else none) else none) else (if inB ((192) + x3) (aln 262) then (if inB (((48) * (h.1 251 30)) + x3) (aln 262) then ((X12_text_137 n f) (x3 + (1)) (wI h 262 (((48) * (h.1 251 30)) + x3).toNatClampNeg (h.1 262 ((192) + x3).toNatClampNeg))) else none) else none))
set_option maxRecDepth 100000 in
set_option maxHeartbeats 4000000 in
theorem v_X12_text_137 {X : WX} {G : GX} {o : Mm} {n : Nat} {rv : Int32} {hz : Mm} : ∀ (f : Nat) (x3 : Int32) (h : Mm), X12_text_137 n f x3 h = some (rv, hz) → V X G RX12 cX12_text 4 (some .int) 90 0 0 (QR X G false o (some (.int rv)) hz) false o 137 [(0, .ref (xa X 251)), (3, .int x3)] [] h := by
  intro f
  induction f with
  | zero => intro x3 h hF; exact nomatch (show (none : Option (Int32 × Mm)) = some (rv, hz) from hF)
  | succ f ih =>
    intro x3 h hF
    unfold X12_text_137 at hF
    refine V.iload_n 1 dX12_text_137 rfl rfl ?_
    refine V.bipush (v := 48) dX12_text_138 (by decide) ?_
    refine V.icmp_ge (tgt := 173) dX12_text_140 rfl (fun c => ?_) (fun c => ?_)
    · replace hF := (if_pos c).symm.trans hF
      refine V.aload_n 0 dX12_text_173 rfl rfl ?_
      refine V.getR (v := 263) fl_X12_58 sh_251 rfl fx_251_25 (by decide) dX12_text_174 ?_
      refine V.aload_n 0 dX12_text_177 rfl rfl ?_
      refine V.getI fl_X12_283 sh_251 rfl km_251 dX12_text_178 ?_
      refine V.aload_n 0 dX12_text_181 rfl rfl ?_
      refine V.getR (v := 263) fl_X12_58 sh_251 rfl fx_251_25 (by decide) dX12_text_182 ?_
      refine V.iconst (v := 4) dX12_text_185 rfl ?_
      obtain ⟨hk, hF⟩ := ck hF
      refine V.iald io_263 hk dX12_text_186 ?_
      obtain ⟨hk, hF⟩ := ck hF
      refine V.iast io_263 hk dX12_text_187 ?_
      refine V.aload_n 0 dX12_text_188 rfl rfl ?_
      refine V.dup dX12_text_189 rfl ?_
      refine V.getI fl_X12_283 sh_251 rfl km_251 dX12_text_190 ?_
      refine V.iconst (v := 1) dX12_text_193 rfl ?_
      refine V.iadd dX12_text_194 ?_
      refine V.putI fl_X12_283 rfl (tyX12_ok 30 (by decide)) rfl rfl sh_251 rfl km_251 dX12_text_195 ?_
      refine V.aload_n 0 dX12_text_198 rfl rfl ?_
      refine V.getI fl_X12_283 sh_251 rfl km_251 dX12_text_199 ?_
      refine V.iconst (v := 1) dX12_text_202 rfl ?_
      refine V.isub dX12_text_203 ?_
      cases hF
      exact V.iret dX12_text_204
    · replace hF := (if_neg c).symm.trans hF
      refine V.aload_n 0 dX12_text_143 rfl rfl ?_
      refine V.getR (v := 262) fl_X12_55 sh_251 rfl fx_251_24 (by decide) dX12_text_144 ?_
      refine V.bipush (v := 48) dX12_text_147 (by decide) ?_
      refine V.aload_n 0 dX12_text_149 rfl rfl ?_
      refine V.getI fl_X12_283 sh_251 rfl km_251 dX12_text_150 ?_
      refine V.imul dX12_text_153 ?_
      refine V.iload_n 1 dX12_text_154 rfl rfl ?_
      refine V.iadd dX12_text_155 ?_
      refine V.aload_n 0 dX12_text_156 rfl rfl ?_
      refine V.getR (v := 262) fl_X12_55 sh_251 rfl fx_251_24 (by decide) dX12_text_157 ?_
      refine V.sipush (v := 192) dX12_text_160 (by decide) ?_
      refine V.iload_n 1 dX12_text_163 rfl rfl ?_
      refine V.iadd dX12_text_164 ?_
      obtain ⟨hk, hF⟩ := ck hF
      refine V.iald io_262 hk dX12_text_165 ?_
      obtain ⟨hk, hF⟩ := ck hF
      refine V.iast io_262 hk dX12_text_166 ?_
      refine V.iinc (v := (x3 + (1))) 1 [(3, _), (0, _)] dX12_text_167 rfl rfl (by decide) rfl ?_
      refine V.goto (tgt := 137) dX12_text_170 rfl ?_
      exact V.sub [1, 0] rfl (ih _ _ hF)
def X12_text_322 (n : Nat) : Nat → Int32 → Mm → Option (Int32 × Mm)
  | 0, _, _ => none
  | f + 1, x3, h => (if (h.1 251 27) ≤ x3 then (if inB (0) (aln 256) then (if inB (22) (aln 264) then (some (((wI (wI (wI (wI h 264 (22).toNatClampNeg (h.1 256 (0).toNatClampNeg)) 251 47 (0)) 251 39 (0)) 251 50 (0)).1 251 27), (wI (wI (wI (wI h 264 (22).toNatClampNeg (h.1 256 (0).toNatClampNeg)) 251 47 (0)) 251 39 (0)) 251 50 (0)))) else none) else none) else (if inB (((3) * x3) + (2)) (aln 260) then (if inB (((3) * x3) + (1)) (aln 264) then ((X12_text_322 n f) (x3 + (1)) (wI h 264 (((3) * x3) + (1)).toNatClampNeg (h.1 260 (((3) * x3) + (2)).toNatClampNeg))) else none) else none))
set_option maxRecDepth 100000 in
set_option maxHeartbeats 4000000 in
theorem v_X12_text_322 {X : WX} {G : GX} {o : Mm} {n : Nat} {rv : Int32} {hz : Mm} : ∀ (f : Nat) (x3 : Int32) (h : Mm), X12_text_322 n f x3 h = some (rv, hz) → V X G RX12 cX12_text 4 (some .int) 90 0 0 (QR X G false o (some (.int rv)) hz) false o 322 [(0, .ref (xa X 251)), (3, .int x3)] [] h := by
  intro f
  induction f with
  | zero => intro x3 h hF; exact nomatch (show (none : Option (Int32 × Mm)) = some (rv, hz) from hF)
  | succ f ih =>
    intro x3 h hF
    unfold X12_text_322 at hF
    refine V.iload_n 1 dX12_text_322 rfl rfl ?_
    refine V.aload_n 0 dX12_text_323 rfl rfl ?_
    refine V.getI fl_X12_291 sh_251 rfl km_251 dX12_text_324 ?_
    refine V.icmp_ge (tgt := 356) dX12_text_327 rfl (fun c => ?_) (fun c => ?_)
    · replace hF := (if_pos c).symm.trans hF
      refine V.aload_n 0 dX12_text_356 rfl rfl ?_
      refine V.getR (v := 264) fl_X12_61 sh_251 rfl fx_251_32 (by decide) dX12_text_357 ?_
      refine V.bipush (v := 22) dX12_text_360 (by decide) ?_
      refine V.aload_n 0 dX12_text_362 rfl rfl ?_
      refine V.getR (v := 256) fl_X12_37 sh_251 rfl fx_251_18 (by decide) dX12_text_363 ?_
      refine V.iconst (v := 0) dX12_text_366 rfl ?_
      obtain ⟨hk, hF⟩ := ck hF
      refine V.iald io_256 hk dX12_text_367 ?_
      obtain ⟨hk, hF⟩ := ck hF
      refine V.iast io_264 hk dX12_text_368 ?_
      refine V.aload_n 0 dX12_text_369 rfl rfl ?_
      refine V.iconst (v := 0) dX12_text_370 rfl ?_
      refine V.putI fl_X12_294 rfl (tyX12_ok 47 (by decide)) rfl rfl sh_251 rfl km_251 dX12_text_371 ?_
      refine V.aload_n 0 dX12_text_374 rfl rfl ?_
      refine V.iconst (v := 0) dX12_text_375 rfl ?_
      refine V.putI fl_X12_297 rfl (tyX12_ok 39 (by decide)) rfl rfl sh_251 rfl km_251 dX12_text_376 ?_
      refine V.aload_n 0 dX12_text_379 rfl rfl ?_
      refine V.iconst (v := 0) dX12_text_380 rfl ?_
      refine V.putI fl_X12_300 rfl (tyX12_ok 50 (by decide)) rfl rfl sh_251 rfl km_251 dX12_text_381 ?_
      refine V.aload_n 0 dX12_text_384 rfl rfl ?_
      refine V.getI fl_X12_291 sh_251 rfl km_251 dX12_text_385 ?_
      cases hF
      exact V.iret dX12_text_388
    · replace hF := (if_neg c).symm.trans hF
      refine V.aload_n 0 dX12_text_330 rfl rfl ?_
      refine V.getR (v := 264) fl_X12_61 sh_251 rfl fx_251_32 (by decide) dX12_text_331 ?_
      refine V.iconst (v := 3) dX12_text_334 rfl ?_
      refine V.iload_n 1 dX12_text_335 rfl rfl ?_
      refine V.imul dX12_text_336 ?_
      refine V.iconst (v := 1) dX12_text_337 rfl ?_
      refine V.iadd dX12_text_338 ?_
      refine V.aload_n 0 dX12_text_339 rfl rfl ?_
      refine V.getR (v := 260) fl_X12_49 sh_251 rfl fx_251_22 (by decide) dX12_text_340 ?_
      refine V.iconst (v := 3) dX12_text_343 rfl ?_
      refine V.iload_n 1 dX12_text_344 rfl rfl ?_
      refine V.imul dX12_text_345 ?_
      refine V.iconst (v := 2) dX12_text_346 rfl ?_
      refine V.iadd dX12_text_347 ?_
      obtain ⟨hk, hF⟩ := ck hF
      refine V.iald io_260 hk dX12_text_348 ?_
      obtain ⟨hk, hF⟩ := ck hF
      refine V.iast io_264 hk dX12_text_349 ?_
      refine V.iinc (v := (x3 + (1))) 1 [(3, _), (0, _)] dX12_text_350 rfl rfl (by decide) rfl ?_
      refine V.goto (tgt := 322) dX12_text_353 rfl ?_
      exact V.sub [1, 0] rfl (ih _ _ hF)
def X12_text_300 (n : Nat) : Nat → Int32 → Mm → Option (Int32 × Mm)
  | 0, _, _ => none
  | f + 1, x3, h => (if (211) ≤ x3 then (X12_text_322 n n (0) h) else (if inB x3 (aln 264) then ((X12_text_300 n f) (x3 + (1)) (wI h 264 x3.toNatClampNeg (0))) else none))
set_option maxRecDepth 100000 in
set_option maxHeartbeats 4000000 in
theorem v_X12_text_300 {X : WX} {G : GX} {o : Mm} {n : Nat} {rv : Int32} {hz : Mm} : ∀ (f : Nat) (x3 : Int32) (h : Mm), X12_text_300 n f x3 h = some (rv, hz) → V X G RX12 cX12_text 4 (some .int) 90 0 0 (QR X G false o (some (.int rv)) hz) false o 300 [(0, .ref (xa X 251)), (3, .int x3)] [] h := by
  intro f
  induction f with
  | zero => intro x3 h hF; exact nomatch (show (none : Option (Int32 × Mm)) = some (rv, hz) from hF)
  | succ f ih =>
    intro x3 h hF
    unfold X12_text_300 at hF
    refine V.iload_n 1 dX12_text_300 rfl rfl ?_
    refine V.sipush (v := 211) dX12_text_301 (by decide) ?_
    refine V.icmp_ge (tgt := 320) dX12_text_304 rfl (fun c => ?_) (fun c => ?_)
    · replace hF := (if_pos c).symm.trans hF
      refine V.iconst (v := 0) dX12_text_320 rfl ?_
      refine V.istore_n [(3, _), (0, _)] dX12_text_321 rfl (by decide) rfl ?_
      exact V.sub [1, 0] rfl (v_X12_text_322 n _ _ hF)
    · replace hF := (if_neg c).symm.trans hF
      refine V.aload_n 0 dX12_text_307 rfl rfl ?_
      refine V.getR (v := 264) fl_X12_61 sh_251 rfl fx_251_32 (by decide) dX12_text_308 ?_
      refine V.iload_n 1 dX12_text_311 rfl rfl ?_
      refine V.iconst (v := 0) dX12_text_312 rfl ?_
      obtain ⟨hk, hF⟩ := ck hF
      refine V.iast io_264 hk dX12_text_313 ?_
      refine V.iinc (v := (x3 + (1))) 1 [(3, _), (0, _)] dX12_text_314 rfl rfl (by decide) rfl ?_
      refine V.goto (tgt := 300) dX12_text_317 rfl ?_
      exact V.sub [1, 0] rfl (ih _ _ hF)
def X12_text_274 (n : Nat) : Nat → Int32 → Mm → Option (Int32 × Mm)
  | 0, _, _ => none
  | f + 1, x3, h => (if (18) ≤ x3 then (X12_text_300 n n (0) h) else (if inB x3 (aln 261) then (if inB x3 (aln 260) then ((X12_text_274 n f) (x3 + (1)) (wI h 260 x3.toNatClampNeg (h.1 261 x3.toNatClampNeg))) else none) else none))
set_option maxRecDepth 100000 in
set_option maxHeartbeats 4000000 in
theorem v_X12_text_274 {X : WX} {G : GX} {o : Mm} {n : Nat} {rv : Int32} {hz : Mm} : ∀ (f : Nat) (x3 : Int32) (h : Mm), X12_text_274 n f x3 h = some (rv, hz) → V X G RX12 cX12_text 4 (some .int) 90 0 0 (QR X G false o (some (.int rv)) hz) false o 274 [(0, .ref (xa X 251)), (3, .int x3)] [] h := by
  intro f
  induction f with
  | zero => intro x3 h hF; exact nomatch (show (none : Option (Int32 × Mm)) = some (rv, hz) from hF)
  | succ f ih =>
    intro x3 h hF
    unfold X12_text_274 at hF
    refine V.iload_n 1 dX12_text_274 rfl rfl ?_
    refine V.bipush (v := 18) dX12_text_275 (by decide) ?_
    refine V.icmp_ge (tgt := 298) dX12_text_277 rfl (fun c => ?_) (fun c => ?_)
    · replace hF := (if_pos c).symm.trans hF
      refine V.iconst (v := 0) dX12_text_298 rfl ?_
      refine V.istore_n [(3, _), (0, _)] dX12_text_299 rfl (by decide) rfl ?_
      exact V.sub [1, 0] rfl (v_X12_text_300 n _ _ hF)
    · replace hF := (if_neg c).symm.trans hF
      refine V.aload_n 0 dX12_text_280 rfl rfl ?_
      refine V.getR (v := 260) fl_X12_49 sh_251 rfl fx_251_22 (by decide) dX12_text_281 ?_
      refine V.iload_n 1 dX12_text_284 rfl rfl ?_
      refine V.aload_n 0 dX12_text_285 rfl rfl ?_
      refine V.getR (v := 261) fl_X12_52 sh_251 rfl fx_251_23 (by decide) dX12_text_286 ?_
      refine V.iload_n 1 dX12_text_289 rfl rfl ?_
      obtain ⟨hk, hF⟩ := ck hF
      refine V.iald io_261 hk dX12_text_290 ?_
      obtain ⟨hk, hF⟩ := ck hF
      refine V.iast io_260 hk dX12_text_291 ?_
      refine V.iinc (v := (x3 + (1))) 1 [(3, _), (0, _)] dX12_text_292 rfl rfl (by decide) rfl ?_
      refine V.goto (tgt := 274) dX12_text_295 rfl ?_
      exact V.sub [1, 0] rfl (ih _ _ hF)
def X12_text_248 (n : Nat) : Nat → Int32 → Mm → Option (Int32 × Mm)
  | 0, _, _ => none
  | f + 1, x3, h => (if (18) ≤ x3 then (X12_text_274 n n (0) h) else (if inB x3 (aln 259) then (if inB x3 (aln 258) then ((X12_text_248 n f) (x3 + (1)) (wI h 258 x3.toNatClampNeg (h.1 259 x3.toNatClampNeg))) else none) else none))
set_option maxRecDepth 100000 in
set_option maxHeartbeats 4000000 in
theorem v_X12_text_248 {X : WX} {G : GX} {o : Mm} {n : Nat} {rv : Int32} {hz : Mm} : ∀ (f : Nat) (x3 : Int32) (h : Mm), X12_text_248 n f x3 h = some (rv, hz) → V X G RX12 cX12_text 4 (some .int) 90 0 0 (QR X G false o (some (.int rv)) hz) false o 248 [(0, .ref (xa X 251)), (3, .int x3)] [] h := by
  intro f
  induction f with
  | zero => intro x3 h hF; exact nomatch (show (none : Option (Int32 × Mm)) = some (rv, hz) from hF)
  | succ f ih =>
    intro x3 h hF
    unfold X12_text_248 at hF
    refine V.iload_n 1 dX12_text_248 rfl rfl ?_
    refine V.bipush (v := 18) dX12_text_249 (by decide) ?_
    refine V.icmp_ge (tgt := 272) dX12_text_251 rfl (fun c => ?_) (fun c => ?_)
    · replace hF := (if_pos c).symm.trans hF
      refine V.iconst (v := 0) dX12_text_272 rfl ?_
      refine V.istore_n [(3, _), (0, _)] dX12_text_273 rfl (by decide) rfl ?_
      exact V.sub [1, 0] rfl (v_X12_text_274 n _ _ hF)
    · replace hF := (if_neg c).symm.trans hF
      refine V.aload_n 0 dX12_text_254 rfl rfl ?_
      refine V.getR (v := 258) fl_X12_43 sh_251 rfl fx_251_20 (by decide) dX12_text_255 ?_
      refine V.iload_n 1 dX12_text_258 rfl rfl ?_
      refine V.aload_n 0 dX12_text_259 rfl rfl ?_
      refine V.getR (v := 259) fl_X12_46 sh_251 rfl fx_251_21 (by decide) dX12_text_260 ?_
      refine V.iload_n 1 dX12_text_263 rfl rfl ?_
      obtain ⟨hk, hF⟩ := ck hF
      refine V.iald io_259 hk dX12_text_264 ?_
      obtain ⟨hk, hF⟩ := ck hF
      refine V.iast io_258 hk dX12_text_265 ?_
      refine V.iinc (v := (x3 + (1))) 1 [(3, _), (0, _)] dX12_text_266 rfl rfl (by decide) rfl ?_
      refine V.goto (tgt := 248) dX12_text_269 rfl ?_
      exact V.sub [1, 0] rfl (ih _ _ hF)
def X12_text_223 (n : Nat) : Nat → Int32 → Mm → Option (Int32 × Mm)
  | 0, _, _ => none
  | f + 1, x3, h => (if (3) ≤ x3 then (X12_text_248 n n (0) h) else (if inB x3 (aln 257) then (if inB x3 (aln 256) then ((X12_text_223 n f) (x3 + (1)) (wI h 256 x3.toNatClampNeg (h.1 257 x3.toNatClampNeg))) else none) else none))
set_option maxRecDepth 100000 in
set_option maxHeartbeats 4000000 in
theorem v_X12_text_223 {X : WX} {G : GX} {o : Mm} {n : Nat} {rv : Int32} {hz : Mm} : ∀ (f : Nat) (x3 : Int32) (h : Mm), X12_text_223 n f x3 h = some (rv, hz) → V X G RX12 cX12_text 4 (some .int) 90 0 0 (QR X G false o (some (.int rv)) hz) false o 223 [(0, .ref (xa X 251)), (3, .int x3)] [] h := by
  intro f
  induction f with
  | zero => intro x3 h hF; exact nomatch (show (none : Option (Int32 × Mm)) = some (rv, hz) from hF)
  | succ f ih =>
    intro x3 h hF
    unfold X12_text_223 at hF
    refine V.iload_n 1 dX12_text_223 rfl rfl ?_
    refine V.iconst (v := 3) dX12_text_224 rfl ?_
    refine V.icmp_ge (tgt := 246) dX12_text_225 rfl (fun c => ?_) (fun c => ?_)
    · replace hF := (if_pos c).symm.trans hF
      refine V.iconst (v := 0) dX12_text_246 rfl ?_
      refine V.istore_n [(3, _), (0, _)] dX12_text_247 rfl (by decide) rfl ?_
      exact V.sub [1, 0] rfl (v_X12_text_248 n _ _ hF)
    · replace hF := (if_neg c).symm.trans hF
      refine V.aload_n 0 dX12_text_228 rfl rfl ?_
      refine V.getR (v := 256) fl_X12_37 sh_251 rfl fx_251_18 (by decide) dX12_text_229 ?_
      refine V.iload_n 1 dX12_text_232 rfl rfl ?_
      refine V.aload_n 0 dX12_text_233 rfl rfl ?_
      refine V.getR (v := 257) fl_X12_40 sh_251 rfl fx_251_19 (by decide) dX12_text_234 ?_
      refine V.iload_n 1 dX12_text_237 rfl rfl ?_
      obtain ⟨hk, hF⟩ := ck hF
      refine V.iald io_257 hk dX12_text_238 ?_
      obtain ⟨hk, hF⟩ := ck hF
      refine V.iast io_256 hk dX12_text_239 ?_
      refine V.iinc (v := (x3 + (1))) 1 [(3, _), (0, _)] dX12_text_240 rfl rfl (by decide) rfl ?_
      refine V.goto (tgt := 223) dX12_text_243 rfl ?_
      exact V.sub [1, 0] rfl (ih _ _ hF)
def X12_text_43 (n : Nat) (x1 : Int32) (h : Mm) : Option (Int32 × Mm) := (bd (X12_fault n x1 h) (fun r38 h40 => (if r38 = (-1) then (if x1 = (1) then (X12_text_71 n n (h40.1 251 6) (0) (wI h40 251 6 (0))) else (if x1 = (2) then (X12_text_137 n n (0) (wI h40 251 6 (0))) else (X12_text_223 n n (0) (wI (wI (wI h40 251 6 (0)) 251 26 ((wI h40 251 6 (0)).1 251 28)) 251 27 ((wI (wI h40 251 6 (0)) 251 26 ((wI h40 251 6 (0)).1 251 28)).1 251 29))))) else (some ((-1), h40)))))
set_option maxRecDepth 100000 in
set_option maxHeartbeats 4000000 in
theorem v_X12_text_43 {X : WX} {G : GX} {o : Mm} {n : Nat} {rv : Int32} {hz : Mm} {x1 : Int32} {h : Mm} (hF : X12_text_43 n x1 h = some (rv, hz)) : V X G RX12 cX12_text 4 (some .int) 90 0 0 (QR X G false o (some (.int rv)) hz) false o 43 [(0, .ref (xa X 251)), (1, .int x1)] [] h := by
  unfold X12_text_43 at hF
  refine V.aload_n 0 dX12_text_43 rfl rfl ?_
  refine V.iload_n 1 dX12_text_44 rfl rfl ?_
  obtain ⟨r38, h40, hc39, hF⟩ := bd_s hF
  refine V.callVi mf_X12_fault ml_X12_286 sh_251 (s_X12_fault hc39) (by decide) rfl rfl (Nat.le_of_ble_eq_true rfl) dX12_text_45 ?_
  refine V.iconst (v := -1) dX12_text_48 rfl ?_
  refine V.icmp_eq (tgt := 54) dX12_text_49 rfl (fun c => ?_) (fun c => ?_)
  · replace hF := (if_pos c).symm.trans hF
    refine V.aload_n 0 dX12_text_54 rfl rfl ?_
    refine V.getI fl_X12_106 sh_251 rfl km_251 dX12_text_55 ?_
    refine V.istore_n [(2, _), (0, _), (1, _)] dX12_text_58 rfl (by decide) rfl ?_
    refine V.aload_n 1 dX12_text_59 rfl rfl ?_
    refine V.iconst (v := 0) dX12_text_60 rfl ?_
    refine V.putI fl_X12_106 rfl (tyX12_ok 6 (by decide)) rfl rfl sh_251 rfl km_251 dX12_text_61 ?_
    refine V.iload_n 2 dX12_text_64 rfl rfl ?_
    refine V.iconst (v := 1) dX12_text_65 rfl ?_
    refine V.icmp_ne (tgt := 130) dX12_text_66 rfl (fun c => ?_) (fun c => ?_)
    · replace hF := (if_neg c).symm.trans hF
      refine V.iload_n 2 dX12_text_130 rfl rfl ?_
      refine V.iconst (v := 2) dX12_text_131 rfl ?_
      refine V.icmp_ne (tgt := 205) dX12_text_132 rfl (fun c => ?_) (fun c => ?_)
      · replace hF := (if_neg c).symm.trans hF
        refine V.aload_n 1 dX12_text_205 rfl rfl ?_
        refine V.aload_n 1 dX12_text_206 rfl rfl ?_
        refine V.getI fl_X12_242 sh_251 rfl km_251 dX12_text_207 ?_
        refine V.putI fl_X12_288 rfl (tyX12_ok 26 (by decide)) rfl rfl sh_251 rfl km_251 dX12_text_210 ?_
        refine V.aload_n 1 dX12_text_213 rfl rfl ?_
        refine V.aload_n 1 dX12_text_214 rfl rfl ?_
        refine V.getI fl_X12_245 sh_251 rfl km_251 dX12_text_215 ?_
        refine V.putI fl_X12_291 rfl (tyX12_ok 27 (by decide)) rfl rfl sh_251 rfl km_251 dX12_text_218 ?_
        refine V.iconst (v := 0) dX12_text_221 rfl ?_
        refine V.istore_n [(3, _), (2, _), (0, _), (1, _)] dX12_text_222 rfl (by decide) rfl ?_
        exact V.sub [2, 0] rfl (v_X12_text_223 n _ _ hF)
      · replace hF := (if_pos c).symm.trans hF
        refine V.iconst (v := 0) dX12_text_135 rfl ?_
        refine V.istore_n [(3, _), (2, _), (0, _), (1, _)] dX12_text_136 rfl (by decide) rfl ?_
        exact V.sub [2, 0] rfl (v_X12_text_137 n _ _ hF)
    · replace hF := (if_pos c).symm.trans hF
      refine V.iconst (v := 0) dX12_text_69 rfl ?_
      refine V.istore_n [(3, _), (2, _), (0, _), (1, _)] dX12_text_70 rfl (by decide) rfl ?_
      exact V.sub [2, 1, 0] rfl (v_X12_text_71 n _ _ _ hF)
  · replace hF := (if_neg c).symm.trans hF
    refine V.iconst (v := -1) dX12_text_52 rfl ?_
    cases hF
    exact V.iret dX12_text_53
def X12_text_30 (n : Nat) (x1 : Int32) (h : Mm) : Option (Int32 × Mm) := (if x1 = (2) then (if (h.1 251 30) = (4) then (some ((-1), h)) else (X12_text_43 n x1 h)) else (X12_text_43 n x1 h))
set_option maxRecDepth 100000 in
set_option maxHeartbeats 4000000 in
theorem v_X12_text_30 {X : WX} {G : GX} {o : Mm} {n : Nat} {rv : Int32} {hz : Mm} {x1 : Int32} {h : Mm} (hF : X12_text_30 n x1 h = some (rv, hz)) : V X G RX12 cX12_text 4 (some .int) 90 0 0 (QR X G false o (some (.int rv)) hz) false o 30 [(0, .ref (xa X 251)), (1, .int x1)] [] h := by
  unfold X12_text_30 at hF
  refine V.iload_n 1 dX12_text_30 rfl rfl ?_
  refine V.iconst (v := 2) dX12_text_31 rfl ?_
  refine V.icmp_ne (tgt := 43) dX12_text_32 rfl (fun c => ?_) (fun c => ?_)
  · replace hF := (if_neg c).symm.trans hF
    exact (v_X12_text_43 hF)
  · replace hF := (if_pos c).symm.trans hF
    refine V.aload_n 0 dX12_text_35 rfl rfl ?_
    refine V.getI fl_X12_283 sh_251 rfl km_251 dX12_text_36 ?_
    refine V.iconst (v := 4) dX12_text_39 rfl ?_
    refine V.icmp_eq (tgt := 52) dX12_text_40 rfl (fun c => ?_) (fun c => ?_)
    · replace hF := (if_pos c).symm.trans hF
      refine V.iconst (v := -1) dX12_text_52 rfl ?_
      cases hF
      exact V.iret dX12_text_53
    · replace hF := (if_neg c).symm.trans hF
      exact (v_X12_text_43 hF)
def X12_text (n : Nat) (x1 : Int32) (h : Mm) : Option (Int32 × Mm) := (bp (X12_isIn x1.toInt64 (0 : Int64) (2 : Int64) (wI h 251 0 (0))) (fun r41 => (if r41 = true then (if x1 = (1) then (if ((wI h 251 0 (0)).1 251 7) = (4) then (some ((-1), (wI h 251 0 (0)))) else (X12_text_30 n x1 (wI h 251 0 (0)))) else (X12_text_30 n x1 (wI h 251 0 (0)))) else (some ((-1), (wI h 251 0 (0)))))))
set_option maxRecDepth 100000 in
set_option maxHeartbeats 4000000 in
theorem s_X12_text {X : WX} {o : Mm} {n : Nat} {x1 : Int32} {rv : Int32} {hz : Mm} {h : Mm} (hF : X12_text n x1 h = some (rv, hz)) : Sat X yX12_text cX12_text 4 (some .int) 90 [.ref (xa X 251), .int x1] false o h (some (.int rv)) hz := by
  unfold X12_text at hF
  refine Sat.mk (own := RX12) rfl (by decide +kernel) (Nat.le_of_ble_eq_true rfl) (fun G => ?_)
  refine V.sub (lv2 := [(0, _), (1, _)]) [0, 1] rfl ?_
  refine V.aload_n 0 dX12_text_0 rfl rfl ?_
  refine V.iconst (v := 0) dX12_text_1 rfl ?_
  refine V.putI fl_X12_93 rfl (tyX12_ok 0 (by decide)) rfl rfl sh_251 rfl km_251 dX12_text_2 ?_
  refine V.iload_n 1 dX12_text_5 rfl rfl ?_
  refine V.i2l dX12_text_6 ?_
  refine V.lconst (v := 0) dX12_text_7 rfl ?_
  refine V.ldc2 (v := 2) dX12_text_8 kc_X12_269 ?_
  obtain ⟨r41, hc42, hF⟩ := bp_s hF
  refine V.callSi mf_X12_isIn ml_X12_214 (s_X12_isIn hc42) (by decide) rfl rfl (Nat.le_of_ble_eq_true rfl) dX12_text_11 ?_
  refine V.ifz_eq (tgt := 52) dX12_text_14 rfl (fun c => ?_) (fun c => ?_)
  · replace hF := (if_neg c).symm.trans hF
    refine V.iconst (v := -1) dX12_text_52 rfl ?_
    cases hF
    exact V.iret dX12_text_53
  · replace hF := (if_pos c).symm.trans hF
    refine V.iload_n 1 dX12_text_17 rfl rfl ?_
    refine V.iconst (v := 1) dX12_text_18 rfl ?_
    refine V.icmp_ne (tgt := 30) dX12_text_19 rfl (fun c => ?_) (fun c => ?_)
    · replace hF := (if_neg c).symm.trans hF
      exact (v_X12_text_30 hF)
    · replace hF := (if_pos c).symm.trans hF
      refine V.aload_n 0 dX12_text_22 rfl rfl ?_
      refine V.getI fl_X12_280 sh_251 rfl km_251 dX12_text_23 ?_
      refine V.iconst (v := 4) dX12_text_26 rfl ?_
      refine V.icmp_eq (tgt := 52) dX12_text_27 rfl (fun c => ?_) (fun c => ?_)
      · replace hF := (if_pos c).symm.trans hF
        refine V.iconst (v := -1) dX12_text_52 rfl ?_
        cases hF
        exact V.iret dX12_text_53
      · replace hF := (if_neg c).symm.trans hF
        exact (v_X12_text_30 hF)
/-! MonsterCotModel.copy -/
theorem dX12_copy_0 : decode cX12_copy 0 = .ok (.iconst 0, 1) := by decide +kernel
theorem dX12_copy_1 : decode cX12_copy 1 = .ok (.istore_n 2, 1) := by decide +kernel
theorem dX12_copy_2 : decode cX12_copy 2 = .ok (.iload_n 2, 1) := by decide +kernel
theorem dX12_copy_3 : decode cX12_copy 3 = .ok (.bipush 30, 2) := by decide +kernel
theorem dX12_copy_5 : decode cX12_copy 5 = .ok (.if_icmp .ge 15, 3) := by decide +kernel
theorem dX12_copy_8 : decode cX12_copy 8 = .ok (.aload_n 1, 1) := by decide +kernel
theorem dX12_copy_9 : decode cX12_copy 9 = .ok (.iload_n 2, 1) := by decide +kernel
theorem dX12_copy_10 : decode cX12_copy 10 = .ok (.aload_n 0, 1) := by decide +kernel
theorem dX12_copy_11 : decode cX12_copy 11 = .ok (.iload_n 2, 1) := by decide +kernel
theorem dX12_copy_12 : decode cX12_copy 12 = .ok (.iaload, 1) := by decide +kernel
theorem dX12_copy_13 : decode cX12_copy 13 = .ok (.iastore, 1) := by decide +kernel
theorem dX12_copy_14 : decode cX12_copy 14 = .ok (.iinc 2 1, 3) := by decide +kernel
theorem dX12_copy_17 : decode cX12_copy 17 = .ok (.goto (-15), 3) := by decide +kernel
theorem dX12_copy_20 : decode cX12_copy 20 = .ok (.aload_n 1, 1) := by decide +kernel
theorem dX12_copy_21 : decode cX12_copy 21 = .ok (.bipush 30, 2) := by decide +kernel
theorem dX12_copy_23 : decode cX12_copy 23 = .ok (.iconst 0, 1) := by decide +kernel
theorem dX12_copy_24 : decode cX12_copy 24 = .ok (.iastore, 1) := by decide +kernel
theorem dX12_copy_25 : decode cX12_copy 25 = .ok (.return_, 1) := by decide +kernel
def X12_copy_2 (n : Nat) (a0 : Nat) (a1 : Nat) : Nat → Int32 → Mm → Option (Unit × Mm)
  | 0, _, _ => none
  | f + 1, x2, h => (if (30) ≤ x2 then (if inB (30) (aln a1) then (some ((), (wI h a1 (30).toNatClampNeg (0)))) else none) else (if inB x2 (aln a0) then (if inB x2 (aln a1) then ((X12_copy_2 n a0 a1 f) (x2 + (1)) (wI h a1 x2.toNatClampNeg (h.1 a0 x2.toNatClampNeg))) else none) else none))
set_option maxRecDepth 100000 in
set_option maxHeartbeats 4000000 in
theorem v_X12_copy_2 {X : WX} {G : GX} {o : Mm} {n : Nat} {a0 : Nat} {a1 : Nat} {rv : Unit} {hz : Mm} (ha0 : isO false 0 a0) (ha1 : isO false 0 a1) : ∀ (f : Nat) (x2 : Int32) (h : Mm), X12_copy_2 n a0 a1 f x2 h = some (rv, hz) → V X G RX12 cX12_copy 3 (none) 1 0 0 (QR X G false o none hz) false o 2 [(0, .ref (xa X a0)), (1, .ref (xa X a1)), (2, .int x2)] [] h := by
  intro f
  induction f with
  | zero => intro x2 h hF; exact nomatch (show (none : Option (Unit × Mm)) = some (rv, hz) from hF)
  | succ f ih =>
    intro x2 h hF
    unfold X12_copy_2 at hF
    refine V.iload_n 2 dX12_copy_2 rfl rfl ?_
    refine V.bipush (v := 30) dX12_copy_3 (by decide) ?_
    refine V.icmp_ge (tgt := 20) dX12_copy_5 rfl (fun c => ?_) (fun c => ?_)
    · replace hF := (if_pos c).symm.trans hF
      refine V.aload_n 1 dX12_copy_20 rfl rfl ?_
      refine V.bipush (v := 30) dX12_copy_21 (by decide) ?_
      refine V.iconst (v := 0) dX12_copy_23 rfl ?_
      obtain ⟨hk, hF⟩ := ck hF
      refine V.iast ha1 hk dX12_copy_24 ?_
      cases hF
      exact V.vret dX12_copy_25
    · replace hF := (if_neg c).symm.trans hF
      refine V.aload_n 1 dX12_copy_8 rfl rfl ?_
      refine V.iload_n 2 dX12_copy_9 rfl rfl ?_
      refine V.aload_n 0 dX12_copy_10 rfl rfl ?_
      refine V.iload_n 2 dX12_copy_11 rfl rfl ?_
      obtain ⟨hk, hF⟩ := ck hF
      refine V.iald ha0 hk dX12_copy_12 ?_
      obtain ⟨hk, hF⟩ := ck hF
      refine V.iast ha1 hk dX12_copy_13 ?_
      refine V.iinc (v := (x2 + (1))) 2 [(2, _), (0, _), (1, _)] dX12_copy_14 rfl rfl (by decide) rfl ?_
      refine V.goto (tgt := 2) dX12_copy_17 rfl ?_
      exact V.sub [1, 2, 0] rfl (ih _ _ hF)
def X12_copy (n : Nat) (a0 : Nat) (a1 : Nat) (h : Mm) : Option (Unit × Mm) := (X12_copy_2 n a0 a1 n (0) h)
set_option maxRecDepth 100000 in
set_option maxHeartbeats 4000000 in
theorem s_X12_copy {X : WX} {o : Mm} {n : Nat} {a0 : Nat} {a1 : Nat} {rv : Unit} {hz : Mm} {h : Mm} (ha0 : isO false 0 a0) (ha1 : isO false 0 a1) (hF : X12_copy n a0 a1 h = some (rv, hz)) : Sat X yX12_copy cX12_copy 3 (none) 1 [.ref (xa X a0), .ref (xa X a1)] false o h none hz := by
  unfold X12_copy at hF
  refine Sat.mk (own := RX12) rfl (by decide +kernel) (Nat.le_of_ble_eq_true rfl) (fun G => ?_)
  refine V.sub (lv2 := [(0, _), (1, _)]) [0, 1] rfl ?_
  refine V.iconst (v := 0) dX12_copy_0 rfl ?_
  refine V.istore_n [(2, _), (0, _), (1, _)] dX12_copy_1 rfl (by decide) rfl ?_
  exact V.sub [1, 2, 0] rfl (v_X12_copy_2 ha0 ha1 n _ _ hF)
/-! MonsterCotModel.isBook -/
theorem dX12_isBook_0 : decode cX12_isBook 0 = .ok (.iload_n 1, 1) := by decide +kernel
theorem dX12_isBook_1 : decode cX12_isBook 1 = .ok (.ifCond .lt 15, 3) := by decide +kernel
theorem dX12_isBook_4 : decode cX12_isBook 4 = .ok (.iload_n 1, 1) := by decide +kernel
theorem dX12_isBook_5 : decode cX12_isBook 5 = .ok (.aload_n 0, 1) := by decide +kernel
theorem dX12_isBook_6 : decode cX12_isBook 6 = .ok (.getfield 288, 3) := by decide +kernel
theorem dX12_isBook_9 : decode cX12_isBook 9 = .ok (.if_icmp .ge 7, 3) := by decide +kernel
theorem dX12_isBook_12 : decode cX12_isBook 12 = .ok (.iconst 1, 1) := by decide +kernel
theorem dX12_isBook_13 : decode cX12_isBook 13 = .ok (.goto 4, 3) := by decide +kernel
theorem dX12_isBook_16 : decode cX12_isBook 16 = .ok (.iconst 0, 1) := by decide +kernel
theorem dX12_isBook_17 : decode cX12_isBook 17 = .ok (.ireturn, 1) := by decide +kernel
def X12_isBook (x1 : Int32) (h : Mm) : Option Bool := (if x1 < 0 then (some false) else (if (h.1 251 26) ≤ x1 then (some false) else (some true)))
set_option maxRecDepth 100000 in
set_option maxHeartbeats 4000000 in
theorem s_X12_isBook {X : WX} {o : Mm} {x1 : Int32} {rv : Bool} {h : Mm} (hF : X12_isBook x1 h = some rv) : Sat X yX12_isBook cX12_isBook 2 (some .boolean) 1 [.ref (xa X 251), .int x1] false o h (some (.int (b2i rv))) h := by
  unfold X12_isBook at hF
  refine Sat.mk (own := RX12) rfl (by decide +kernel) (Nat.le_of_ble_eq_true rfl) (fun G => ?_)
  refine V.sub (lv2 := [(0, _), (1, _)]) [0, 1] rfl ?_
  refine V.iload_n 1 dX12_isBook_0 rfl rfl ?_
  refine V.if_lt (tgt := 16) dX12_isBook_1 rfl (fun c => ?_) (fun c => ?_)
  · replace hF := (if_pos c).symm.trans hF
    refine V.iconst (v := 0) dX12_isBook_16 rfl ?_
    cases hF
    exact V.bret dX12_isBook_17
  · replace hF := (if_neg c).symm.trans hF
    refine V.iload_n 1 dX12_isBook_4 rfl rfl ?_
    refine V.aload_n 0 dX12_isBook_5 rfl rfl ?_
    refine V.getI fl_X12_288 sh_251 rfl km_251 dX12_isBook_6 ?_
    refine V.icmp_ge (tgt := 16) dX12_isBook_9 rfl (fun c => ?_) (fun c => ?_)
    · replace hF := (if_pos c).symm.trans hF
      refine V.iconst (v := 0) dX12_isBook_16 rfl ?_
      cases hF
      exact V.bret dX12_isBook_17
    · replace hF := (if_neg c).symm.trans hF
      refine V.iconst (v := 1) dX12_isBook_12 rfl ?_
      refine V.goto (tgt := 17) dX12_isBook_13 rfl ?_
      cases hF
      exact V.bret dX12_isBook_17
/-! MonsterCotModel.isHouse -/
theorem dX12_isHouse_0 : decode cX12_isHouse 0 = .ok (.iload_n 1, 1) := by decide +kernel
theorem dX12_isHouse_1 : decode cX12_isHouse 1 = .ok (.ifCond .lt 15, 3) := by decide +kernel
theorem dX12_isHouse_4 : decode cX12_isHouse 4 = .ok (.iload_n 1, 1) := by decide +kernel
theorem dX12_isHouse_5 : decode cX12_isHouse 5 = .ok (.aload_n 0, 1) := by decide +kernel
theorem dX12_isHouse_6 : decode cX12_isHouse 6 = .ok (.getfield 291, 3) := by decide +kernel
theorem dX12_isHouse_9 : decode cX12_isHouse 9 = .ok (.if_icmp .ge 7, 3) := by decide +kernel
theorem dX12_isHouse_12 : decode cX12_isHouse 12 = .ok (.iconst 1, 1) := by decide +kernel
theorem dX12_isHouse_13 : decode cX12_isHouse 13 = .ok (.goto 4, 3) := by decide +kernel
theorem dX12_isHouse_16 : decode cX12_isHouse 16 = .ok (.iconst 0, 1) := by decide +kernel
theorem dX12_isHouse_17 : decode cX12_isHouse 17 = .ok (.ireturn, 1) := by decide +kernel
def X12_isHouse (x1 : Int32) (h : Mm) : Option Bool := (if x1 < 0 then (some false) else (if (h.1 251 27) ≤ x1 then (some false) else (some true)))
set_option maxRecDepth 100000 in
set_option maxHeartbeats 4000000 in
theorem s_X12_isHouse {X : WX} {o : Mm} {x1 : Int32} {rv : Bool} {h : Mm} (hF : X12_isHouse x1 h = some rv) : Sat X yX12_isHouse cX12_isHouse 2 (some .boolean) 1 [.ref (xa X 251), .int x1] false o h (some (.int (b2i rv))) h := by
  unfold X12_isHouse at hF
  refine Sat.mk (own := RX12) rfl (by decide +kernel) (Nat.le_of_ble_eq_true rfl) (fun G => ?_)
  refine V.sub (lv2 := [(0, _), (1, _)]) [0, 1] rfl ?_
  refine V.iload_n 1 dX12_isHouse_0 rfl rfl ?_
  refine V.if_lt (tgt := 16) dX12_isHouse_1 rfl (fun c => ?_) (fun c => ?_)
  · replace hF := (if_pos c).symm.trans hF
    refine V.iconst (v := 0) dX12_isHouse_16 rfl ?_
    cases hF
    exact V.bret dX12_isHouse_17
  · replace hF := (if_neg c).symm.trans hF
    refine V.iload_n 1 dX12_isHouse_4 rfl rfl ?_
    refine V.aload_n 0 dX12_isHouse_5 rfl rfl ?_
    refine V.getI fl_X12_291 sh_251 rfl km_251 dX12_isHouse_6 ?_
    refine V.icmp_ge (tgt := 16) dX12_isHouse_9 rfl (fun c => ?_) (fun c => ?_)
    · replace hF := (if_pos c).symm.trans hF
      refine V.iconst (v := 0) dX12_isHouse_16 rfl ?_
      cases hF
      exact V.bret dX12_isHouse_17
    · replace hF := (if_neg c).symm.trans hF
      refine V.iconst (v := 1) dX12_isHouse_12 rfl ?_
      refine V.goto (tgt := 17) dX12_isHouse_13 rfl ?_
      cases hF
      exact V.bret dX12_isHouse_17
/-! MonsterCotModel.pagesOf -/
theorem dX12_pagesOf_0 : decode cX12_pagesOf 0 = .ok (.aload_n 0, 1) := by decide +kernel
theorem dX12_pagesOf_1 : decode cX12_pagesOf 1 = .ok (.getfield 43, 3) := by decide +kernel
theorem dX12_pagesOf_4 : decode cX12_pagesOf 4 = .ok (.iconst 3, 1) := by decide +kernel
theorem dX12_pagesOf_5 : decode cX12_pagesOf 5 = .ok (.iload_n 1, 1) := by decide +kernel
theorem dX12_pagesOf_6 : decode cX12_pagesOf 6 = .ok (.imul, 1) := by decide +kernel
theorem dX12_pagesOf_7 : decode cX12_pagesOf 7 = .ok (.iaload, 1) := by decide +kernel
theorem dX12_pagesOf_8 : decode cX12_pagesOf 8 = .ok (.ireturn, 1) := by decide +kernel
def X12_pagesOf (x1 : Int32) (h : Mm) : Option Int32 := (if inB ((3) * x1) (aln 258) then (some (h.1 258 ((3) * x1).toNatClampNeg)) else none)
set_option maxRecDepth 100000 in
set_option maxHeartbeats 4000000 in
theorem s_X12_pagesOf {X : WX} {o : Mm} {x1 : Int32} {rv : Int32} {h : Mm} (hF : X12_pagesOf x1 h = some rv) : Sat X yX12_pagesOf cX12_pagesOf 2 (some .int) 1 [.ref (xa X 251), .int x1] false o h (some (.int rv)) h := by
  unfold X12_pagesOf at hF
  refine Sat.mk (own := RX12) rfl (by decide +kernel) (Nat.le_of_ble_eq_true rfl) (fun G => ?_)
  refine V.sub (lv2 := [(0, _), (1, _)]) [0, 1] rfl ?_
  refine V.aload_n 0 dX12_pagesOf_0 rfl rfl ?_
  refine V.getR (v := 258) fl_X12_43 sh_251 rfl fx_251_20 (by decide) dX12_pagesOf_1 ?_
  refine V.iconst (v := 3) dX12_pagesOf_4 rfl ?_
  refine V.iload_n 1 dX12_pagesOf_5 rfl rfl ?_
  refine V.imul dX12_pagesOf_6 ?_
  obtain ⟨hk, hF⟩ := ck hF
  refine V.iald io_258 hk dX12_pagesOf_7 ?_
  cases hF
  exact V.iret dX12_pagesOf_8
/-! MonsterCotModel.kindOf -/
theorem dX12_kindOf_0 : decode cX12_kindOf 0 = .ok (.aload_n 0, 1) := by decide +kernel
theorem dX12_kindOf_1 : decode cX12_kindOf 1 = .ok (.getfield 43, 3) := by decide +kernel
theorem dX12_kindOf_4 : decode cX12_kindOf 4 = .ok (.iconst 3, 1) := by decide +kernel
theorem dX12_kindOf_5 : decode cX12_kindOf 5 = .ok (.iload_n 1, 1) := by decide +kernel
theorem dX12_kindOf_6 : decode cX12_kindOf 6 = .ok (.imul, 1) := by decide +kernel
theorem dX12_kindOf_7 : decode cX12_kindOf 7 = .ok (.iconst 2, 1) := by decide +kernel
theorem dX12_kindOf_8 : decode cX12_kindOf 8 = .ok (.iadd, 1) := by decide +kernel
theorem dX12_kindOf_9 : decode cX12_kindOf 9 = .ok (.iaload, 1) := by decide +kernel
theorem dX12_kindOf_10 : decode cX12_kindOf 10 = .ok (.ireturn, 1) := by decide +kernel
def X12_kindOf (x1 : Int32) (h : Mm) : Option Int32 := (if inB (((3) * x1) + (2)) (aln 258) then (some (h.1 258 (((3) * x1) + (2)).toNatClampNeg)) else none)
set_option maxRecDepth 100000 in
set_option maxHeartbeats 4000000 in
theorem s_X12_kindOf {X : WX} {o : Mm} {x1 : Int32} {rv : Int32} {h : Mm} (hF : X12_kindOf x1 h = some rv) : Sat X yX12_kindOf cX12_kindOf 2 (some .int) 1 [.ref (xa X 251), .int x1] false o h (some (.int rv)) h := by
  unfold X12_kindOf at hF
  refine Sat.mk (own := RX12) rfl (by decide +kernel) (Nat.le_of_ble_eq_true rfl) (fun G => ?_)
  refine V.sub (lv2 := [(0, _), (1, _)]) [0, 1] rfl ?_
  refine V.aload_n 0 dX12_kindOf_0 rfl rfl ?_
  refine V.getR (v := 258) fl_X12_43 sh_251 rfl fx_251_20 (by decide) dX12_kindOf_1 ?_
  refine V.iconst (v := 3) dX12_kindOf_4 rfl ?_
  refine V.iload_n 1 dX12_kindOf_5 rfl rfl ?_
  refine V.imul dX12_kindOf_6 ?_
  refine V.iconst (v := 2) dX12_kindOf_7 rfl ?_
  refine V.iadd dX12_kindOf_8 ?_
  obtain ⟨hk, hF⟩ := ck hF
  refine V.iald io_258 hk dX12_kindOf_9 ?_
  cases hF
  exact V.iret dX12_kindOf_10
/-! MonsterCotModel.strength -/
theorem dX12_strength_0 : decode cX12_strength 0 = .ok (.aload_n 0, 1) := by decide +kernel
theorem dX12_strength_1 : decode cX12_strength 1 = .ok (.getfield 49, 3) := by decide +kernel
theorem dX12_strength_4 : decode cX12_strength 4 = .ok (.iconst 3, 1) := by decide +kernel
theorem dX12_strength_5 : decode cX12_strength 5 = .ok (.iload_n 1, 1) := by decide +kernel
theorem dX12_strength_6 : decode cX12_strength 6 = .ok (.imul, 1) := by decide +kernel
theorem dX12_strength_7 : decode cX12_strength 7 = .ok (.iconst 1, 1) := by decide +kernel
theorem dX12_strength_8 : decode cX12_strength 8 = .ok (.iadd, 1) := by decide +kernel
theorem dX12_strength_9 : decode cX12_strength 9 = .ok (.iaload, 1) := by decide +kernel
theorem dX12_strength_10 : decode cX12_strength 10 = .ok (.ireturn, 1) := by decide +kernel
def X12_strength (x1 : Int32) (h : Mm) : Option Int32 := (if inB (((3) * x1) + (1)) (aln 260) then (some (h.1 260 (((3) * x1) + (1)).toNatClampNeg)) else none)
set_option maxRecDepth 100000 in
set_option maxHeartbeats 4000000 in
theorem s_X12_strength {X : WX} {o : Mm} {x1 : Int32} {rv : Int32} {h : Mm} (hF : X12_strength x1 h = some rv) : Sat X yX12_strength cX12_strength 2 (some .int) 1 [.ref (xa X 251), .int x1] false o h (some (.int rv)) h := by
  unfold X12_strength at hF
  refine Sat.mk (own := RX12) rfl (by decide +kernel) (Nat.le_of_ble_eq_true rfl) (fun G => ?_)
  refine V.sub (lv2 := [(0, _), (1, _)]) [0, 1] rfl ?_
  refine V.aload_n 0 dX12_strength_0 rfl rfl ?_
  refine V.getR (v := 260) fl_X12_49 sh_251 rfl fx_251_22 (by decide) dX12_strength_1 ?_
  refine V.iconst (v := 3) dX12_strength_4 rfl ?_
  refine V.iload_n 1 dX12_strength_5 rfl rfl ?_
  refine V.imul dX12_strength_6 ?_
  refine V.iconst (v := 1) dX12_strength_7 rfl ?_
  refine V.iadd dX12_strength_8 ?_
  obtain ⟨hk, hF⟩ := ck hF
  refine V.iald io_260 hk dX12_strength_9 ?_
  cases hF
  exact V.iret dX12_strength_10
/-! MonsterCotModel.pageWorth -/
theorem dX12_pageWorth_0 : decode cX12_pageWorth 0 = .ok (.aload_n 0, 1) := by decide +kernel
theorem dX12_pageWorth_1 : decode cX12_pageWorth 1 = .ok (.getfield 67, 3) := by decide +kernel
theorem dX12_pageWorth_4 : decode cX12_pageWorth 4 = .ok (.iconst (-1), 1) := by decide +kernel
theorem dX12_pageWorth_5 : decode cX12_pageWorth 5 = .ok (.if_icmp .ne 20, 3) := by decide +kernel
theorem dX12_pageWorth_8 : decode cX12_pageWorth 8 = .ok (.aload_n 0, 1) := by decide +kernel
theorem dX12_pageWorth_9 : decode cX12_pageWorth 9 = .ok (.getfield 43, 3) := by decide +kernel
theorem dX12_pageWorth_12 : decode cX12_pageWorth 12 = .ok (.iconst 3, 1) := by decide +kernel
theorem dX12_pageWorth_13 : decode cX12_pageWorth 13 = .ok (.iload_n 1, 1) := by decide +kernel
theorem dX12_pageWorth_14 : decode cX12_pageWorth 14 = .ok (.imul, 1) := by decide +kernel
theorem dX12_pageWorth_15 : decode cX12_pageWorth 15 = .ok (.iconst 1, 1) := by decide +kernel
theorem dX12_pageWorth_16 : decode cX12_pageWorth 16 = .ok (.iadd, 1) := by decide +kernel
theorem dX12_pageWorth_17 : decode cX12_pageWorth 17 = .ok (.iaload, 1) := by decide +kernel
theorem dX12_pageWorth_18 : decode cX12_pageWorth 18 = .ok (.iload_n 2, 1) := by decide +kernel
theorem dX12_pageWorth_19 : decode cX12_pageWorth 19 = .ok (.iconst 3, 1) := by decide +kernel
theorem dX12_pageWorth_20 : decode cX12_pageWorth 20 = .ok (.idiv, 1) := by decide +kernel
theorem dX12_pageWorth_21 : decode cX12_pageWorth 21 = .ok (.iadd, 1) := by decide +kernel
theorem dX12_pageWorth_22 : decode cX12_pageWorth 22 = .ok (.iload_n 3, 1) := by decide +kernel
theorem dX12_pageWorth_23 : decode cX12_pageWorth 23 = .ok (.isub, 1) := by decide +kernel
theorem dX12_pageWorth_24 : decode cX12_pageWorth 24 = .ok (.ireturn, 1) := by decide +kernel
theorem dX12_pageWorth_25 : decode cX12_pageWorth 25 = .ok (.lconst 1, 1) := by decide +kernel
theorem dX12_pageWorth_26 : decode cX12_pageWorth 26 = .ok (.aload_n 0, 1) := by decide +kernel
theorem dX12_pageWorth_27 : decode cX12_pageWorth 27 = .ok (.getfield 67, 3) := by decide +kernel
theorem dX12_pageWorth_30 : decode cX12_pageWorth 30 = .ok (.i2l, 1) := by decide +kernel
theorem dX12_pageWorth_31 : decode cX12_pageWorth 31 = .ok (.ladd, 1) := by decide +kernel
theorem dX12_pageWorth_32 : decode cX12_pageWorth 32 = .ok (.lstore 7, 2) := by decide +kernel
theorem dX12_pageWorth_34 : decode cX12_pageWorth 34 = .ok (.ldc2_w 303, 3) := by decide +kernel
theorem dX12_pageWorth_37 : decode cX12_pageWorth 37 = .ok (.lload 7, 2) := by decide +kernel
theorem dX12_pageWorth_39 : decode cX12_pageWorth 39 = .ok (.lmul, 1) := by decide +kernel
theorem dX12_pageWorth_40 : decode cX12_pageWorth 40 = .ok (.aload_n 0, 1) := by decide +kernel
theorem dX12_pageWorth_41 : decode cX12_pageWorth 41 = .ok (.getfield 43, 3) := by decide +kernel
theorem dX12_pageWorth_44 : decode cX12_pageWorth 44 = .ok (.iconst 3, 1) := by decide +kernel
theorem dX12_pageWorth_45 : decode cX12_pageWorth 45 = .ok (.iload_n 1, 1) := by decide +kernel
theorem dX12_pageWorth_46 : decode cX12_pageWorth 46 = .ok (.imul, 1) := by decide +kernel
theorem dX12_pageWorth_47 : decode cX12_pageWorth 47 = .ok (.iconst 1, 1) := by decide +kernel
theorem dX12_pageWorth_48 : decode cX12_pageWorth 48 = .ok (.iadd, 1) := by decide +kernel
theorem dX12_pageWorth_49 : decode cX12_pageWorth 49 = .ok (.iaload, 1) := by decide +kernel
theorem dX12_pageWorth_50 : decode cX12_pageWorth 50 = .ok (.i2l, 1) := by decide +kernel
theorem dX12_pageWorth_51 : decode cX12_pageWorth 51 = .ok (.ladd, 1) := by decide +kernel
theorem dX12_pageWorth_52 : decode cX12_pageWorth 52 = .ok (.lstore 7, 2) := by decide +kernel
theorem dX12_pageWorth_54 : decode cX12_pageWorth 54 = .ok (.ldc2_w 303, 3) := by decide +kernel
theorem dX12_pageWorth_57 : decode cX12_pageWorth 57 = .ok (.lload 7, 2) := by decide +kernel
theorem dX12_pageWorth_59 : decode cX12_pageWorth 59 = .ok (.lmul, 1) := by decide +kernel
theorem dX12_pageWorth_60 : decode cX12_pageWorth 60 = .ok (.iload_n 2, 1) := by decide +kernel
theorem dX12_pageWorth_61 : decode cX12_pageWorth 61 = .ok (.i2l, 1) := by decide +kernel
theorem dX12_pageWorth_62 : decode cX12_pageWorth 62 = .ok (.ladd, 1) := by decide +kernel
theorem dX12_pageWorth_63 : decode cX12_pageWorth 63 = .ok (.lstore 7, 2) := by decide +kernel
theorem dX12_pageWorth_65 : decode cX12_pageWorth 65 = .ok (.ldc2_w 303, 3) := by decide +kernel
theorem dX12_pageWorth_68 : decode cX12_pageWorth 68 = .ok (.lload 7, 2) := by decide +kernel
theorem dX12_pageWorth_70 : decode cX12_pageWorth 70 = .ok (.lmul, 1) := by decide +kernel
theorem dX12_pageWorth_71 : decode cX12_pageWorth 71 = .ok (.iload_n 3, 1) := by decide +kernel
theorem dX12_pageWorth_72 : decode cX12_pageWorth 72 = .ok (.i2l, 1) := by decide +kernel
theorem dX12_pageWorth_73 : decode cX12_pageWorth 73 = .ok (.ladd, 1) := by decide +kernel
theorem dX12_pageWorth_74 : decode cX12_pageWorth 74 = .ok (.lstore 7, 2) := by decide +kernel
theorem dX12_pageWorth_76 : decode cX12_pageWorth 76 = .ok (.ldc2_w 303, 3) := by decide +kernel
theorem dX12_pageWorth_79 : decode cX12_pageWorth 79 = .ok (.lload 7, 2) := by decide +kernel
theorem dX12_pageWorth_81 : decode cX12_pageWorth 81 = .ok (.lmul, 1) := by decide +kernel
theorem dX12_pageWorth_82 : decode cX12_pageWorth 82 = .ok (.iload 4, 2) := by decide +kernel
theorem dX12_pageWorth_84 : decode cX12_pageWorth 84 = .ok (.i2l, 1) := by decide +kernel
theorem dX12_pageWorth_85 : decode cX12_pageWorth 85 = .ok (.ladd, 1) := by decide +kernel
theorem dX12_pageWorth_86 : decode cX12_pageWorth 86 = .ok (.lstore 7, 2) := by decide +kernel
theorem dX12_pageWorth_88 : decode cX12_pageWorth 88 = .ok (.ldc2_w 305, 3) := by decide +kernel
theorem dX12_pageWorth_91 : decode cX12_pageWorth 91 = .ok (.lload 7, 2) := by decide +kernel
theorem dX12_pageWorth_93 : decode cX12_pageWorth 93 = .ok (.lmul, 1) := by decide +kernel
theorem dX12_pageWorth_94 : decode cX12_pageWorth 94 = .ok (.iload 6, 2) := by decide +kernel
theorem dX12_pageWorth_96 : decode cX12_pageWorth 96 = .ok (.i2l, 1) := by decide +kernel
theorem dX12_pageWorth_97 : decode cX12_pageWorth 97 = .ok (.ladd, 1) := by decide +kernel
theorem dX12_pageWorth_98 : decode cX12_pageWorth 98 = .ok (.lstore 7, 2) := by decide +kernel
theorem dX12_pageWorth_100 : decode cX12_pageWorth 100 = .ok (.ldc2_w 307, 3) := by decide +kernel
theorem dX12_pageWorth_103 : decode cX12_pageWorth 103 = .ok (.lload 7, 2) := by decide +kernel
theorem dX12_pageWorth_105 : decode cX12_pageWorth 105 = .ok (.lmul, 1) := by decide +kernel
theorem dX12_pageWorth_106 : decode cX12_pageWorth 106 = .ok (.iload 5, 2) := by decide +kernel
theorem dX12_pageWorth_108 : decode cX12_pageWorth 108 = .ok (.i2l, 1) := by decide +kernel
theorem dX12_pageWorth_109 : decode cX12_pageWorth 109 = .ok (.ladd, 1) := by decide +kernel
theorem dX12_pageWorth_110 : decode cX12_pageWorth 110 = .ok (.lstore 7, 2) := by decide +kernel
theorem dX12_pageWorth_112 : decode cX12_pageWorth 112 = .ok (.lload 7, 2) := by decide +kernel
theorem dX12_pageWorth_114 : decode cX12_pageWorth 114 = .ok (.ldc2_w 309, 3) := by decide +kernel
theorem dX12_pageWorth_117 : decode cX12_pageWorth 117 = .ok (.lrem, 1) := by decide +kernel
theorem dX12_pageWorth_118 : decode cX12_pageWorth 118 = .ok (.l2i, 1) := by decide +kernel
theorem dX12_pageWorth_119 : decode cX12_pageWorth 119 = .ok (.istore 9, 2) := by decide +kernel
theorem dX12_pageWorth_121 : decode cX12_pageWorth 121 = .ok (.aload_n 0, 1) := by decide +kernel
theorem dX12_pageWorth_122 : decode cX12_pageWorth 122 = .ok (.getfield 71, 3) := by decide +kernel
theorem dX12_pageWorth_125 : decode cX12_pageWorth 125 = .ok (.iload 9, 2) := by decide +kernel
theorem dX12_pageWorth_127 : decode cX12_pageWorth 127 = .ok (.laload, 1) := by decide +kernel
theorem dX12_pageWorth_128 : decode cX12_pageWorth 128 = .ok (.lload 7, 2) := by decide +kernel
theorem dX12_pageWorth_130 : decode cX12_pageWorth 130 = .ok (.lcmp, 1) := by decide +kernel
theorem dX12_pageWorth_131 : decode cX12_pageWorth 131 = .ok (.ifCond .ne 11, 3) := by decide +kernel
theorem dX12_pageWorth_134 : decode cX12_pageWorth 134 = .ok (.aload_n 0, 1) := by decide +kernel
theorem dX12_pageWorth_135 : decode cX12_pageWorth 135 = .ok (.getfield 75, 3) := by decide +kernel
theorem dX12_pageWorth_138 : decode cX12_pageWorth 138 = .ok (.iload 9, 2) := by decide +kernel
theorem dX12_pageWorth_140 : decode cX12_pageWorth 140 = .ok (.iaload, 1) := by decide +kernel
theorem dX12_pageWorth_141 : decode cX12_pageWorth 141 = .ok (.ireturn, 1) := by decide +kernel
theorem dX12_pageWorth_142 : decode cX12_pageWorth 142 = .ok (.aload_n 0, 1) := by decide +kernel
theorem dX12_pageWorth_143 : decode cX12_pageWorth 143 = .ok (.getfield 20, 3) := by decide +kernel
theorem dX12_pageWorth_146 : decode cX12_pageWorth 146 = .ok (.bipush 99, 2) := by decide +kernel
theorem dX12_pageWorth_148 : decode cX12_pageWorth 148 = .ok (.aload_n 0, 1) := by decide +kernel
theorem dX12_pageWorth_149 : decode cX12_pageWorth 149 = .ok (.getfield 43, 3) := by decide +kernel
theorem dX12_pageWorth_152 : decode cX12_pageWorth 152 = .ok (.iconst 3, 1) := by decide +kernel
theorem dX12_pageWorth_153 : decode cX12_pageWorth 153 = .ok (.iload_n 1, 1) := by decide +kernel
theorem dX12_pageWorth_154 : decode cX12_pageWorth 154 = .ok (.imul, 1) := by decide +kernel
theorem dX12_pageWorth_155 : decode cX12_pageWorth 155 = .ok (.iconst 1, 1) := by decide +kernel
theorem dX12_pageWorth_156 : decode cX12_pageWorth 156 = .ok (.iadd, 1) := by decide +kernel
theorem dX12_pageWorth_157 : decode cX12_pageWorth 157 = .ok (.iaload, 1) := by decide +kernel
theorem dX12_pageWorth_158 : decode cX12_pageWorth 158 = .ok (.iastore, 1) := by decide +kernel
theorem dX12_pageWorth_159 : decode cX12_pageWorth 159 = .ok (.aload_n 0, 1) := by decide +kernel
theorem dX12_pageWorth_160 : decode cX12_pageWorth 160 = .ok (.getfield 20, 3) := by decide +kernel
theorem dX12_pageWorth_163 : decode cX12_pageWorth 163 = .ok (.bipush 118, 2) := by decide +kernel
theorem dX12_pageWorth_165 : decode cX12_pageWorth 165 = .ok (.iload_n 2, 1) := by decide +kernel
theorem dX12_pageWorth_166 : decode cX12_pageWorth 166 = .ok (.iastore, 1) := by decide +kernel
theorem dX12_pageWorth_167 : decode cX12_pageWorth 167 = .ok (.aload_n 0, 1) := by decide +kernel
theorem dX12_pageWorth_168 : decode cX12_pageWorth 168 = .ok (.getfield 20, 3) := by decide +kernel
theorem dX12_pageWorth_171 : decode cX12_pageWorth 171 = .ok (.bipush 98, 2) := by decide +kernel
theorem dX12_pageWorth_173 : decode cX12_pageWorth 173 = .ok (.iload_n 3, 1) := by decide +kernel
theorem dX12_pageWorth_174 : decode cX12_pageWorth 174 = .ok (.iastore, 1) := by decide +kernel
theorem dX12_pageWorth_175 : decode cX12_pageWorth 175 = .ok (.aload_n 0, 1) := by decide +kernel
theorem dX12_pageWorth_176 : decode cX12_pageWorth 176 = .ok (.getfield 20, 3) := by decide +kernel
theorem dX12_pageWorth_179 : decode cX12_pageWorth 179 = .ok (.bipush 112, 2) := by decide +kernel
theorem dX12_pageWorth_181 : decode cX12_pageWorth 181 = .ok (.iload 4, 2) := by decide +kernel
theorem dX12_pageWorth_183 : decode cX12_pageWorth 183 = .ok (.iastore, 1) := by decide +kernel
theorem dX12_pageWorth_184 : decode cX12_pageWorth 184 = .ok (.aload_n 0, 1) := by decide +kernel
theorem dX12_pageWorth_185 : decode cX12_pageWorth 185 = .ok (.getfield 20, 3) := by decide +kernel
theorem dX12_pageWorth_188 : decode cX12_pageWorth 188 = .ok (.bipush 110, 2) := by decide +kernel
theorem dX12_pageWorth_190 : decode cX12_pageWorth 190 = .ok (.iload 5, 2) := by decide +kernel
theorem dX12_pageWorth_192 : decode cX12_pageWorth 192 = .ok (.iastore, 1) := by decide +kernel
theorem dX12_pageWorth_193 : decode cX12_pageWorth 193 = .ok (.aload_n 0, 1) := by decide +kernel
theorem dX12_pageWorth_194 : decode cX12_pageWorth 194 = .ok (.getfield 20, 3) := by decide +kernel
theorem dX12_pageWorth_197 : decode cX12_pageWorth 197 = .ok (.bipush 116, 2) := by decide +kernel
theorem dX12_pageWorth_199 : decode cX12_pageWorth 199 = .ok (.iload 6, 2) := by decide +kernel
theorem dX12_pageWorth_201 : decode cX12_pageWorth 201 = .ok (.iastore, 1) := by decide +kernel
theorem dX12_pageWorth_202 : decode cX12_pageWorth 202 = .ok (.aload_n 0, 1) := by decide +kernel
theorem dX12_pageWorth_203 : decode cX12_pageWorth 203 = .ok (.aload_n 0, 1) := by decide +kernel
theorem dX12_pageWorth_204 : decode cX12_pageWorth 204 = .ok (.getfield 13, 3) := by decide +kernel
theorem dX12_pageWorth_207 : decode cX12_pageWorth 207 = .ok (.sipush 240, 3) := by decide +kernel
theorem dX12_pageWorth_210 : decode cX12_pageWorth 210 = .ok (.aload_n 0, 1) := by decide +kernel
theorem dX12_pageWorth_211 : decode cX12_pageWorth 211 = .ok (.getfield 67, 3) := by decide +kernel
theorem dX12_pageWorth_214 : decode cX12_pageWorth 214 = .ok (.imul, 1) := by decide +kernel
theorem dX12_pageWorth_215 : decode cX12_pageWorth 215 = .ok (.aload_n 0, 1) := by decide +kernel
theorem dX12_pageWorth_216 : decode cX12_pageWorth 216 = .ok (.getfield 16, 3) := by decide +kernel
theorem dX12_pageWorth_219 : decode cX12_pageWorth 219 = .ok (.aload_n 0, 1) := by decide +kernel
theorem dX12_pageWorth_220 : decode cX12_pageWorth 220 = .ok (.getfield 67, 3) := by decide +kernel
theorem dX12_pageWorth_223 : decode cX12_pageWorth 223 = .ok (.iaload, 1) := by decide +kernel
theorem dX12_pageWorth_224 : decode cX12_pageWorth 224 = .ok (.invokevirtual 274, 3) := by decide +kernel
theorem dX12_pageWorth_227 : decode cX12_pageWorth 227 = .ok (.aload_n 0, 1) := by decide +kernel
theorem dX12_pageWorth_228 : decode cX12_pageWorth 228 = .ok (.getfield 71, 3) := by decide +kernel
theorem dX12_pageWorth_231 : decode cX12_pageWorth 231 = .ok (.iload 9, 2) := by decide +kernel
theorem dX12_pageWorth_233 : decode cX12_pageWorth 233 = .ok (.lload 7, 2) := by decide +kernel
theorem dX12_pageWorth_235 : decode cX12_pageWorth 235 = .ok (.lastore, 1) := by decide +kernel
theorem dX12_pageWorth_236 : decode cX12_pageWorth 236 = .ok (.aload_n 0, 1) := by decide +kernel
theorem dX12_pageWorth_237 : decode cX12_pageWorth 237 = .ok (.getfield 75, 3) := by decide +kernel
theorem dX12_pageWorth_240 : decode cX12_pageWorth 240 = .ok (.iload 9, 2) := by decide +kernel
theorem dX12_pageWorth_242 : decode cX12_pageWorth 242 = .ok (.aload_n 0, 1) := by decide +kernel
theorem dX12_pageWorth_243 : decode cX12_pageWorth 243 = .ok (.getfield 201, 3) := by decide +kernel
theorem dX12_pageWorth_246 : decode cX12_pageWorth 246 = .ok (.iastore, 1) := by decide +kernel
theorem dX12_pageWorth_247 : decode cX12_pageWorth 247 = .ok (.aload_n 0, 1) := by decide +kernel
theorem dX12_pageWorth_248 : decode cX12_pageWorth 248 = .ok (.getfield 201, 3) := by decide +kernel
theorem dX12_pageWorth_251 : decode cX12_pageWorth 251 = .ok (.ireturn, 1) := by decide +kernel
def X12_pageWorth (n : Nat) (x1 : Int32) (x2 : Int32) (x3 : Int32) (x4 : Int32) (x5 : Int32) (x6 : Int32) (h : Mm) : Option (Int32 × Mm) := (if (h.1 251 34) = (-1) then (if inB (((3) * x1) + (1)) (aln 258) then (some ((((h.1 258 (((3) * x1) + (1)).toNatClampNeg) + (x2 / (3))) - x3), h)) else none) else (if inB (((3) * x1) + (1)) (aln 258) then (if inB ((((100000 : Int64) * (((100 : Int64) * (((10 : Int64) * (((10 : Int64) * (((10 : Int64) * (((10 : Int64) * ((1 : Int64) + (h.1 251 34).toInt64)) + (h.1 258 (((3) * x1) + (1)).toNatClampNeg).toInt64)) + x2.toInt64)) + x3.toInt64)) + x4.toInt64)) + x6.toInt64)) + x5.toInt64) - (((100000 : Int64) * (((100 : Int64) * (((10 : Int64) * (((10 : Int64) * (((10 : Int64) * (((10 : Int64) * ((1 : Int64) + (h.1 251 34).toInt64)) + (h.1 258 (((3) * x1) + (1)).toNatClampNeg).toInt64)) + x2.toInt64)) + x3.toInt64)) + x4.toInt64)) + x6.toInt64)) + x5.toInt64) / (8191 : Int64) * (8191 : Int64)).toInt32 (aln 266) then (if (lg_cmp (h.2 266 ((((100000 : Int64) * (((100 : Int64) * (((10 : Int64) * (((10 : Int64) * (((10 : Int64) * (((10 : Int64) * ((1 : Int64) + (h.1 251 34).toInt64)) + (h.1 258 (((3) * x1) + (1)).toNatClampNeg).toInt64)) + x2.toInt64)) + x3.toInt64)) + x4.toInt64)) + x6.toInt64)) + x5.toInt64) - (((100000 : Int64) * (((100 : Int64) * (((10 : Int64) * (((10 : Int64) * (((10 : Int64) * (((10 : Int64) * ((1 : Int64) + (h.1 251 34).toInt64)) + (h.1 258 (((3) * x1) + (1)).toNatClampNeg).toInt64)) + x2.toInt64)) + x3.toInt64)) + x4.toInt64)) + x6.toInt64)) + x5.toInt64) / (8191 : Int64) * (8191 : Int64)).toInt32.toNatClampNeg) (((100000 : Int64) * (((100 : Int64) * (((10 : Int64) * (((10 : Int64) * (((10 : Int64) * (((10 : Int64) * ((1 : Int64) + (h.1 251 34).toInt64)) + (h.1 258 (((3) * x1) + (1)).toNatClampNeg).toInt64)) + x2.toInt64)) + x3.toInt64)) + x4.toInt64)) + x6.toInt64)) + x5.toInt64)) = 0 then (if inB ((((100000 : Int64) * (((100 : Int64) * (((10 : Int64) * (((10 : Int64) * (((10 : Int64) * (((10 : Int64) * ((1 : Int64) + (h.1 251 34).toInt64)) + (h.1 258 (((3) * x1) + (1)).toNatClampNeg).toInt64)) + x2.toInt64)) + x3.toInt64)) + x4.toInt64)) + x6.toInt64)) + x5.toInt64) - (((100000 : Int64) * (((100 : Int64) * (((10 : Int64) * (((10 : Int64) * (((10 : Int64) * (((10 : Int64) * ((1 : Int64) + (h.1 251 34).toInt64)) + (h.1 258 (((3) * x1) + (1)).toNatClampNeg).toInt64)) + x2.toInt64)) + x3.toInt64)) + x4.toInt64)) + x6.toInt64)) + x5.toInt64) / (8191 : Int64) * (8191 : Int64)).toInt32 (aln 267) then (some ((h.1 267 ((((100000 : Int64) * (((100 : Int64) * (((10 : Int64) * (((10 : Int64) * (((10 : Int64) * (((10 : Int64) * ((1 : Int64) + (h.1 251 34).toInt64)) + (h.1 258 (((3) * x1) + (1)).toNatClampNeg).toInt64)) + x2.toInt64)) + x3.toInt64)) + x4.toInt64)) + x6.toInt64)) + x5.toInt64) - (((100000 : Int64) * (((100 : Int64) * (((10 : Int64) * (((10 : Int64) * (((10 : Int64) * (((10 : Int64) * ((1 : Int64) + (h.1 251 34).toInt64)) + (h.1 258 (((3) * x1) + (1)).toNatClampNeg).toInt64)) + x2.toInt64)) + x3.toInt64)) + x4.toInt64)) + x6.toInt64)) + x5.toInt64) / (8191 : Int64) * (8191 : Int64)).toInt32.toNatClampNeg), h)) else none) else (if inB (((3) * x1) + (1)) (aln 258) then (if inB (99) (aln 255) then (if inB (118) (aln 255) then (if inB (98) (aln 255) then (if inB (112) (aln 255) then (if inB (110) (aln 255) then (if inB (116) (aln 255) then (if inB ((wI (wI (wI (wI (wI (wI h 255 (99).toNatClampNeg (h.1 258 (((3) * x1) + (1)).toNatClampNeg)) 255 (118).toNatClampNeg x2) 255 (98).toNatClampNeg x3) 255 (112).toNatClampNeg x4) 255 (110).toNatClampNeg x5) 255 (116).toNatClampNeg x6).1 251 34) (aln 254) then (bd (X12_goThrough n 253 ((240) * ((wI (wI (wI (wI (wI (wI h 255 (99).toNatClampNeg (h.1 258 (((3) * x1) + (1)).toNatClampNeg)) 255 (118).toNatClampNeg x2) 255 (98).toNatClampNeg x3) 255 (112).toNatClampNeg x4) 255 (110).toNatClampNeg x5) 255 (116).toNatClampNeg x6).1 251 34)) ((wI (wI (wI (wI (wI (wI h 255 (99).toNatClampNeg (h.1 258 (((3) * x1) + (1)).toNatClampNeg)) 255 (118).toNatClampNeg x2) 255 (98).toNatClampNeg x3) 255 (112).toNatClampNeg x4) 255 (110).toNatClampNeg x5) 255 (116).toNatClampNeg x6).1 254 ((wI (wI (wI (wI (wI (wI h 255 (99).toNatClampNeg (h.1 258 (((3) * x1) + (1)).toNatClampNeg)) 255 (118).toNatClampNeg x2) 255 (98).toNatClampNeg x3) 255 (112).toNatClampNeg x4) 255 (110).toNatClampNeg x5) 255 (116).toNatClampNeg x6).1 251 34).toNatClampNeg) (wI (wI (wI (wI (wI (wI h 255 (99).toNatClampNeg (h.1 258 (((3) * x1) + (1)).toNatClampNeg)) 255 (118).toNatClampNeg x2) 255 (98).toNatClampNeg x3) 255 (112).toNatClampNeg x4) 255 (110).toNatClampNeg x5) 255 (116).toNatClampNeg x6)) (fun _ h6 => (if inB ((((100000 : Int64) * (((100 : Int64) * (((10 : Int64) * (((10 : Int64) * (((10 : Int64) * (((10 : Int64) * ((1 : Int64) + (h.1 251 34).toInt64)) + (h.1 258 (((3) * x1) + (1)).toNatClampNeg).toInt64)) + x2.toInt64)) + x3.toInt64)) + x4.toInt64)) + x6.toInt64)) + x5.toInt64) - (((100000 : Int64) * (((100 : Int64) * (((10 : Int64) * (((10 : Int64) * (((10 : Int64) * (((10 : Int64) * ((1 : Int64) + (h.1 251 34).toInt64)) + (h.1 258 (((3) * x1) + (1)).toNatClampNeg).toInt64)) + x2.toInt64)) + x3.toInt64)) + x4.toInt64)) + x6.toInt64)) + x5.toInt64) / (8191 : Int64) * (8191 : Int64)).toInt32 (aln 266) then (if inB ((((100000 : Int64) * (((100 : Int64) * (((10 : Int64) * (((10 : Int64) * (((10 : Int64) * (((10 : Int64) * ((1 : Int64) + (h.1 251 34).toInt64)) + (h.1 258 (((3) * x1) + (1)).toNatClampNeg).toInt64)) + x2.toInt64)) + x3.toInt64)) + x4.toInt64)) + x6.toInt64)) + x5.toInt64) - (((100000 : Int64) * (((100 : Int64) * (((10 : Int64) * (((10 : Int64) * (((10 : Int64) * (((10 : Int64) * ((1 : Int64) + (h.1 251 34).toInt64)) + (h.1 258 (((3) * x1) + (1)).toNatClampNeg).toInt64)) + x2.toInt64)) + x3.toInt64)) + x4.toInt64)) + x6.toInt64)) + x5.toInt64) / (8191 : Int64) * (8191 : Int64)).toInt32 (aln 267) then (some (((wI (wL h6 266 ((((100000 : Int64) * (((100 : Int64) * (((10 : Int64) * (((10 : Int64) * (((10 : Int64) * (((10 : Int64) * ((1 : Int64) + (h.1 251 34).toInt64)) + (h.1 258 (((3) * x1) + (1)).toNatClampNeg).toInt64)) + x2.toInt64)) + x3.toInt64)) + x4.toInt64)) + x6.toInt64)) + x5.toInt64) - (((100000 : Int64) * (((100 : Int64) * (((10 : Int64) * (((10 : Int64) * (((10 : Int64) * (((10 : Int64) * ((1 : Int64) + (h.1 251 34).toInt64)) + (h.1 258 (((3) * x1) + (1)).toNatClampNeg).toInt64)) + x2.toInt64)) + x3.toInt64)) + x4.toInt64)) + x6.toInt64)) + x5.toInt64) / (8191 : Int64) * (8191 : Int64)).toInt32.toNatClampNeg (((100000 : Int64) * (((100 : Int64) * (((10 : Int64) * (((10 : Int64) * (((10 : Int64) * (((10 : Int64) * ((1 : Int64) + (h.1 251 34).toInt64)) + (h.1 258 (((3) * x1) + (1)).toNatClampNeg).toInt64)) + x2.toInt64)) + x3.toInt64)) + x4.toInt64)) + x6.toInt64)) + x5.toInt64)) 267 ((((100000 : Int64) * (((100 : Int64) * (((10 : Int64) * (((10 : Int64) * (((10 : Int64) * (((10 : Int64) * ((1 : Int64) + (h.1 251 34).toInt64)) + (h.1 258 (((3) * x1) + (1)).toNatClampNeg).toInt64)) + x2.toInt64)) + x3.toInt64)) + x4.toInt64)) + x6.toInt64)) + x5.toInt64) - (((100000 : Int64) * (((100 : Int64) * (((10 : Int64) * (((10 : Int64) * (((10 : Int64) * (((10 : Int64) * ((1 : Int64) + (h.1 251 34).toInt64)) + (h.1 258 (((3) * x1) + (1)).toNatClampNeg).toInt64)) + x2.toInt64)) + x3.toInt64)) + x4.toInt64)) + x6.toInt64)) + x5.toInt64) / (8191 : Int64) * (8191 : Int64)).toInt32.toNatClampNeg ((wL h6 266 ((((100000 : Int64) * (((100 : Int64) * (((10 : Int64) * (((10 : Int64) * (((10 : Int64) * (((10 : Int64) * ((1 : Int64) + (h.1 251 34).toInt64)) + (h.1 258 (((3) * x1) + (1)).toNatClampNeg).toInt64)) + x2.toInt64)) + x3.toInt64)) + x4.toInt64)) + x6.toInt64)) + x5.toInt64) - (((100000 : Int64) * (((100 : Int64) * (((10 : Int64) * (((10 : Int64) * (((10 : Int64) * (((10 : Int64) * ((1 : Int64) + (h.1 251 34).toInt64)) + (h.1 258 (((3) * x1) + (1)).toNatClampNeg).toInt64)) + x2.toInt64)) + x3.toInt64)) + x4.toInt64)) + x6.toInt64)) + x5.toInt64) / (8191 : Int64) * (8191 : Int64)).toInt32.toNatClampNeg (((100000 : Int64) * (((100 : Int64) * (((10 : Int64) * (((10 : Int64) * (((10 : Int64) * (((10 : Int64) * ((1 : Int64) + (h.1 251 34).toInt64)) + (h.1 258 (((3) * x1) + (1)).toNatClampNeg).toInt64)) + x2.toInt64)) + x3.toInt64)) + x4.toInt64)) + x6.toInt64)) + x5.toInt64)).1 251 14)).1 251 14), (wI (wL h6 266 ((((100000 : Int64) * (((100 : Int64) * (((10 : Int64) * (((10 : Int64) * (((10 : Int64) * (((10 : Int64) * ((1 : Int64) + (h.1 251 34).toInt64)) + (h.1 258 (((3) * x1) + (1)).toNatClampNeg).toInt64)) + x2.toInt64)) + x3.toInt64)) + x4.toInt64)) + x6.toInt64)) + x5.toInt64) - (((100000 : Int64) * (((100 : Int64) * (((10 : Int64) * (((10 : Int64) * (((10 : Int64) * (((10 : Int64) * ((1 : Int64) + (h.1 251 34).toInt64)) + (h.1 258 (((3) * x1) + (1)).toNatClampNeg).toInt64)) + x2.toInt64)) + x3.toInt64)) + x4.toInt64)) + x6.toInt64)) + x5.toInt64) / (8191 : Int64) * (8191 : Int64)).toInt32.toNatClampNeg (((100000 : Int64) * (((100 : Int64) * (((10 : Int64) * (((10 : Int64) * (((10 : Int64) * (((10 : Int64) * ((1 : Int64) + (h.1 251 34).toInt64)) + (h.1 258 (((3) * x1) + (1)).toNatClampNeg).toInt64)) + x2.toInt64)) + x3.toInt64)) + x4.toInt64)) + x6.toInt64)) + x5.toInt64)) 267 ((((100000 : Int64) * (((100 : Int64) * (((10 : Int64) * (((10 : Int64) * (((10 : Int64) * (((10 : Int64) * ((1 : Int64) + (h.1 251 34).toInt64)) + (h.1 258 (((3) * x1) + (1)).toNatClampNeg).toInt64)) + x2.toInt64)) + x3.toInt64)) + x4.toInt64)) + x6.toInt64)) + x5.toInt64) - (((100000 : Int64) * (((100 : Int64) * (((10 : Int64) * (((10 : Int64) * (((10 : Int64) * (((10 : Int64) * ((1 : Int64) + (h.1 251 34).toInt64)) + (h.1 258 (((3) * x1) + (1)).toNatClampNeg).toInt64)) + x2.toInt64)) + x3.toInt64)) + x4.toInt64)) + x6.toInt64)) + x5.toInt64) / (8191 : Int64) * (8191 : Int64)).toInt32.toNatClampNeg ((wL h6 266 ((((100000 : Int64) * (((100 : Int64) * (((10 : Int64) * (((10 : Int64) * (((10 : Int64) * (((10 : Int64) * ((1 : Int64) + (h.1 251 34).toInt64)) + (h.1 258 (((3) * x1) + (1)).toNatClampNeg).toInt64)) + x2.toInt64)) + x3.toInt64)) + x4.toInt64)) + x6.toInt64)) + x5.toInt64) - (((100000 : Int64) * (((100 : Int64) * (((10 : Int64) * (((10 : Int64) * (((10 : Int64) * (((10 : Int64) * ((1 : Int64) + (h.1 251 34).toInt64)) + (h.1 258 (((3) * x1) + (1)).toNatClampNeg).toInt64)) + x2.toInt64)) + x3.toInt64)) + x4.toInt64)) + x6.toInt64)) + x5.toInt64) / (8191 : Int64) * (8191 : Int64)).toInt32.toNatClampNeg (((100000 : Int64) * (((100 : Int64) * (((10 : Int64) * (((10 : Int64) * (((10 : Int64) * (((10 : Int64) * ((1 : Int64) + (h.1 251 34).toInt64)) + (h.1 258 (((3) * x1) + (1)).toNatClampNeg).toInt64)) + x2.toInt64)) + x3.toInt64)) + x4.toInt64)) + x6.toInt64)) + x5.toInt64)).1 251 14)))) else none) else none))) else none) else none) else none) else none) else none) else none) else none) else none)) else none) else none))
set_option maxRecDepth 100000 in
set_option maxHeartbeats 4000000 in
theorem s_X12_pageWorth {X : WX} {o : Mm} {n : Nat} {x1 : Int32} {x2 : Int32} {x3 : Int32} {x4 : Int32} {x5 : Int32} {x6 : Int32} {rv : Int32} {hz : Mm} {h : Mm} (hF : X12_pageWorth n x1 x2 x3 x4 x5 x6 h = some (rv, hz)) : Sat X yX12_pageWorth cX12_pageWorth 10 (some .int) 89 [.ref (xa X 251), .int x1, .int x2, .int x3, .int x4, .int x5, .int x6] false o h (some (.int rv)) hz := by
  unfold X12_pageWorth at hF
  refine Sat.mk (own := RX12) rfl (by decide +kernel) (Nat.le_of_ble_eq_true rfl) (fun G => ?_)
  refine V.sub (lv2 := [(0, _), (1, _), (2, _), (3, _), (4, _), (5, _), (6, _)]) [0, 1, 2, 3, 4, 5, 6] rfl ?_
  refine V.aload_n 0 dX12_pageWorth_0 rfl rfl ?_
  refine V.getI fl_X12_67 sh_251 rfl km_251 dX12_pageWorth_1 ?_
  refine V.iconst (v := -1) dX12_pageWorth_4 rfl ?_
  refine V.icmp_ne (tgt := 25) dX12_pageWorth_5 rfl (fun c => ?_) (fun c => ?_)
  · replace hF := (if_neg c).symm.trans hF
    refine V.lconst (v := 1) dX12_pageWorth_25 rfl ?_
    refine V.aload_n 0 dX12_pageWorth_26 rfl rfl ?_
    refine V.getI fl_X12_67 sh_251 rfl km_251 dX12_pageWorth_27 ?_
    refine V.i2l dX12_pageWorth_30 ?_
    refine V.ladd dX12_pageWorth_31 ?_
    refine V.lstore [(7, _), (0, _), (1, _), (2, _), (3, _), (4, _), (5, _), (6, _)] dX12_pageWorth_32 (by decide) rfl ?_
    refine V.ldc2 (v := 10) dX12_pageWorth_34 kc_X12_303 ?_
    refine V.lload 0 dX12_pageWorth_37 rfl ?_
    refine V.lmul dX12_pageWorth_39 ?_
    refine V.aload_n 1 dX12_pageWorth_40 rfl rfl ?_
    refine V.getR (v := 258) fl_X12_43 sh_251 rfl fx_251_20 (by decide) dX12_pageWorth_41 ?_
    refine V.iconst (v := 3) dX12_pageWorth_44 rfl ?_
    refine V.iload_n 2 dX12_pageWorth_45 rfl rfl ?_
    refine V.imul dX12_pageWorth_46 ?_
    refine V.iconst (v := 1) dX12_pageWorth_47 rfl ?_
    refine V.iadd dX12_pageWorth_48 ?_
    obtain ⟨hk, hF⟩ := ck hF
    refine V.iald io_258 hk dX12_pageWorth_49 ?_
    refine V.i2l dX12_pageWorth_50 ?_
    refine V.ladd dX12_pageWorth_51 ?_
    refine V.lstore [(7, _), (0, _), (1, _), (2, _), (3, _), (4, _), (5, _), (6, _)] dX12_pageWorth_52 (by decide) rfl ?_
    refine V.ldc2 (v := 10) dX12_pageWorth_54 kc_X12_303 ?_
    refine V.lload 0 dX12_pageWorth_57 rfl ?_
    refine V.lmul dX12_pageWorth_59 ?_
    refine V.iload_n 3 dX12_pageWorth_60 rfl rfl ?_
    refine V.i2l dX12_pageWorth_61 ?_
    refine V.ladd dX12_pageWorth_62 ?_
    refine V.lstore [(7, _), (0, _), (1, _), (2, _), (3, _), (4, _), (5, _), (6, _)] dX12_pageWorth_63 (by decide) rfl ?_
    refine V.ldc2 (v := 10) dX12_pageWorth_65 kc_X12_303 ?_
    refine V.lload 0 dX12_pageWorth_68 rfl ?_
    refine V.lmul dX12_pageWorth_70 ?_
    refine V.iload_n 4 dX12_pageWorth_71 rfl rfl ?_
    refine V.i2l dX12_pageWorth_72 ?_
    refine V.ladd dX12_pageWorth_73 ?_
    refine V.lstore [(7, _), (0, _), (1, _), (2, _), (3, _), (4, _), (5, _), (6, _)] dX12_pageWorth_74 (by decide) rfl ?_
    refine V.ldc2 (v := 10) dX12_pageWorth_76 kc_X12_303 ?_
    refine V.lload 0 dX12_pageWorth_79 rfl ?_
    refine V.lmul dX12_pageWorth_81 ?_
    refine V.iload 5 dX12_pageWorth_82 rfl ?_
    refine V.i2l dX12_pageWorth_84 ?_
    refine V.ladd dX12_pageWorth_85 ?_
    refine V.lstore [(7, _), (0, _), (1, _), (2, _), (3, _), (4, _), (5, _), (6, _)] dX12_pageWorth_86 (by decide) rfl ?_
    refine V.ldc2 (v := 100) dX12_pageWorth_88 kc_X12_305 ?_
    refine V.lload 0 dX12_pageWorth_91 rfl ?_
    refine V.lmul dX12_pageWorth_93 ?_
    refine V.iload 7 dX12_pageWorth_94 rfl ?_
    refine V.i2l dX12_pageWorth_96 ?_
    refine V.ladd dX12_pageWorth_97 ?_
    refine V.lstore [(7, _), (0, _), (1, _), (2, _), (3, _), (4, _), (5, _), (6, _)] dX12_pageWorth_98 (by decide) rfl ?_
    refine V.ldc2 (v := 100000) dX12_pageWorth_100 kc_X12_307 ?_
    refine V.lload 0 dX12_pageWorth_103 rfl ?_
    refine V.lmul dX12_pageWorth_105 ?_
    refine V.iload 6 dX12_pageWorth_106 rfl ?_
    refine V.i2l dX12_pageWorth_108 ?_
    refine V.ladd dX12_pageWorth_109 ?_
    refine V.lstore [(7, _), (0, _), (1, _), (2, _), (3, _), (4, _), (5, _), (6, _)] dX12_pageWorth_110 (by decide) rfl ?_
    refine V.lload 0 dX12_pageWorth_112 rfl ?_
    refine V.ldc2 (v := 8191) dX12_pageWorth_114 kc_X12_309 ?_
    refine V.lrem dX12_pageWorth_117 (by decide) ?_
    refine V.l2i dX12_pageWorth_118 ?_
    refine V.istore [(9, _), (7, _), (0, _), (1, _), (2, _), (3, _), (4, _), (5, _), (6, _)] dX12_pageWorth_119 (by decide) rfl ?_
    refine V.aload_n 2 dX12_pageWorth_121 rfl rfl ?_
    refine V.getR (v := 266) fl_X12_71 sh_251 rfl fx_251_36 (by decide) dX12_pageWorth_122 ?_
    refine V.iload 0 dX12_pageWorth_125 rfl ?_
    obtain ⟨hk, hF⟩ := ck hF
    refine V.lald io_266 hk dX12_pageWorth_127 ?_
    refine V.lload 1 dX12_pageWorth_128 rfl ?_
    refine V.lcmp dX12_pageWorth_130 ?_
    refine V.if_ne (tgt := 142) dX12_pageWorth_131 rfl (fun c => ?_) (fun c => ?_)
    · replace hF := (if_neg c).symm.trans hF
      refine V.aload_n 2 dX12_pageWorth_142 rfl rfl ?_
      refine V.getR (v := 255) fl_X12_20 sh_251 rfl fx_251_4 (by decide) dX12_pageWorth_143 ?_
      refine V.bipush (v := 99) dX12_pageWorth_146 (by decide) ?_
      refine V.aload_n 2 dX12_pageWorth_148 rfl rfl ?_
      refine V.getR (v := 258) fl_X12_43 sh_251 rfl fx_251_20 (by decide) dX12_pageWorth_149 ?_
      refine V.iconst (v := 3) dX12_pageWorth_152 rfl ?_
      refine V.iload_n 3 dX12_pageWorth_153 rfl rfl ?_
      refine V.imul dX12_pageWorth_154 ?_
      refine V.iconst (v := 1) dX12_pageWorth_155 rfl ?_
      refine V.iadd dX12_pageWorth_156 ?_
      obtain ⟨hk, hF⟩ := ck hF
      refine V.iald io_258 hk dX12_pageWorth_157 ?_
      obtain ⟨hk, hF⟩ := ck hF
      refine V.iast io_255 hk dX12_pageWorth_158 ?_
      refine V.aload_n 2 dX12_pageWorth_159 rfl rfl ?_
      refine V.getR (v := 255) fl_X12_20 sh_251 rfl fx_251_4 (by decide) dX12_pageWorth_160 ?_
      refine V.bipush (v := 118) dX12_pageWorth_163 (by decide) ?_
      refine V.iload_n 4 dX12_pageWorth_165 rfl rfl ?_
      obtain ⟨hk, hF⟩ := ck hF
      refine V.iast io_255 hk dX12_pageWorth_166 ?_
      refine V.aload_n 2 dX12_pageWorth_167 rfl rfl ?_
      refine V.getR (v := 255) fl_X12_20 sh_251 rfl fx_251_4 (by decide) dX12_pageWorth_168 ?_
      refine V.bipush (v := 98) dX12_pageWorth_171 (by decide) ?_
      refine V.iload_n 5 dX12_pageWorth_173 rfl rfl ?_
      obtain ⟨hk, hF⟩ := ck hF
      refine V.iast io_255 hk dX12_pageWorth_174 ?_
      refine V.aload_n 2 dX12_pageWorth_175 rfl rfl ?_
      refine V.getR (v := 255) fl_X12_20 sh_251 rfl fx_251_4 (by decide) dX12_pageWorth_176 ?_
      refine V.bipush (v := 112) dX12_pageWorth_179 (by decide) ?_
      refine V.iload 6 dX12_pageWorth_181 rfl ?_
      obtain ⟨hk, hF⟩ := ck hF
      refine V.iast io_255 hk dX12_pageWorth_183 ?_
      refine V.aload_n 2 dX12_pageWorth_184 rfl rfl ?_
      refine V.getR (v := 255) fl_X12_20 sh_251 rfl fx_251_4 (by decide) dX12_pageWorth_185 ?_
      refine V.bipush (v := 110) dX12_pageWorth_188 (by decide) ?_
      refine V.iload 7 dX12_pageWorth_190 rfl ?_
      obtain ⟨hk, hF⟩ := ck hF
      refine V.iast io_255 hk dX12_pageWorth_192 ?_
      refine V.aload_n 2 dX12_pageWorth_193 rfl rfl ?_
      refine V.getR (v := 255) fl_X12_20 sh_251 rfl fx_251_4 (by decide) dX12_pageWorth_194 ?_
      refine V.bipush (v := 116) dX12_pageWorth_197 (by decide) ?_
      refine V.iload 8 dX12_pageWorth_199 rfl ?_
      obtain ⟨hk, hF⟩ := ck hF
      refine V.iast io_255 hk dX12_pageWorth_201 ?_
      refine V.aload_n 2 dX12_pageWorth_202 rfl rfl ?_
      refine V.aload_n 2 dX12_pageWorth_203 rfl rfl ?_
      refine V.getR (v := 253) fl_X12_13 sh_251 rfl fx_251_2 (by decide) dX12_pageWorth_204 ?_
      refine V.sipush (v := 240) dX12_pageWorth_207 (by decide) ?_
      refine V.aload_n 2 dX12_pageWorth_210 rfl rfl ?_
      refine V.getI fl_X12_67 sh_251 rfl km_251 dX12_pageWorth_211 ?_
      refine V.imul dX12_pageWorth_214 ?_
      refine V.aload_n 2 dX12_pageWorth_215 rfl rfl ?_
      refine V.getR (v := 254) fl_X12_16 sh_251 rfl fx_251_3 (by decide) dX12_pageWorth_216 ?_
      refine V.aload_n 2 dX12_pageWorth_219 rfl rfl ?_
      refine V.getI fl_X12_67 sh_251 rfl km_251 dX12_pageWorth_220 ?_
      obtain ⟨hk, hF⟩ := ck hF
      refine V.iald io_254 hk dX12_pageWorth_223 ?_
      obtain ⟨r4, h6, hc5, hF⟩ := bd_s hF
      refine V.callVv mf_X12_goThrough ml_X12_274 sh_251 (s_X12_goThrough io_253 hc5) (by decide) rfl rfl (Nat.le_of_ble_eq_true rfl) dX12_pageWorth_224 ?_
      refine V.aload_n 2 dX12_pageWorth_227 rfl rfl ?_
      refine V.getR (v := 266) fl_X12_71 sh_251 rfl fx_251_36 (by decide) dX12_pageWorth_228 ?_
      refine V.iload 0 dX12_pageWorth_231 rfl ?_
      refine V.lload 1 dX12_pageWorth_233 rfl ?_
      obtain ⟨hk, hF⟩ := ck hF
      refine V.last io_266 hk dX12_pageWorth_235 ?_
      refine V.aload_n 2 dX12_pageWorth_236 rfl rfl ?_
      refine V.getR (v := 267) fl_X12_75 sh_251 rfl fx_251_37 (by decide) dX12_pageWorth_237 ?_
      refine V.iload 0 dX12_pageWorth_240 rfl ?_
      refine V.aload_n 2 dX12_pageWorth_242 rfl rfl ?_
      refine V.getI fl_X12_201 sh_251 rfl km_251 dX12_pageWorth_243 ?_
      obtain ⟨hk, hF⟩ := ck hF
      refine V.iast io_267 hk dX12_pageWorth_246 ?_
      refine V.aload_n 2 dX12_pageWorth_247 rfl rfl ?_
      refine V.getI fl_X12_201 sh_251 rfl km_251 dX12_pageWorth_248 ?_
      cases hF
      exact V.iret dX12_pageWorth_251
    · replace hF := (if_pos c).symm.trans hF
      refine V.aload_n 2 dX12_pageWorth_134 rfl rfl ?_
      refine V.getR (v := 267) fl_X12_75 sh_251 rfl fx_251_37 (by decide) dX12_pageWorth_135 ?_
      refine V.iload 0 dX12_pageWorth_138 rfl ?_
      obtain ⟨hk, hF⟩ := ck hF
      refine V.iald io_267 hk dX12_pageWorth_140 ?_
      cases hF
      exact V.iret dX12_pageWorth_141
  · replace hF := (if_pos c).symm.trans hF
    refine V.aload_n 0 dX12_pageWorth_8 rfl rfl ?_
    refine V.getR (v := 258) fl_X12_43 sh_251 rfl fx_251_20 (by decide) dX12_pageWorth_9 ?_
    refine V.iconst (v := 3) dX12_pageWorth_12 rfl ?_
    refine V.iload_n 1 dX12_pageWorth_13 rfl rfl ?_
    refine V.imul dX12_pageWorth_14 ?_
    refine V.iconst (v := 1) dX12_pageWorth_15 rfl ?_
    refine V.iadd dX12_pageWorth_16 ?_
    obtain ⟨hk, hF⟩ := ck hF
    refine V.iald io_258 hk dX12_pageWorth_17 ?_
    refine V.iload_n 2 dX12_pageWorth_18 rfl rfl ?_
    refine V.iconst (v := 3) dX12_pageWorth_19 rfl ?_
    refine V.idiv dX12_pageWorth_20 (by decide) ?_
    refine V.iadd dX12_pageWorth_21 ?_
    refine V.iload_n 3 dX12_pageWorth_22 rfl rfl ?_
    refine V.isub dX12_pageWorth_23 ?_
    cases hF
    exact V.iret dX12_pageWorth_24
/-! MonsterCotModel.page -/
theorem dX12_page_0 : decode cX12_page 0 = .ok (.bipush (-9), 2) := by decide +kernel
theorem dX12_page_2 : decode cX12_page 2 = .ok (.bipush 20, 2) := by decide +kernel
theorem dX12_page_4 : decode cX12_page 4 = .ok (.aload_n 0, 1) := by decide +kernel
theorem dX12_page_5 : decode cX12_page 5 = .ok (.iload_n 1, 1) := by decide +kernel
theorem dX12_page_6 : decode cX12_page 6 = .ok (.iload_n 2, 1) := by decide +kernel
theorem dX12_page_7 : decode cX12_page 7 = .ok (.iload_n 3, 1) := by decide +kernel
theorem dX12_page_8 : decode cX12_page 8 = .ok (.iload 4, 2) := by decide +kernel
theorem dX12_page_10 : decode cX12_page 10 = .ok (.iload 5, 2) := by decide +kernel
theorem dX12_page_12 : decode cX12_page 12 = .ok (.iload 6, 2) := by decide +kernel
theorem dX12_page_14 : decode cX12_page 14 = .ok (.invokevirtual 311, 3) := by decide +kernel
theorem dX12_page_17 : decode cX12_page 17 = .ok (.invokestatic 315, 3) := by decide +kernel
theorem dX12_page_20 : decode cX12_page 20 = .ok (.invokestatic 317, 3) := by decide +kernel
theorem dX12_page_23 : decode cX12_page 23 = .ok (.ireturn, 1) := by decide +kernel
def X12_page (n : Nat) (x1 : Int32) (x2 : Int32) (x3 : Int32) (x4 : Int32) (x5 : Int32) (x6 : Int32) (h : Mm) : Option (Int32 × Mm) := (bd (X12_pageWorth n x1 x2 x3 x4 x5 x6 h) (fun r8 h10 => (bp (J9_min_7cf53 (20) r8 h10) (fun r11 => (bp (J9_max_7cf53 (-9) r11 h10) (fun r13 => (some (r13, h10))))))))
set_option maxRecDepth 100000 in
set_option maxHeartbeats 4000000 in
theorem s_X12_page {X : WX} {o : Mm} {n : Nat} {x1 : Int32} {x2 : Int32} {x3 : Int32} {x4 : Int32} {x5 : Int32} {x6 : Int32} {rv : Int32} {hz : Mm} {h : Mm} (hF : X12_page n x1 x2 x3 x4 x5 x6 h = some (rv, hz)) : Sat X yX12_page cX12_page 7 (some .int) 90 [.ref (xa X 251), .int x1, .int x2, .int x3, .int x4, .int x5, .int x6] false o h (some (.int rv)) hz := by
  unfold X12_page at hF
  refine Sat.mk (own := RX12) rfl (by decide +kernel) (Nat.le_of_ble_eq_true rfl) (fun G => ?_)
  refine V.sub (lv2 := [(0, _), (1, _), (2, _), (3, _), (4, _), (5, _), (6, _)]) [0, 1, 2, 3, 4, 5, 6] rfl ?_
  refine V.bipush (v := -9) dX12_page_0 (by decide) ?_
  refine V.bipush (v := 20) dX12_page_2 (by decide) ?_
  refine V.aload_n 0 dX12_page_4 rfl rfl ?_
  refine V.iload_n 1 dX12_page_5 rfl rfl ?_
  refine V.iload_n 2 dX12_page_6 rfl rfl ?_
  refine V.iload_n 3 dX12_page_7 rfl rfl ?_
  refine V.iload 4 dX12_page_8 rfl ?_
  refine V.iload 5 dX12_page_10 rfl ?_
  refine V.iload 6 dX12_page_12 rfl ?_
  obtain ⟨r8, h10, hc9, hF⟩ := bd_s hF
  refine V.callVi mf_X12_pageWorth ml_X12_311 sh_251 (s_X12_pageWorth hc9) (by decide) rfl rfl (Nat.le_of_ble_eq_true rfl) dX12_page_14 ?_
  obtain ⟨r11, hc12, hF⟩ := bp_s hF
  refine V.callSi mf_J9_min_7cf53 ml_X12_315 (s_J9_min_7cf53 hc12) (by decide) rfl rfl (Nat.le_of_ble_eq_true rfl) dX12_page_17 ?_
  obtain ⟨r13, hc14, hF⟩ := bp_s hF
  refine V.callSi mf_J9_max_7cf53 ml_X12_317 (s_J9_max_7cf53 hc14) (by decide) rfl rfl (Nat.le_of_ble_eq_true rfl) dX12_page_20 ?_
  cases hF
  exact V.iret dX12_page_23
/-! MonsterCotModel.held -/
theorem dX12_held_0 : decode cX12_held 0 = .ok (.iconst 0, 1) := by decide +kernel
theorem dX12_held_1 : decode cX12_held 1 = .ok (.bipush 99, 2) := by decide +kernel
theorem dX12_held_3 : decode cX12_held 3 = .ok (.iload_n 0, 1) := by decide +kernel
theorem dX12_held_4 : decode cX12_held 4 = .ok (.invokestatic 315, 3) := by decide +kernel
theorem dX12_held_7 : decode cX12_held 7 = .ok (.invokestatic 317, 3) := by decide +kernel
theorem dX12_held_10 : decode cX12_held 10 = .ok (.ireturn, 1) := by decide +kernel
def X12_held (x0 : Int32) (h : Mm) : Option Int32 := (bp (J9_min_7cf53 (99) x0 h) (fun r5 => (bp (J9_max_7cf53 (0) r5 h) (fun r7 => (some r7)))))
set_option maxRecDepth 100000 in
set_option maxHeartbeats 4000000 in
theorem s_X12_held {X : WX} {o : Mm} {x0 : Int32} {rv : Int32} {h : Mm} (hF : X12_held x0 h = some rv) : Sat X yX12_held cX12_held 1 (some .int) 2 [.int x0] false o h (some (.int rv)) h := by
  unfold X12_held at hF
  refine Sat.mk (own := RX12) rfl (by decide +kernel) (Nat.le_of_ble_eq_true rfl) (fun G => ?_)
  refine V.sub (lv2 := [(0, _)]) [0] rfl ?_
  refine V.iconst (v := 0) dX12_held_0 rfl ?_
  refine V.bipush (v := 99) dX12_held_1 (by decide) ?_
  refine V.iload_n 0 dX12_held_3 rfl rfl ?_
  obtain ⟨r5, hc6, hF⟩ := bp_s hF
  refine V.callSi mf_J9_min_7cf53 ml_X12_315 (s_J9_min_7cf53 hc6) (by decide) rfl rfl (Nat.le_of_ble_eq_true rfl) dX12_held_4 ?_
  obtain ⟨r7, hc8, hF⟩ := bp_s hF
  refine V.callSi mf_J9_max_7cf53 ml_X12_317 (s_J9_max_7cf53 hc8) (by decide) rfl rfl (Nat.le_of_ble_eq_true rfl) dX12_held_7 ?_
  cases hF
  exact V.iret dX12_held_10
/-! MonsterCotModel.isEnough -/
theorem dX12_isEnough_0 : decode cX12_isEnough 0 = .ok (.iload_n 1, 1) := by decide +kernel
theorem dX12_isEnough_1 : decode cX12_isEnough 1 = .ok (.aload_n 0, 1) := by decide +kernel
theorem dX12_isEnough_2 : decode cX12_isEnough 2 = .ok (.getfield 37, 3) := by decide +kernel
theorem dX12_isEnough_5 : decode cX12_isEnough 5 = .ok (.iconst 1, 1) := by decide +kernel
theorem dX12_isEnough_6 : decode cX12_isEnough 6 = .ok (.iaload, 1) := by decide +kernel
theorem dX12_isEnough_7 : decode cX12_isEnough 7 = .ok (.if_icmp .lt 7, 3) := by decide +kernel
theorem dX12_isEnough_10 : decode cX12_isEnough 10 = .ok (.iconst 1, 1) := by decide +kernel
theorem dX12_isEnough_11 : decode cX12_isEnough 11 = .ok (.goto 4, 3) := by decide +kernel
theorem dX12_isEnough_14 : decode cX12_isEnough 14 = .ok (.iconst 0, 1) := by decide +kernel
theorem dX12_isEnough_15 : decode cX12_isEnough 15 = .ok (.ireturn, 1) := by decide +kernel
def X12_isEnough (x1 : Int32) (h : Mm) : Option Bool := (if inB (1) (aln 256) then (if x1 < (h.1 256 (1).toNatClampNeg) then (some false) else (some true)) else none)
set_option maxRecDepth 100000 in
set_option maxHeartbeats 4000000 in
theorem s_X12_isEnough {X : WX} {o : Mm} {x1 : Int32} {rv : Bool} {h : Mm} (hF : X12_isEnough x1 h = some rv) : Sat X yX12_isEnough cX12_isEnough 2 (some .boolean) 1 [.ref (xa X 251), .int x1] false o h (some (.int (b2i rv))) h := by
  unfold X12_isEnough at hF
  refine Sat.mk (own := RX12) rfl (by decide +kernel) (Nat.le_of_ble_eq_true rfl) (fun G => ?_)
  refine V.sub (lv2 := [(0, _), (1, _)]) [0, 1] rfl ?_
  refine V.iload_n 1 dX12_isEnough_0 rfl rfl ?_
  refine V.aload_n 0 dX12_isEnough_1 rfl rfl ?_
  refine V.getR (v := 256) fl_X12_37 sh_251 rfl fx_251_18 (by decide) dX12_isEnough_2 ?_
  refine V.iconst (v := 1) dX12_isEnough_5 rfl ?_
  obtain ⟨hk, hF⟩ := ck hF
  refine V.iald io_256 hk dX12_isEnough_6 ?_
  refine V.icmp_lt (tgt := 14) dX12_isEnough_7 rfl (fun c => ?_) (fun c => ?_)
  · replace hF := (if_pos c).symm.trans hF
    refine V.iconst (v := 0) dX12_isEnough_14 rfl ?_
    cases hF
    exact V.bret dX12_isEnough_15
  · replace hF := (if_neg c).symm.trans hF
    refine V.iconst (v := 1) dX12_isEnough_10 rfl ?_
    refine V.goto (tgt := 15) dX12_isEnough_11 rfl ?_
    cases hF
    exact V.bret dX12_isEnough_15
/-! MonsterCotModel.canRead -/
theorem dX12_canRead_0 : decode cX12_canRead 0 = .ok (.aload_n 0, 1) := by decide +kernel
theorem dX12_canRead_1 : decode cX12_canRead 1 = .ok (.iload_n 2, 1) := by decide +kernel
theorem dX12_canRead_2 : decode cX12_canRead 2 = .ok (.invokevirtual 319, 3) := by decide +kernel
theorem dX12_canRead_5 : decode cX12_canRead 5 = .ok (.ifCond .eq 67, 3) := by decide +kernel
theorem dX12_canRead_8 : decode cX12_canRead 8 = .ok (.iload_n 3, 1) := by decide +kernel
theorem dX12_canRead_9 : decode cX12_canRead 9 = .ok (.i2l, 1) := by decide +kernel
theorem dX12_canRead_10 : decode cX12_canRead 10 = .ok (.iload 4, 2) := by decide +kernel
theorem dX12_canRead_12 : decode cX12_canRead 12 = .ok (.ifCond .eq 9, 3) := by decide +kernel
theorem dX12_canRead_15 : decode cX12_canRead 15 = .ok (.ldc2_w 269, 3) := by decide +kernel
theorem dX12_canRead_18 : decode cX12_canRead 18 = .ok (.goto 4, 3) := by decide +kernel
theorem dX12_canRead_21 : decode cX12_canRead 21 = .ok (.lconst 1, 1) := by decide +kernel
theorem dX12_canRead_22 : decode cX12_canRead 22 = .ok (.aload_n 0, 1) := by decide +kernel
theorem dX12_canRead_23 : decode cX12_canRead 23 = .ok (.iload_n 2, 1) := by decide +kernel
theorem dX12_canRead_24 : decode cX12_canRead 24 = .ok (.invokevirtual 322, 3) := by decide +kernel
theorem dX12_canRead_27 : decode cX12_canRead 27 = .ok (.i2l, 1) := by decide +kernel
theorem dX12_canRead_28 : decode cX12_canRead 28 = .ok (.invokestatic 214, 3) := by decide +kernel
theorem dX12_canRead_31 : decode cX12_canRead 31 = .ok (.ifCond .eq 41, 3) := by decide +kernel
theorem dX12_canRead_34 : decode cX12_canRead 34 = .ok (.aload_n 1, 1) := by decide +kernel
theorem dX12_canRead_35 : decode cX12_canRead 35 = .ok (.iconst 3, 1) := by decide +kernel
theorem dX12_canRead_36 : decode cX12_canRead 36 = .ok (.aload_n 1, 1) := by decide +kernel
theorem dX12_canRead_37 : decode cX12_canRead 37 = .ok (.bipush 23, 2) := by decide +kernel
theorem dX12_canRead_39 : decode cX12_canRead 39 = .ok (.iaload, 1) := by decide +kernel
theorem dX12_canRead_40 : decode cX12_canRead 40 = .ok (.imul, 1) := by decide +kernel
theorem dX12_canRead_41 : decode cX12_canRead 41 = .ok (.iconst 0, 1) := by decide +kernel
theorem dX12_canRead_42 : decode cX12_canRead 42 = .ok (.iadd, 1) := by decide +kernel
theorem dX12_canRead_43 : decode cX12_canRead 43 = .ok (.iaload, 1) := by decide +kernel
theorem dX12_canRead_44 : decode cX12_canRead 44 = .ok (.iload 4, 2) := by decide +kernel
theorem dX12_canRead_46 : decode cX12_canRead 46 = .ok (.ifCond .eq 9, 3) := by decide +kernel
theorem dX12_canRead_49 : decode cX12_canRead 49 = .ok (.iload_n 3, 1) := by decide +kernel
theorem dX12_canRead_50 : decode cX12_canRead 50 = .ok (.iconst 1, 1) := by decide +kernel
theorem dX12_canRead_51 : decode cX12_canRead 51 = .ok (.isub, 1) := by decide +kernel
theorem dX12_canRead_52 : decode cX12_canRead 52 = .ok (.goto 4, 3) := by decide +kernel
theorem dX12_canRead_55 : decode cX12_canRead 55 = .ok (.iload_n 3, 1) := by decide +kernel
theorem dX12_canRead_56 : decode cX12_canRead 56 = .ok (.iadd, 1) := by decide +kernel
theorem dX12_canRead_57 : decode cX12_canRead 57 = .ok (.aload_n 0, 1) := by decide +kernel
theorem dX12_canRead_58 : decode cX12_canRead 58 = .ok (.aload_n 1, 1) := by decide +kernel
theorem dX12_canRead_59 : decode cX12_canRead 59 = .ok (.bipush 23, 2) := by decide +kernel
theorem dX12_canRead_61 : decode cX12_canRead 61 = .ok (.iaload, 1) := by decide +kernel
theorem dX12_canRead_62 : decode cX12_canRead 62 = .ok (.invokevirtual 325, 3) := by decide +kernel
theorem dX12_canRead_65 : decode cX12_canRead 65 = .ok (.if_icmp .gt 7, 3) := by decide +kernel
theorem dX12_canRead_68 : decode cX12_canRead 68 = .ok (.iconst 1, 1) := by decide +kernel
theorem dX12_canRead_69 : decode cX12_canRead 69 = .ok (.goto 4, 3) := by decide +kernel
theorem dX12_canRead_72 : decode cX12_canRead 72 = .ok (.iconst 0, 1) := by decide +kernel
theorem dX12_canRead_73 : decode cX12_canRead 73 = .ok (.ireturn, 1) := by decide +kernel
def X12_canRead_56 (a1 : Nat) (s0 : Int32) (s1 : Int32) (h : Mm) : Option Bool := (if inB (23) (aln a1) then (bp (X12_strength (h.1 a1 (23).toNatClampNeg) h) (fun r15 => (if r15 < (s0 + s1) then (some false) else (some true)))) else none)
set_option maxRecDepth 100000 in
set_option maxHeartbeats 4000000 in
theorem v_X12_canRead_56 {X : WX} {G : GX} {o : Mm} {a1 : Nat} {rv : Bool} {h : Mm} (ha1 : isO false 0 a1) {s0 : Int32} {s1 : Int32} (hF : X12_canRead_56 a1 s0 s1 h = some rv) : V X G RX12 cX12_canRead 5 (some .boolean) 2 0 0 (QR X G false o (some (.int (b2i rv))) h) false o 56 [(0, .ref (xa X 251)), (1, .ref (xa X a1))] [.int s1, .int s0] h := by
  unfold X12_canRead_56 at hF
  refine V.iadd dX12_canRead_56 ?_
  refine V.aload_n 0 dX12_canRead_57 rfl rfl ?_
  refine V.aload_n 1 dX12_canRead_58 rfl rfl ?_
  refine V.bipush (v := 23) dX12_canRead_59 (by decide) ?_
  obtain ⟨hk, hF⟩ := ck hF
  refine V.iald ha1 hk dX12_canRead_61 ?_
  obtain ⟨r15, hc16, hF⟩ := bp_s hF
  refine V.callVi mf_X12_strength ml_X12_325 sh_251 (s_X12_strength hc16) (by decide) rfl rfl (Nat.le_of_ble_eq_true rfl) dX12_canRead_62 ?_
  refine V.icmp_gt (tgt := 72) dX12_canRead_65 rfl (fun c => ?_) (fun c => ?_)
  · replace hF := (if_pos c).symm.trans hF
    refine V.iconst (v := 0) dX12_canRead_72 rfl ?_
    cases hF
    exact V.bret dX12_canRead_73
  · replace hF := (if_neg c).symm.trans hF
    refine V.iconst (v := 1) dX12_canRead_68 rfl ?_
    refine V.goto (tgt := 73) dX12_canRead_69 rfl ?_
    cases hF
    exact V.bret dX12_canRead_73
def X12_canRead_22 (a1 : Nat) (x2 : Int32) (x3 : Int32) (x4 : Bool) (s0 : Int64) (s1 : Int64) (h : Mm) : Option Bool := (bp (X12_pagesOf x2 h) (fun r17 => (bp (X12_isIn s0 s1 r17.toInt64 h) (fun r19 => (if r19 = true then (if inB (23) (aln a1) then (if inB (((3) * (h.1 a1 (23).toNatClampNeg)) + (0)) (aln a1) then (if x4 = true then (X12_canRead_56 a1 (h.1 a1 (((3) * (h.1 a1 (23).toNatClampNeg)) + (0)).toNatClampNeg) (x3 - (1)) h) else (X12_canRead_56 a1 (h.1 a1 (((3) * (h.1 a1 (23).toNatClampNeg)) + (0)).toNatClampNeg) x3 h)) else none) else none) else (some false))))))
set_option maxRecDepth 100000 in
set_option maxHeartbeats 4000000 in
theorem v_X12_canRead_22 {X : WX} {G : GX} {o : Mm} {a1 : Nat} {rv : Bool} {h : Mm} (ha1 : isO false 0 a1) {x2 : Int32} {x3 : Int32} {x4 : Bool} {s0 : Int64} {s1 : Int64} (hF : X12_canRead_22 a1 x2 x3 x4 s0 s1 h = some rv) : V X G RX12 cX12_canRead 5 (some .boolean) 2 0 0 (QR X G false o (some (.int (b2i rv))) h) false o 22 [(0, .ref (xa X 251)), (1, .ref (xa X a1)), (2, .int x2), (3, .int x3), (4, .int (b2i x4))] [.long s1, .long s0] h := by
  unfold X12_canRead_22 at hF
  refine V.aload_n 0 dX12_canRead_22 rfl rfl ?_
  refine V.iload_n 2 dX12_canRead_23 rfl rfl ?_
  obtain ⟨r17, hc18, hF⟩ := bp_s hF
  refine V.callVi mf_X12_pagesOf ml_X12_322 sh_251 (s_X12_pagesOf hc18) (by decide) rfl rfl (Nat.le_of_ble_eq_true rfl) dX12_canRead_24 ?_
  refine V.i2l dX12_canRead_27 ?_
  obtain ⟨r19, hc20, hF⟩ := bp_s hF
  refine V.callSi mf_X12_isIn ml_X12_214 (s_X12_isIn hc20) (by decide) rfl rfl (Nat.le_of_ble_eq_true rfl) dX12_canRead_28 ?_
  refine V.ifz_eq (tgt := 72) dX12_canRead_31 rfl (fun c => ?_) (fun c => ?_)
  · replace hF := (if_neg c).symm.trans hF
    refine V.iconst (v := 0) dX12_canRead_72 rfl ?_
    cases hF
    exact V.bret dX12_canRead_73
  · replace hF := (if_pos c).symm.trans hF
    refine V.aload_n 1 dX12_canRead_34 rfl rfl ?_
    refine V.iconst (v := 3) dX12_canRead_35 rfl ?_
    refine V.aload_n 1 dX12_canRead_36 rfl rfl ?_
    refine V.bipush (v := 23) dX12_canRead_37 (by decide) ?_
    obtain ⟨hk, hF⟩ := ck hF
    refine V.iald ha1 hk dX12_canRead_39 ?_
    refine V.imul dX12_canRead_40 ?_
    refine V.iconst (v := 0) dX12_canRead_41 rfl ?_
    refine V.iadd dX12_canRead_42 ?_
    obtain ⟨hk, hF⟩ := ck hF
    refine V.iald ha1 hk dX12_canRead_43 ?_
    refine V.iload 4 dX12_canRead_44 rfl ?_
    refine V.ifz_eq (tgt := 55) dX12_canRead_46 rfl (fun c => ?_) (fun c => ?_)
    · replace hF := (if_neg c).symm.trans hF
      refine V.iload_n 3 dX12_canRead_55 rfl rfl ?_
      exact V.sub [0, 1] rfl (v_X12_canRead_56 ha1 hF)
    · replace hF := (if_pos c).symm.trans hF
      refine V.iload_n 3 dX12_canRead_49 rfl rfl ?_
      refine V.iconst (v := 1) dX12_canRead_50 rfl ?_
      refine V.isub dX12_canRead_51 ?_
      refine V.goto (tgt := 56) dX12_canRead_52 rfl ?_
      exact V.sub [0, 1] rfl (v_X12_canRead_56 ha1 hF)
def X12_canRead (a1 : Nat) (x2 : Int32) (x3 : Int32) (x4 : Bool) (h : Mm) : Option Bool := (bp (X12_isBook x2 h) (fun r21 => (if r21 = true then (if x4 = true then (X12_canRead_22 a1 x2 x3 x4 x3.toInt64 (2 : Int64) h) else (X12_canRead_22 a1 x2 x3 x4 x3.toInt64 (1 : Int64) h)) else (some false))))
set_option maxRecDepth 100000 in
set_option maxHeartbeats 4000000 in
theorem s_X12_canRead {X : WX} {o : Mm} {a1 : Nat} {x2 : Int32} {x3 : Int32} {x4 : Bool} {rv : Bool} {h : Mm} (ha1 : isO false 0 a1) (hF : X12_canRead a1 x2 x3 x4 h = some rv) : Sat X yX12_canRead cX12_canRead 5 (some .boolean) 2 [.ref (xa X 251), .ref (xa X a1), .int x2, .int x3, .int (b2i x4)] false o h (some (.int (b2i rv))) h := by
  unfold X12_canRead at hF
  refine Sat.mk (own := RX12) rfl (by decide +kernel) (Nat.le_of_ble_eq_true rfl) (fun G => ?_)
  refine V.sub (lv2 := [(0, _), (1, _), (2, _), (3, _), (4, _)]) [0, 1, 2, 3, 4] rfl ?_
  refine V.aload_n 0 dX12_canRead_0 rfl rfl ?_
  refine V.iload_n 2 dX12_canRead_1 rfl rfl ?_
  obtain ⟨r21, hc22, hF⟩ := bp_s hF
  refine V.callVi mf_X12_isBook ml_X12_319 sh_251 (s_X12_isBook hc22) (by decide) rfl rfl (Nat.le_of_ble_eq_true rfl) dX12_canRead_2 ?_
  refine V.ifz_eq (tgt := 72) dX12_canRead_5 rfl (fun c => ?_) (fun c => ?_)
  · replace hF := (if_neg c).symm.trans hF
    refine V.iconst (v := 0) dX12_canRead_72 rfl ?_
    cases hF
    exact V.bret dX12_canRead_73
  · replace hF := (if_pos c).symm.trans hF
    refine V.iload_n 3 dX12_canRead_8 rfl rfl ?_
    refine V.i2l dX12_canRead_9 ?_
    refine V.iload 4 dX12_canRead_10 rfl ?_
    refine V.ifz_eq (tgt := 21) dX12_canRead_12 rfl (fun c => ?_) (fun c => ?_)
    · replace hF := (if_neg c).symm.trans hF
      refine V.lconst (v := 1) dX12_canRead_21 rfl ?_
      exact (v_X12_canRead_22 ha1 hF)
    · replace hF := (if_pos c).symm.trans hF
      refine V.ldc2 (v := 2) dX12_canRead_15 kc_X12_269 ?_
      refine V.goto (tgt := 22) dX12_canRead_18 rfl ?_
      exact (v_X12_canRead_22 ha1 hF)
/-! MonsterCotModel.reads -/
theorem dX12_reads_0 : decode cX12_reads 0 = .ok (.iconst 3, 1) := by decide +kernel
theorem dX12_reads_1 : decode cX12_reads 1 = .ok (.aload_n 1, 1) := by decide +kernel
theorem dX12_reads_2 : decode cX12_reads 2 = .ok (.bipush 23, 2) := by decide +kernel
theorem dX12_reads_4 : decode cX12_reads 4 = .ok (.iaload, 1) := by decide +kernel
theorem dX12_reads_5 : decode cX12_reads 5 = .ok (.imul, 1) := by decide +kernel
theorem dX12_reads_6 : decode cX12_reads 6 = .ok (.istore 5, 2) := by decide +kernel
theorem dX12_reads_8 : decode cX12_reads 8 = .ok (.bipush 18, 2) := by decide +kernel
theorem dX12_reads_10 : decode cX12_reads 10 = .ok (.aload_n 0, 1) := by decide +kernel
theorem dX12_reads_11 : decode cX12_reads 11 = .ok (.iload_n 2, 1) := by decide +kernel
theorem dX12_reads_12 : decode cX12_reads 12 = .ok (.invokevirtual 328, 3) := by decide +kernel
theorem dX12_reads_15 : decode cX12_reads 15 = .ok (.iadd, 1) := by decide +kernel
theorem dX12_reads_16 : decode cX12_reads 16 = .ok (.istore 6, 2) := by decide +kernel
theorem dX12_reads_18 : decode cX12_reads 18 = .ok (.iconst 0, 1) := by decide +kernel
theorem dX12_reads_19 : decode cX12_reads 19 = .ok (.istore 7, 2) := by decide +kernel
theorem dX12_reads_21 : decode cX12_reads 21 = .ok (.iload 7, 2) := by decide +kernel
theorem dX12_reads_23 : decode cX12_reads 23 = .ok (.iload 4, 2) := by decide +kernel
theorem dX12_reads_25 : decode cX12_reads 25 = .ok (.ifCond .eq 9, 3) := by decide +kernel
theorem dX12_reads_28 : decode cX12_reads 28 = .ok (.iload_n 3, 1) := by decide +kernel
theorem dX12_reads_29 : decode cX12_reads 29 = .ok (.iconst 1, 1) := by decide +kernel
theorem dX12_reads_30 : decode cX12_reads 30 = .ok (.isub, 1) := by decide +kernel
theorem dX12_reads_31 : decode cX12_reads 31 = .ok (.goto 4, 3) := by decide +kernel
theorem dX12_reads_34 : decode cX12_reads 34 = .ok (.iload_n 3, 1) := by decide +kernel
theorem dX12_reads_35 : decode cX12_reads 35 = .ok (.if_icmp .ge 58, 3) := by decide +kernel
theorem dX12_reads_38 : decode cX12_reads 38 = .ok (.aload_n 1, 1) := by decide +kernel
theorem dX12_reads_39 : decode cX12_reads 39 = .ok (.bipush 22, 2) := by decide +kernel
theorem dX12_reads_41 : decode cX12_reads 41 = .ok (.aload_n 1, 1) := by decide +kernel
theorem dX12_reads_42 : decode cX12_reads 42 = .ok (.bipush 22, 2) := by decide +kernel
theorem dX12_reads_44 : decode cX12_reads 44 = .ok (.iaload, 1) := by decide +kernel
theorem dX12_reads_45 : decode cX12_reads 45 = .ok (.aload_n 0, 1) := by decide +kernel
theorem dX12_reads_46 : decode cX12_reads 46 = .ok (.iload_n 2, 1) := by decide +kernel
theorem dX12_reads_47 : decode cX12_reads 47 = .ok (.aload_n 1, 1) := by decide +kernel
theorem dX12_reads_48 : decode cX12_reads 48 = .ok (.iload 5, 2) := by decide +kernel
theorem dX12_reads_50 : decode cX12_reads 50 = .ok (.iconst 1, 1) := by decide +kernel
theorem dX12_reads_51 : decode cX12_reads 51 = .ok (.iadd, 1) := by decide +kernel
theorem dX12_reads_52 : decode cX12_reads 52 = .ok (.iaload, 1) := by decide +kernel
theorem dX12_reads_53 : decode cX12_reads 53 = .ok (.aload_n 1, 1) := by decide +kernel
theorem dX12_reads_54 : decode cX12_reads 54 = .ok (.iload 6, 2) := by decide +kernel
theorem dX12_reads_56 : decode cX12_reads 56 = .ok (.iaload, 1) := by decide +kernel
theorem dX12_reads_57 : decode cX12_reads 57 = .ok (.iload 7, 2) := by decide +kernel
theorem dX12_reads_59 : decode cX12_reads 59 = .ok (.aload_n 1, 1) := by decide +kernel
theorem dX12_reads_60 : decode cX12_reads 60 = .ok (.bipush 29, 2) := by decide +kernel
theorem dX12_reads_62 : decode cX12_reads 62 = .ok (.iaload, 1) := by decide +kernel
theorem dX12_reads_63 : decode cX12_reads 63 = .ok (.aload_n 1, 1) := by decide +kernel
theorem dX12_reads_64 : decode cX12_reads 64 = .ok (.iload 5, 2) := by decide +kernel
theorem dX12_reads_66 : decode cX12_reads 66 = .ok (.iconst 0, 1) := by decide +kernel
theorem dX12_reads_67 : decode cX12_reads 67 = .ok (.iadd, 1) := by decide +kernel
theorem dX12_reads_68 : decode cX12_reads 68 = .ok (.iaload, 1) := by decide +kernel
theorem dX12_reads_69 : decode cX12_reads 69 = .ok (.invokevirtual 331, 3) := by decide +kernel
theorem dX12_reads_72 : decode cX12_reads 72 = .ok (.iadd, 1) := by decide +kernel
theorem dX12_reads_73 : decode cX12_reads 73 = .ok (.invokestatic 334, 3) := by decide +kernel
theorem dX12_reads_76 : decode cX12_reads 76 = .ok (.iastore, 1) := by decide +kernel
theorem dX12_reads_77 : decode cX12_reads 77 = .ok (.aload_n 1, 1) := by decide +kernel
theorem dX12_reads_78 : decode cX12_reads 78 = .ok (.iload 5, 2) := by decide +kernel
theorem dX12_reads_80 : decode cX12_reads 80 = .ok (.iconst 0, 1) := by decide +kernel
theorem dX12_reads_81 : decode cX12_reads 81 = .ok (.iadd, 1) := by decide +kernel
theorem dX12_reads_82 : decode cX12_reads 82 = .ok (.dup2, 1) := by decide +kernel
theorem dX12_reads_83 : decode cX12_reads 83 = .ok (.iaload, 1) := by decide +kernel
theorem dX12_reads_84 : decode cX12_reads 84 = .ok (.iconst 1, 1) := by decide +kernel
theorem dX12_reads_85 : decode cX12_reads 85 = .ok (.iadd, 1) := by decide +kernel
theorem dX12_reads_86 : decode cX12_reads 86 = .ok (.iastore, 1) := by decide +kernel
theorem dX12_reads_87 : decode cX12_reads 87 = .ok (.iinc 7 1, 3) := by decide +kernel
theorem dX12_reads_90 : decode cX12_reads 90 = .ok (.goto (-69), 3) := by decide +kernel
theorem dX12_reads_93 : decode cX12_reads 93 = .ok (.iload 4, 2) := by decide +kernel
theorem dX12_reads_95 : decode cX12_reads 95 = .ok (.ifCond .eq 16, 3) := by decide +kernel
theorem dX12_reads_98 : decode cX12_reads 98 = .ok (.aload_n 1, 1) := by decide +kernel
theorem dX12_reads_99 : decode cX12_reads 99 = .ok (.bipush 22, 2) := by decide +kernel
theorem dX12_reads_101 : decode cX12_reads 101 = .ok (.aload_n 1, 1) := by decide +kernel
theorem dX12_reads_102 : decode cX12_reads 102 = .ok (.bipush 22, 2) := by decide +kernel
theorem dX12_reads_104 : decode cX12_reads 104 = .ok (.iaload, 1) := by decide +kernel
theorem dX12_reads_105 : decode cX12_reads 105 = .ok (.iconst 5, 1) := by decide +kernel
theorem dX12_reads_106 : decode cX12_reads 106 = .ok (.isub, 1) := by decide +kernel
theorem dX12_reads_107 : decode cX12_reads 107 = .ok (.invokestatic 334, 3) := by decide +kernel
theorem dX12_reads_110 : decode cX12_reads 110 = .ok (.iastore, 1) := by decide +kernel
theorem dX12_reads_111 : decode cX12_reads 111 = .ok (.aload_n 1, 1) := by decide +kernel
theorem dX12_reads_112 : decode cX12_reads 112 = .ok (.iload 6, 2) := by decide +kernel
theorem dX12_reads_114 : decode cX12_reads 114 = .ok (.bipush 9, 2) := by decide +kernel
theorem dX12_reads_116 : decode cX12_reads 116 = .ok (.aload_n 1, 1) := by decide +kernel
theorem dX12_reads_117 : decode cX12_reads 117 = .ok (.iload 6, 2) := by decide +kernel
theorem dX12_reads_119 : decode cX12_reads 119 = .ok (.iaload, 1) := by decide +kernel
theorem dX12_reads_120 : decode cX12_reads 120 = .ok (.iconst 1, 1) := by decide +kernel
theorem dX12_reads_121 : decode cX12_reads 121 = .ok (.iadd, 1) := by decide +kernel
theorem dX12_reads_122 : decode cX12_reads 122 = .ok (.invokestatic 315, 3) := by decide +kernel
theorem dX12_reads_125 : decode cX12_reads 125 = .ok (.iastore, 1) := by decide +kernel
theorem dX12_reads_126 : decode cX12_reads 126 = .ok (.aload_n 1, 1) := by decide +kernel
theorem dX12_reads_127 : decode cX12_reads 127 = .ok (.bipush 24, 2) := by decide +kernel
theorem dX12_reads_129 : decode cX12_reads 129 = .ok (.dup2, 1) := by decide +kernel
theorem dX12_reads_130 : decode cX12_reads 130 = .ok (.iaload, 1) := by decide +kernel
theorem dX12_reads_131 : decode cX12_reads 131 = .ok (.iconst 1, 1) := by decide +kernel
theorem dX12_reads_132 : decode cX12_reads 132 = .ok (.iload_n 2, 1) := by decide +kernel
theorem dX12_reads_133 : decode cX12_reads 133 = .ok (.ishl, 1) := by decide +kernel
theorem dX12_reads_134 : decode cX12_reads 134 = .ok (.ior, 1) := by decide +kernel
theorem dX12_reads_135 : decode cX12_reads 135 = .ok (.iastore, 1) := by decide +kernel
theorem dX12_reads_136 : decode cX12_reads 136 = .ok (.return_, 1) := by decide +kernel
def X12_reads_111 (n : Nat) (a1 : Nat) (x2 : Int32) (x6 : Int32) (h : Mm) : Option (Unit × Mm) := (if inB x6 (aln a1) then (bp (J9_min_7cf53 (9) ((h.1 a1 x6.toNatClampNeg) + (1)) h) (fun r34 => (if inB x6 (aln a1) then (if inB (24) (aln a1) then (if inB (24) (aln a1) then (some ((), (wI (wI h a1 x6.toNatClampNeg r34) a1 (24).toNatClampNeg (((wI h a1 x6.toNatClampNeg r34).1 a1 (24).toNatClampNeg) ||| ((1) <<< (x2 &&& 31)))))) else none) else none) else none))) else none)
set_option maxRecDepth 100000 in
set_option maxHeartbeats 4000000 in
theorem v_X12_reads_111 {X : WX} {G : GX} {o : Mm} {n : Nat} {a1 : Nat} {rv : Unit} {hz : Mm} (ha1 : isO false 0 a1) {x2 : Int32} {x6 : Int32} {h : Mm} (hF : X12_reads_111 n a1 x2 x6 h = some (rv, hz)) : V X G RX12 cX12_reads 8 (none) 91 0 0 (QR X G false o none hz) false o 111 [(1, .ref (xa X a1)), (2, .int x2), (6, .int x6)] [] h := by
  unfold X12_reads_111 at hF
  refine V.aload_n 0 dX12_reads_111 rfl rfl ?_
  refine V.iload 2 dX12_reads_112 rfl ?_
  refine V.bipush (v := 9) dX12_reads_114 (by decide) ?_
  refine V.aload_n 0 dX12_reads_116 rfl rfl ?_
  refine V.iload 2 dX12_reads_117 rfl ?_
  obtain ⟨hk, hF⟩ := ck hF
  refine V.iald ha1 hk dX12_reads_119 ?_
  refine V.iconst (v := 1) dX12_reads_120 rfl ?_
  refine V.iadd dX12_reads_121 ?_
  obtain ⟨r34, hc35, hF⟩ := bp_s hF
  refine V.callSi mf_J9_min_7cf53 ml_X12_315 (s_J9_min_7cf53 hc35) (by decide) rfl rfl (Nat.le_of_ble_eq_true rfl) dX12_reads_122 ?_
  obtain ⟨hk, hF⟩ := ck hF
  refine V.iast ha1 hk dX12_reads_125 ?_
  refine V.aload_n 0 dX12_reads_126 rfl rfl ?_
  refine V.bipush (v := 24) dX12_reads_127 (by decide) ?_
  refine V.dup2 dX12_reads_129 rfl rfl ?_
  obtain ⟨hk, hF⟩ := ck hF
  refine V.iald ha1 hk dX12_reads_130 ?_
  refine V.iconst (v := 1) dX12_reads_131 rfl ?_
  refine V.iload_n 1 dX12_reads_132 rfl rfl ?_
  refine V.ishl dX12_reads_133 ?_
  refine V.ior dX12_reads_134 ?_
  obtain ⟨hk, hF⟩ := ck hF
  refine V.iast ha1 hk dX12_reads_135 ?_
  cases hF
  exact V.vret dX12_reads_136
def X12_reads_35 (n : Nat) (K21 : Int32 → Int32 → Bool → Int32 → Int32 → Int32 → Mm → Option (Unit × Mm)) (a1 : Nat) (x2 : Int32) (x3 : Int32) (x4 : Bool) (x5 : Int32) (x6 : Int32) (x7 : Int32) (s0 : Int32) (s1 : Int32) (h : Mm) : Option (Unit × Mm) := (if s1 ≤ s0 then (if x4 = true then (if inB (22) (aln a1) then (bp (X12_held ((h.1 a1 (22).toNatClampNeg) - (5)) h) (fun r36 => (if inB (22) (aln a1) then (X12_reads_111 n a1 x2 x6 (wI h a1 (22).toNatClampNeg r36)) else none))) else none) else (X12_reads_111 n a1 x2 x6 h)) else (if inB (22) (aln a1) then (if inB (x5 + (1)) (aln a1) then (if inB x6 (aln a1) then (if inB (29) (aln a1) then (if inB (x5 + (0)) (aln a1) then (bd (X12_page n x2 (h.1 a1 (x5 + (1)).toNatClampNeg) (h.1 a1 x6.toNatClampNeg) x7 (h.1 a1 (29).toNatClampNeg) (h.1 a1 (x5 + (0)).toNatClampNeg) h) (fun r38 h40 => (bp (X12_held ((h.1 a1 (22).toNatClampNeg) + r38) h40) (fun r41 => (if inB (22) (aln a1) then (if inB (x5 + (0)) (aln a1) then (if inB (x5 + (0)) (aln a1) then (K21 x2 x3 x4 x5 x6 (x7 + (1)) (wI (wI h40 a1 (22).toNatClampNeg r41) a1 (x5 + (0)).toNatClampNeg (((wI h40 a1 (22).toNatClampNeg r41).1 a1 (x5 + (0)).toNatClampNeg) + (1)))) else none) else none) else none))))) else none) else none) else none) else none) else none))
set_option maxRecDepth 100000 in
set_option maxHeartbeats 4000000 in
theorem v_X12_reads_35 {X : WX} {G : GX} {o : Mm} {n : Nat} {K21 : Int32 → Int32 → Bool → Int32 → Int32 → Int32 → Mm → Option (Unit × Mm)} {a1 : Nat} {rv : Unit} {hz : Mm} (hK21 : ∀ (x2 : Int32) (x3 : Int32) (x4 : Bool) (x5 : Int32) (x6 : Int32) (x7 : Int32) (h : Mm), K21 x2 x3 x4 x5 x6 x7 h = some (rv, hz) → V X G RX12 cX12_reads 8 (none) 91 0 0 (QR X G false o none hz) false o 21 [(0, .ref (xa X 251)), (1, .ref (xa X a1)), (2, .int x2), (3, .int x3), (4, .int (b2i x4)), (5, .int x5), (6, .int x6), (7, .int x7)] [] h) (ha1 : isO false 0 a1) {x2 : Int32} {x3 : Int32} {x4 : Bool} {x5 : Int32} {x6 : Int32} {x7 : Int32} {s0 : Int32} {s1 : Int32} {h : Mm} (hF : X12_reads_35 n K21 a1 x2 x3 x4 x5 x6 x7 s0 s1 h = some (rv, hz)) : V X G RX12 cX12_reads 8 (none) 91 0 0 (QR X G false o none hz) false o 35 [(0, .ref (xa X 251)), (1, .ref (xa X a1)), (2, .int x2), (3, .int x3), (4, .int (b2i x4)), (5, .int x5), (6, .int x6), (7, .int x7)] [.int s1, .int s0] h := by
  unfold X12_reads_35 at hF
  refine V.icmp_ge (tgt := 93) dX12_reads_35 rfl (fun c => ?_) (fun c => ?_)
  · replace hF := (if_pos c).symm.trans hF
    refine V.iload 4 dX12_reads_93 rfl ?_
    refine V.ifz_eq (tgt := 111) dX12_reads_95 rfl (fun c => ?_) (fun c => ?_)
    · replace hF := (if_neg c).symm.trans hF
      exact V.sub [1, 2, 6] rfl (v_X12_reads_111 ha1 hF)
    · replace hF := (if_pos c).symm.trans hF
      refine V.aload_n 1 dX12_reads_98 rfl rfl ?_
      refine V.bipush (v := 22) dX12_reads_99 (by decide) ?_
      refine V.aload_n 1 dX12_reads_101 rfl rfl ?_
      refine V.bipush (v := 22) dX12_reads_102 (by decide) ?_
      obtain ⟨hk, hF⟩ := ck hF
      refine V.iald ha1 hk dX12_reads_104 ?_
      refine V.iconst (v := 5) dX12_reads_105 rfl ?_
      refine V.isub dX12_reads_106 ?_
      obtain ⟨r36, hc37, hF⟩ := bp_s hF
      refine V.callSi mf_X12_held ml_X12_334 (s_X12_held hc37) (by decide) rfl rfl (Nat.le_of_ble_eq_true rfl) dX12_reads_107 ?_
      obtain ⟨hk, hF⟩ := ck hF
      refine V.iast ha1 hk dX12_reads_110 ?_
      exact V.sub [1, 2, 6] rfl (v_X12_reads_111 ha1 hF)
  · replace hF := (if_neg c).symm.trans hF
    refine V.aload_n 1 dX12_reads_38 rfl rfl ?_
    refine V.bipush (v := 22) dX12_reads_39 (by decide) ?_
    refine V.aload_n 1 dX12_reads_41 rfl rfl ?_
    refine V.bipush (v := 22) dX12_reads_42 (by decide) ?_
    obtain ⟨hk, hF⟩ := ck hF
    refine V.iald ha1 hk dX12_reads_44 ?_
    refine V.aload_n 0 dX12_reads_45 rfl rfl ?_
    refine V.iload_n 2 dX12_reads_46 rfl rfl ?_
    refine V.aload_n 1 dX12_reads_47 rfl rfl ?_
    refine V.iload 5 dX12_reads_48 rfl ?_
    refine V.iconst (v := 1) dX12_reads_50 rfl ?_
    refine V.iadd dX12_reads_51 ?_
    obtain ⟨hk, hF⟩ := ck hF
    refine V.iald ha1 hk dX12_reads_52 ?_
    refine V.aload_n 1 dX12_reads_53 rfl rfl ?_
    refine V.iload 6 dX12_reads_54 rfl ?_
    obtain ⟨hk, hF⟩ := ck hF
    refine V.iald ha1 hk dX12_reads_56 ?_
    refine V.iload 7 dX12_reads_57 rfl ?_
    refine V.aload_n 1 dX12_reads_59 rfl rfl ?_
    refine V.bipush (v := 29) dX12_reads_60 (by decide) ?_
    obtain ⟨hk, hF⟩ := ck hF
    refine V.iald ha1 hk dX12_reads_62 ?_
    refine V.aload_n 1 dX12_reads_63 rfl rfl ?_
    refine V.iload 5 dX12_reads_64 rfl ?_
    refine V.iconst (v := 0) dX12_reads_66 rfl ?_
    refine V.iadd dX12_reads_67 ?_
    obtain ⟨hk, hF⟩ := ck hF
    refine V.iald ha1 hk dX12_reads_68 ?_
    obtain ⟨r38, h40, hc39, hF⟩ := bd_s hF
    refine V.callVi mf_X12_page ml_X12_331 sh_251 (s_X12_page hc39) (by decide) rfl rfl (Nat.le_of_ble_eq_true rfl) dX12_reads_69 ?_
    refine V.iadd dX12_reads_72 ?_
    obtain ⟨r41, hc42, hF⟩ := bp_s hF
    refine V.callSi mf_X12_held ml_X12_334 (s_X12_held hc42) (by decide) rfl rfl (Nat.le_of_ble_eq_true rfl) dX12_reads_73 ?_
    obtain ⟨hk, hF⟩ := ck hF
    refine V.iast ha1 hk dX12_reads_76 ?_
    refine V.aload_n 1 dX12_reads_77 rfl rfl ?_
    refine V.iload 5 dX12_reads_78 rfl ?_
    refine V.iconst (v := 0) dX12_reads_80 rfl ?_
    refine V.iadd dX12_reads_81 ?_
    refine V.dup2 dX12_reads_82 rfl rfl ?_
    obtain ⟨hk, hF⟩ := ck hF
    refine V.iald ha1 hk dX12_reads_83 ?_
    refine V.iconst (v := 1) dX12_reads_84 rfl ?_
    refine V.iadd dX12_reads_85 ?_
    obtain ⟨hk, hF⟩ := ck hF
    refine V.iast ha1 hk dX12_reads_86 ?_
    refine V.iinc (v := (x7 + (1))) 7 [(7, _), (0, _), (1, _), (2, _), (3, _), (4, _), (5, _), (6, _)] dX12_reads_87 rfl rfl (by decide) rfl ?_
    refine V.goto (tgt := 21) dX12_reads_90 rfl ?_
    exact V.sub [1, 2, 3, 4, 5, 6, 7, 0] rfl (hK21 _ _ _ _ _ _ _ hF)
def X12_reads_21 (n : Nat) (a1 : Nat) : Nat → Int32 → Int32 → Bool → Int32 → Int32 → Int32 → Mm → Option (Unit × Mm)
  | 0, _, _, _, _, _, _, _ => none
  | f + 1, x2, x3, x4, x5, x6, x7, h => (if x4 = true then (X12_reads_35 n (X12_reads_21 n a1 f) a1 x2 x3 x4 x5 x6 x7 x7 (x3 - (1)) h) else (X12_reads_35 n (X12_reads_21 n a1 f) a1 x2 x3 x4 x5 x6 x7 x7 x3 h))
set_option maxRecDepth 100000 in
set_option maxHeartbeats 4000000 in
theorem v_X12_reads_21 {X : WX} {G : GX} {o : Mm} {n : Nat} {a1 : Nat} {rv : Unit} {hz : Mm} (ha1 : isO false 0 a1) : ∀ (f : Nat) (x2 : Int32) (x3 : Int32) (x4 : Bool) (x5 : Int32) (x6 : Int32) (x7 : Int32) (h : Mm), X12_reads_21 n a1 f x2 x3 x4 x5 x6 x7 h = some (rv, hz) → V X G RX12 cX12_reads 8 (none) 91 0 0 (QR X G false o none hz) false o 21 [(0, .ref (xa X 251)), (1, .ref (xa X a1)), (2, .int x2), (3, .int x3), (4, .int (b2i x4)), (5, .int x5), (6, .int x6), (7, .int x7)] [] h := by
  intro f
  induction f with
  | zero => intro x2 x3 x4 x5 x6 x7 h hF; exact nomatch (show (none : Option (Unit × Mm)) = some (rv, hz) from hF)
  | succ f ih =>
    intro x2 x3 x4 x5 x6 x7 h hF
    unfold X12_reads_21 at hF
    refine V.iload 7 dX12_reads_21 rfl ?_
    refine V.iload 4 dX12_reads_23 rfl ?_
    refine V.ifz_eq (tgt := 34) dX12_reads_25 rfl (fun c => ?_) (fun c => ?_)
    · replace hF := (if_neg c).symm.trans hF
      refine V.iload_n 3 dX12_reads_34 rfl rfl ?_
      exact (v_X12_reads_35 ih ha1 hF)
    · replace hF := (if_pos c).symm.trans hF
      refine V.iload_n 3 dX12_reads_28 rfl rfl ?_
      refine V.iconst (v := 1) dX12_reads_29 rfl ?_
      refine V.isub dX12_reads_30 ?_
      refine V.goto (tgt := 35) dX12_reads_31 rfl ?_
      exact (v_X12_reads_35 ih ha1 hF)
def X12_reads (n : Nat) (a1 : Nat) (x2 : Int32) (x3 : Int32) (x4 : Bool) (h : Mm) : Option (Unit × Mm) := (if inB (23) (aln a1) then (bp (X12_kindOf x2 h) (fun r43 => (X12_reads_21 n a1 n x2 x3 x4 ((3) * (h.1 a1 (23).toNatClampNeg)) ((18) + r43) (0) h))) else none)
set_option maxRecDepth 100000 in
set_option maxHeartbeats 4000000 in
theorem s_X12_reads {X : WX} {o : Mm} {n : Nat} {a1 : Nat} {x2 : Int32} {x3 : Int32} {x4 : Bool} {rv : Unit} {hz : Mm} {h : Mm} (ha1 : isO false 0 a1) (hF : X12_reads n a1 x2 x3 x4 h = some (rv, hz)) : Sat X yX12_reads cX12_reads 8 (none) 91 [.ref (xa X 251), .ref (xa X a1), .int x2, .int x3, .int (b2i x4)] false o h none hz := by
  unfold X12_reads at hF
  refine Sat.mk (own := RX12) rfl (by decide +kernel) (Nat.le_of_ble_eq_true rfl) (fun G => ?_)
  refine V.sub (lv2 := [(0, _), (1, _), (2, _), (3, _), (4, _)]) [0, 1, 2, 3, 4] rfl ?_
  refine V.iconst (v := 3) dX12_reads_0 rfl ?_
  refine V.aload_n 1 dX12_reads_1 rfl rfl ?_
  refine V.bipush (v := 23) dX12_reads_2 (by decide) ?_
  obtain ⟨hk, hF⟩ := ck hF
  refine V.iald ha1 hk dX12_reads_4 ?_
  refine V.imul dX12_reads_5 ?_
  refine V.istore [(5, _), (0, _), (1, _), (2, _), (3, _), (4, _)] dX12_reads_6 (by decide) rfl ?_
  refine V.bipush (v := 18) dX12_reads_8 (by decide) ?_
  refine V.aload_n 1 dX12_reads_10 rfl rfl ?_
  refine V.iload_n 3 dX12_reads_11 rfl rfl ?_
  obtain ⟨r43, hc44, hF⟩ := bp_s hF
  refine V.callVi mf_X12_kindOf ml_X12_328 sh_251 (s_X12_kindOf hc44) (by decide) rfl rfl (Nat.le_of_ble_eq_true rfl) dX12_reads_12 ?_
  refine V.iadd dX12_reads_15 ?_
  refine V.istore [(6, _), (5, _), (0, _), (1, _), (2, _), (3, _), (4, _)] dX12_reads_16 (by decide) rfl ?_
  refine V.iconst (v := 0) dX12_reads_18 rfl ?_
  refine V.istore [(7, _), (6, _), (5, _), (0, _), (1, _), (2, _), (3, _), (4, _)] dX12_reads_19 (by decide) rfl ?_
  exact V.sub [3, 4, 5, 6, 7, 2, 1, 0] rfl (v_X12_reads_21 ha1 n _ _ _ _ _ _ _ hF)
/-! MonsterCotModel.drinks -/
theorem dX12_drinks_0 : decode cX12_drinks 0 = .ok (.aload_n 0, 1) := by decide +kernel
theorem dX12_drinks_1 : decode cX12_drinks 1 = .ok (.bipush 22, 2) := by decide +kernel
theorem dX12_drinks_3 : decode cX12_drinks 3 = .ok (.aload_n 0, 1) := by decide +kernel
theorem dX12_drinks_4 : decode cX12_drinks 4 = .ok (.bipush 22, 2) := by decide +kernel
theorem dX12_drinks_6 : decode cX12_drinks 6 = .ok (.iaload, 1) := by decide +kernel
theorem dX12_drinks_7 : decode cX12_drinks 7 = .ok (.iconst 3, 1) := by decide +kernel
theorem dX12_drinks_8 : decode cX12_drinks 8 = .ok (.iadd, 1) := by decide +kernel
theorem dX12_drinks_9 : decode cX12_drinks 9 = .ok (.invokestatic 334, 3) := by decide +kernel
theorem dX12_drinks_12 : decode cX12_drinks 12 = .ok (.iastore, 1) := by decide +kernel
theorem dX12_drinks_13 : decode cX12_drinks 13 = .ok (.aload_n 0, 1) := by decide +kernel
theorem dX12_drinks_14 : decode cX12_drinks 14 = .ok (.bipush 25, 2) := by decide +kernel
theorem dX12_drinks_16 : decode cX12_drinks 16 = .ok (.iconst 1, 1) := by decide +kernel
theorem dX12_drinks_17 : decode cX12_drinks 17 = .ok (.iastore, 1) := by decide +kernel
theorem dX12_drinks_18 : decode cX12_drinks 18 = .ok (.return_, 1) := by decide +kernel
def X12_drinks (a0 : Nat) (h : Mm) : Option (Unit × Mm) := (if inB (22) (aln a0) then (bp (X12_held ((h.1 a0 (22).toNatClampNeg) + (3)) h) (fun r3 => (if inB (22) (aln a0) then (if inB (25) (aln a0) then (some ((), (wI (wI h a0 (22).toNatClampNeg r3) a0 (25).toNatClampNeg (1)))) else none) else none))) else none)
set_option maxRecDepth 100000 in
set_option maxHeartbeats 4000000 in
theorem s_X12_drinks {X : WX} {o : Mm} {a0 : Nat} {rv : Unit} {hz : Mm} {h : Mm} (ha0 : isO false 0 a0) (hF : X12_drinks a0 h = some (rv, hz)) : Sat X yX12_drinks cX12_drinks 1 (none) 3 [.ref (xa X a0)] false o h none hz := by
  unfold X12_drinks at hF
  refine Sat.mk (own := RX12) rfl (by decide +kernel) (Nat.le_of_ble_eq_true rfl) (fun G => ?_)
  refine V.sub (lv2 := [(0, _)]) [0] rfl ?_
  refine V.aload_n 0 dX12_drinks_0 rfl rfl ?_
  refine V.bipush (v := 22) dX12_drinks_1 (by decide) ?_
  refine V.aload_n 0 dX12_drinks_3 rfl rfl ?_
  refine V.bipush (v := 22) dX12_drinks_4 (by decide) ?_
  obtain ⟨hk, hF⟩ := ck hF
  refine V.iald ha0 hk dX12_drinks_6 ?_
  refine V.iconst (v := 3) dX12_drinks_7 rfl ?_
  refine V.iadd dX12_drinks_8 ?_
  obtain ⟨r3, hc4, hF⟩ := bp_s hF
  refine V.callSi mf_X12_held ml_X12_334 (s_X12_held hc4) (by decide) rfl rfl (Nat.le_of_ble_eq_true rfl) dX12_drinks_9 ?_
  obtain ⟨hk, hF⟩ := ck hF
  refine V.iast ha0 hk dX12_drinks_12 ?_
  refine V.aload_n 0 dX12_drinks_13 rfl rfl ?_
  refine V.bipush (v := 25) dX12_drinks_14 (by decide) ?_
  refine V.iconst (v := 1) dX12_drinks_16 rfl ?_
  obtain ⟨hk, hF⟩ := ck hF
  refine V.iast ha0 hk dX12_drinks_17 ?_
  cases hF
  exact V.vret dX12_drinks_18
/-! MonsterCotModel.canGo -/
theorem dX12_canGo_0 : decode cX12_canGo 0 = .ok (.aload_n 0, 1) := by decide +kernel
theorem dX12_canGo_1 : decode cX12_canGo 1 = .ok (.iload_n 2, 1) := by decide +kernel
theorem dX12_canGo_2 : decode cX12_canGo 2 = .ok (.invokevirtual 337, 3) := by decide +kernel
theorem dX12_canGo_5 : decode cX12_canGo 5 = .ok (.ifCond .eq 22, 3) := by decide +kernel
theorem dX12_canGo_8 : decode cX12_canGo 8 = .ok (.aload_n 1, 1) := by decide +kernel
theorem dX12_canGo_9 : decode cX12_canGo 9 = .ok (.bipush 23, 2) := by decide +kernel
theorem dX12_canGo_11 : decode cX12_canGo 11 = .ok (.iaload, 1) := by decide +kernel
theorem dX12_canGo_12 : decode cX12_canGo 12 = .ok (.iload_n 2, 1) := by decide +kernel
theorem dX12_canGo_13 : decode cX12_canGo 13 = .ok (.if_icmp .eq 14, 3) := by decide +kernel
theorem dX12_canGo_16 : decode cX12_canGo 16 = .ok (.aload_n 1, 1) := by decide +kernel
theorem dX12_canGo_17 : decode cX12_canGo 17 = .ok (.bipush 26, 2) := by decide +kernel
theorem dX12_canGo_19 : decode cX12_canGo 19 = .ok (.iaload, 1) := by decide +kernel
theorem dX12_canGo_20 : decode cX12_canGo 20 = .ok (.ifCond .ne 7, 3) := by decide +kernel
theorem dX12_canGo_23 : decode cX12_canGo 23 = .ok (.iconst 1, 1) := by decide +kernel
theorem dX12_canGo_24 : decode cX12_canGo 24 = .ok (.goto 4, 3) := by decide +kernel
theorem dX12_canGo_27 : decode cX12_canGo 27 = .ok (.iconst 0, 1) := by decide +kernel
theorem dX12_canGo_28 : decode cX12_canGo 28 = .ok (.ireturn, 1) := by decide +kernel
def X12_canGo (a1 : Nat) (x2 : Int32) (h : Mm) : Option Bool := (bp (X12_isHouse x2 h) (fun r3 => (if r3 = true then (if inB (23) (aln a1) then (if (h.1 a1 (23).toNatClampNeg) = x2 then (some false) else (if inB (26) (aln a1) then (if (h.1 a1 (26).toNatClampNeg) = 0 then (some true) else (some false)) else none)) else none) else (some false))))
set_option maxRecDepth 100000 in
set_option maxHeartbeats 4000000 in
theorem s_X12_canGo {X : WX} {o : Mm} {a1 : Nat} {x2 : Int32} {rv : Bool} {h : Mm} (ha1 : isO false 0 a1) (hF : X12_canGo a1 x2 h = some rv) : Sat X yX12_canGo cX12_canGo 3 (some .boolean) 2 [.ref (xa X 251), .ref (xa X a1), .int x2] false o h (some (.int (b2i rv))) h := by
  unfold X12_canGo at hF
  refine Sat.mk (own := RX12) rfl (by decide +kernel) (Nat.le_of_ble_eq_true rfl) (fun G => ?_)
  refine V.sub (lv2 := [(0, _), (1, _), (2, _)]) [0, 1, 2] rfl ?_
  refine V.aload_n 0 dX12_canGo_0 rfl rfl ?_
  refine V.iload_n 2 dX12_canGo_1 rfl rfl ?_
  obtain ⟨r3, hc4, hF⟩ := bp_s hF
  refine V.callVi mf_X12_isHouse ml_X12_337 sh_251 (s_X12_isHouse hc4) (by decide) rfl rfl (Nat.le_of_ble_eq_true rfl) dX12_canGo_2 ?_
  refine V.ifz_eq (tgt := 27) dX12_canGo_5 rfl (fun c => ?_) (fun c => ?_)
  · replace hF := (if_neg c).symm.trans hF
    refine V.iconst (v := 0) dX12_canGo_27 rfl ?_
    cases hF
    exact V.bret dX12_canGo_28
  · replace hF := (if_pos c).symm.trans hF
    refine V.aload_n 1 dX12_canGo_8 rfl rfl ?_
    refine V.bipush (v := 23) dX12_canGo_9 (by decide) ?_
    obtain ⟨hk, hF⟩ := ck hF
    refine V.iald ha1 hk dX12_canGo_11 ?_
    refine V.iload_n 2 dX12_canGo_12 rfl rfl ?_
    refine V.icmp_eq (tgt := 27) dX12_canGo_13 rfl (fun c => ?_) (fun c => ?_)
    · replace hF := (if_pos c).symm.trans hF
      refine V.iconst (v := 0) dX12_canGo_27 rfl ?_
      cases hF
      exact V.bret dX12_canGo_28
    · replace hF := (if_neg c).symm.trans hF
      refine V.aload_n 1 dX12_canGo_16 rfl rfl ?_
      refine V.bipush (v := 26) dX12_canGo_17 (by decide) ?_
      obtain ⟨hk, hF⟩ := ck hF
      refine V.iald ha1 hk dX12_canGo_19 ?_
      refine V.if_ne (tgt := 27) dX12_canGo_20 rfl (fun c => ?_) (fun c => ?_)
      · replace hF := (if_neg c).symm.trans hF
        refine V.iconst (v := 0) dX12_canGo_27 rfl ?_
        cases hF
        exact V.bret dX12_canGo_28
      · replace hF := (if_pos c).symm.trans hF
        refine V.iconst (v := 1) dX12_canGo_23 rfl ?_
        refine V.goto (tgt := 28) dX12_canGo_24 rfl ?_
        cases hF
        exact V.bret dX12_canGo_28
/-! MonsterCotModel.behind -/
theorem dX12_behind_0 : decode cX12_behind 0 = .ok (.iconst 0, 1) := by decide +kernel
theorem dX12_behind_1 : decode cX12_behind 1 = .ok (.iload_n 1, 1) := by decide +kernel
theorem dX12_behind_2 : decode cX12_behind 2 = .ok (.aload_n 0, 1) := by decide +kernel
theorem dX12_behind_3 : decode cX12_behind 3 = .ok (.getfield 37, 3) := by decide +kernel
theorem dX12_behind_6 : decode cX12_behind 6 = .ok (.iconst 2, 1) := by decide +kernel
theorem dX12_behind_7 : decode cX12_behind 7 = .ok (.iaload, 1) := by decide +kernel
theorem dX12_behind_8 : decode cX12_behind 8 = .ok (.isub, 1) := by decide +kernel
theorem dX12_behind_9 : decode cX12_behind 9 = .ok (.aload_n 0, 1) := by decide +kernel
theorem dX12_behind_10 : decode cX12_behind 10 = .ok (.iload_n 1, 1) := by decide +kernel
theorem dX12_behind_11 : decode cX12_behind 11 = .ok (.invokevirtual 340, 3) := by decide +kernel
theorem dX12_behind_14 : decode cX12_behind 14 = .ok (.ifCond .eq 7, 3) := by decide +kernel
theorem dX12_behind_17 : decode cX12_behind 17 = .ok (.iconst 0, 1) := by decide +kernel
theorem dX12_behind_18 : decode cX12_behind 18 = .ok (.goto 4, 3) := by decide +kernel
theorem dX12_behind_21 : decode cX12_behind 21 = .ok (.iconst 2, 1) := by decide +kernel
theorem dX12_behind_22 : decode cX12_behind 22 = .ok (.isub, 1) := by decide +kernel
theorem dX12_behind_23 : decode cX12_behind 23 = .ok (.invokestatic 317, 3) := by decide +kernel
theorem dX12_behind_26 : decode cX12_behind 26 = .ok (.ireturn, 1) := by decide +kernel
def X12_behind_22 (s0 : Bool) (s1 : Int32) (s2 : Int32) (h : Mm) : Option Int32 := (bp (J9_max_7cf53 (b2i s0) (s1 - s2) h) (fun r9 => (some r9)))
set_option maxRecDepth 100000 in
set_option maxHeartbeats 4000000 in
theorem v_X12_behind_22 {X : WX} {G : GX} {o : Mm} {rv : Int32} {h : Mm} {s0 : Bool} {s1 : Int32} {s2 : Int32} (hF : X12_behind_22  s0 s1 s2 h = some rv) : V X G RX12 cX12_behind 2 (some .int) 2 0 0 (QR X G false o (some (.int rv)) h) false o 22 [] [.int s2, .int s1, .int (b2i s0)] h := by
  unfold X12_behind_22 at hF
  refine V.isub dX12_behind_22 ?_
  obtain ⟨r9, hc10, hF⟩ := bp_s hF
  refine V.callSi mf_J9_max_7cf53 ml_X12_317 (s_J9_max_7cf53 hc10) (by decide) rfl rfl (Nat.le_of_ble_eq_true rfl) dX12_behind_23 ?_
  cases hF
  exact V.iret dX12_behind_26
def X12_behind (x1 : Int32) (h : Mm) : Option Int32 := (if inB (2) (aln 256) then (bp (X12_isEnough x1 h) (fun r11 => (if r11 = true then (X12_behind_22 false (x1 - (h.1 256 (2).toNatClampNeg)) (0) h) else (X12_behind_22 false (x1 - (h.1 256 (2).toNatClampNeg)) (2) h)))) else none)
set_option maxRecDepth 100000 in
set_option maxHeartbeats 4000000 in
theorem s_X12_behind {X : WX} {o : Mm} {x1 : Int32} {rv : Int32} {h : Mm} (hF : X12_behind x1 h = some rv) : Sat X yX12_behind cX12_behind 2 (some .int) 2 [.ref (xa X 251), .int x1] false o h (some (.int rv)) h := by
  unfold X12_behind at hF
  refine Sat.mk (own := RX12) rfl (by decide +kernel) (Nat.le_of_ble_eq_true rfl) (fun G => ?_)
  refine V.sub (lv2 := [(0, _), (1, _)]) [0, 1] rfl ?_
  refine V.iconst (v := 0) dX12_behind_0 rfl ?_
  refine V.iload_n 1 dX12_behind_1 rfl rfl ?_
  refine V.aload_n 0 dX12_behind_2 rfl rfl ?_
  refine V.getR (v := 256) fl_X12_37 sh_251 rfl fx_251_18 (by decide) dX12_behind_3 ?_
  refine V.iconst (v := 2) dX12_behind_6 rfl ?_
  obtain ⟨hk, hF⟩ := ck hF
  refine V.iald io_256 hk dX12_behind_7 ?_
  refine V.isub dX12_behind_8 ?_
  refine V.aload_n 0 dX12_behind_9 rfl rfl ?_
  refine V.iload_n 1 dX12_behind_10 rfl rfl ?_
  obtain ⟨r11, hc12, hF⟩ := bp_s hF
  refine V.callVi mf_X12_isEnough ml_X12_340 sh_251 (s_X12_isEnough hc12) (by decide) rfl rfl (Nat.le_of_ble_eq_true rfl) dX12_behind_11 ?_
  refine V.ifz_eq (tgt := 21) dX12_behind_14 rfl (fun c => ?_) (fun c => ?_)
  · replace hF := (if_neg c).symm.trans hF
    refine V.iconst (v := 2) dX12_behind_21 rfl ?_
    exact V.sub [] rfl (v_X12_behind_22 hF)
  · replace hF := (if_pos c).symm.trans hF
    refine V.iconst (v := 0) dX12_behind_17 rfl ?_
    refine V.goto (tgt := 22) dX12_behind_18 rfl ?_
    exact V.sub [] rfl (v_X12_behind_22 hF)
/-! MonsterCotModel.goNight -/
theorem dX12_goNight_0 : decode cX12_goNight 0 = .ok (.aload_n 1, 1) := by decide +kernel
theorem dX12_goNight_1 : decode cX12_goNight 1 = .ok (.bipush 23, 2) := by decide +kernel
theorem dX12_goNight_3 : decode cX12_goNight 3 = .ok (.iaload, 1) := by decide +kernel
theorem dX12_goNight_4 : decode cX12_goNight 4 = .ok (.istore_n 2, 1) := by decide +kernel
theorem dX12_goNight_5 : decode cX12_goNight 5 = .ok (.aload_n 0, 1) := by decide +kernel
theorem dX12_goNight_6 : decode cX12_goNight 6 = .ok (.aload_n 1, 1) := by decide +kernel
theorem dX12_goNight_7 : decode cX12_goNight 7 = .ok (.bipush 22, 2) := by decide +kernel
theorem dX12_goNight_9 : decode cX12_goNight 9 = .ok (.iaload, 1) := by decide +kernel
theorem dX12_goNight_10 : decode cX12_goNight 10 = .ok (.invokevirtual 340, 3) := by decide +kernel
theorem dX12_goNight_13 : decode cX12_goNight 13 = .ok (.ifCond .eq 14, 3) := by decide +kernel
theorem dX12_goNight_16 : decode cX12_goNight 16 = .ok (.aload_n 0, 1) := by decide +kernel
theorem dX12_goNight_17 : decode cX12_goNight 17 = .ok (.getfield 49, 3) := by decide +kernel
theorem dX12_goNight_20 : decode cX12_goNight 20 = .ok (.iconst 3, 1) := by decide +kernel
theorem dX12_goNight_21 : decode cX12_goNight 21 = .ok (.iload_n 2, 1) := by decide +kernel
theorem dX12_goNight_22 : decode cX12_goNight 22 = .ok (.imul, 1) := by decide +kernel
theorem dX12_goNight_23 : decode cX12_goNight 23 = .ok (.iaload, 1) := by decide +kernel
theorem dX12_goNight_24 : decode cX12_goNight 24 = .ok (.goto 4, 3) := by decide +kernel
theorem dX12_goNight_27 : decode cX12_goNight 27 = .ok (.iconst 0, 1) := by decide +kernel
theorem dX12_goNight_28 : decode cX12_goNight 28 = .ok (.istore_n 3, 1) := by decide +kernel
theorem dX12_goNight_29 : decode cX12_goNight 29 = .ok (.aload_n 1, 1) := by decide +kernel
theorem dX12_goNight_30 : decode cX12_goNight 30 = .ok (.bipush 30, 2) := by decide +kernel
theorem dX12_goNight_32 : decode cX12_goNight 32 = .ok (.iaload, 1) := by decide +kernel
theorem dX12_goNight_33 : decode cX12_goNight 33 = .ok (.bipush 60, 2) := by decide +kernel
theorem dX12_goNight_35 : decode cX12_goNight 35 = .ok (.if_icmp .ne 44, 3) := by decide +kernel
theorem dX12_goNight_38 : decode cX12_goNight 38 = .ok (.iconst 1, 1) := by decide +kernel
theorem dX12_goNight_39 : decode cX12_goNight 39 = .ok (.istore 4, 2) := by decide +kernel
theorem dX12_goNight_41 : decode cX12_goNight 41 = .ok (.iload 4, 2) := by decide +kernel
theorem dX12_goNight_43 : decode cX12_goNight 43 = .ok (.sipush 177, 3) := by decide +kernel
theorem dX12_goNight_46 : decode cX12_goNight 46 = .ok (.if_icmp .gt 25, 3) := by decide +kernel
theorem dX12_goNight_49 : decode cX12_goNight 49 = .ok (.aload_n 1, 1) := by decide +kernel
theorem dX12_goNight_50 : decode cX12_goNight 50 = .ok (.bipush 30, 2) := by decide +kernel
theorem dX12_goNight_52 : decode cX12_goNight 52 = .ok (.iload 4, 2) := by decide +kernel
theorem dX12_goNight_54 : decode cX12_goNight 54 = .ok (.iadd, 1) := by decide +kernel
theorem dX12_goNight_55 : decode cX12_goNight 55 = .ok (.aload_n 1, 1) := by decide +kernel
theorem dX12_goNight_56 : decode cX12_goNight 56 = .ok (.bipush 30, 2) := by decide +kernel
theorem dX12_goNight_58 : decode cX12_goNight 58 = .ok (.iload 4, 2) := by decide +kernel
theorem dX12_goNight_60 : decode cX12_goNight 60 = .ok (.iadd, 1) := by decide +kernel
theorem dX12_goNight_61 : decode cX12_goNight 61 = .ok (.iconst 3, 1) := by decide +kernel
theorem dX12_goNight_62 : decode cX12_goNight 62 = .ok (.iadd, 1) := by decide +kernel
theorem dX12_goNight_63 : decode cX12_goNight 63 = .ok (.iaload, 1) := by decide +kernel
theorem dX12_goNight_64 : decode cX12_goNight 64 = .ok (.iastore, 1) := by decide +kernel
theorem dX12_goNight_65 : decode cX12_goNight 65 = .ok (.iinc 4 1, 3) := by decide +kernel
theorem dX12_goNight_68 : decode cX12_goNight 68 = .ok (.goto (-27), 3) := by decide +kernel
theorem dX12_goNight_71 : decode cX12_goNight 71 = .ok (.aload_n 1, 1) := by decide +kernel
theorem dX12_goNight_72 : decode cX12_goNight 72 = .ok (.bipush 30, 2) := by decide +kernel
theorem dX12_goNight_74 : decode cX12_goNight 74 = .ok (.dup2, 1) := by decide +kernel
theorem dX12_goNight_75 : decode cX12_goNight 75 = .ok (.iaload, 1) := by decide +kernel
theorem dX12_goNight_76 : decode cX12_goNight 76 = .ok (.iconst 1, 1) := by decide +kernel
theorem dX12_goNight_77 : decode cX12_goNight 77 = .ok (.isub, 1) := by decide +kernel
theorem dX12_goNight_78 : decode cX12_goNight 78 = .ok (.iastore, 1) := by decide +kernel
theorem dX12_goNight_79 : decode cX12_goNight 79 = .ok (.bipush 31, 2) := by decide +kernel
theorem dX12_goNight_81 : decode cX12_goNight 81 = .ok (.iconst 3, 1) := by decide +kernel
theorem dX12_goNight_82 : decode cX12_goNight 82 = .ok (.aload_n 1, 1) := by decide +kernel
theorem dX12_goNight_83 : decode cX12_goNight 83 = .ok (.bipush 30, 2) := by decide +kernel
theorem dX12_goNight_85 : decode cX12_goNight 85 = .ok (.iaload, 1) := by decide +kernel
theorem dX12_goNight_86 : decode cX12_goNight 86 = .ok (.imul, 1) := by decide +kernel
theorem dX12_goNight_87 : decode cX12_goNight 87 = .ok (.iadd, 1) := by decide +kernel
theorem dX12_goNight_88 : decode cX12_goNight 88 = .ok (.istore 4, 2) := by decide +kernel
theorem dX12_goNight_90 : decode cX12_goNight 90 = .ok (.aload_n 1, 1) := by decide +kernel
theorem dX12_goNight_91 : decode cX12_goNight 91 = .ok (.iload 4, 2) := by decide +kernel
theorem dX12_goNight_93 : decode cX12_goNight 93 = .ok (.iload_n 2, 1) := by decide +kernel
theorem dX12_goNight_94 : decode cX12_goNight 94 = .ok (.iastore, 1) := by decide +kernel
theorem dX12_goNight_95 : decode cX12_goNight 95 = .ok (.aload_n 1, 1) := by decide +kernel
theorem dX12_goNight_96 : decode cX12_goNight 96 = .ok (.iload 4, 2) := by decide +kernel
theorem dX12_goNight_98 : decode cX12_goNight 98 = .ok (.iconst 1, 1) := by decide +kernel
theorem dX12_goNight_99 : decode cX12_goNight 99 = .ok (.iadd, 1) := by decide +kernel
theorem dX12_goNight_100 : decode cX12_goNight 100 = .ok (.aload_n 1, 1) := by decide +kernel
theorem dX12_goNight_101 : decode cX12_goNight 101 = .ok (.bipush 22, 2) := by decide +kernel
theorem dX12_goNight_103 : decode cX12_goNight 103 = .ok (.iaload, 1) := by decide +kernel
theorem dX12_goNight_104 : decode cX12_goNight 104 = .ok (.iastore, 1) := by decide +kernel
theorem dX12_goNight_105 : decode cX12_goNight 105 = .ok (.aload_n 1, 1) := by decide +kernel
theorem dX12_goNight_106 : decode cX12_goNight 106 = .ok (.iload 4, 2) := by decide +kernel
theorem dX12_goNight_108 : decode cX12_goNight 108 = .ok (.iconst 2, 1) := by decide +kernel
theorem dX12_goNight_109 : decode cX12_goNight 109 = .ok (.iadd, 1) := by decide +kernel
theorem dX12_goNight_110 : decode cX12_goNight 110 = .ok (.iload_n 3, 1) := by decide +kernel
theorem dX12_goNight_111 : decode cX12_goNight 111 = .ok (.iastore, 1) := by decide +kernel
theorem dX12_goNight_112 : decode cX12_goNight 112 = .ok (.aload_n 1, 1) := by decide +kernel
theorem dX12_goNight_113 : decode cX12_goNight 113 = .ok (.bipush 30, 2) := by decide +kernel
theorem dX12_goNight_115 : decode cX12_goNight 115 = .ok (.dup2, 1) := by decide +kernel
theorem dX12_goNight_116 : decode cX12_goNight 116 = .ok (.iaload, 1) := by decide +kernel
theorem dX12_goNight_117 : decode cX12_goNight 117 = .ok (.iconst 1, 1) := by decide +kernel
theorem dX12_goNight_118 : decode cX12_goNight 118 = .ok (.iadd, 1) := by decide +kernel
theorem dX12_goNight_119 : decode cX12_goNight 119 = .ok (.iastore, 1) := by decide +kernel
theorem dX12_goNight_120 : decode cX12_goNight 120 = .ok (.aload_n 1, 1) := by decide +kernel
theorem dX12_goNight_121 : decode cX12_goNight 121 = .ok (.bipush 27, 2) := by decide +kernel
theorem dX12_goNight_123 : decode cX12_goNight 123 = .ok (.dup2, 1) := by decide +kernel
theorem dX12_goNight_124 : decode cX12_goNight 124 = .ok (.iaload, 1) := by decide +kernel
theorem dX12_goNight_125 : decode cX12_goNight 125 = .ok (.iload_n 3, 1) := by decide +kernel
theorem dX12_goNight_126 : decode cX12_goNight 126 = .ok (.iadd, 1) := by decide +kernel
theorem dX12_goNight_127 : decode cX12_goNight 127 = .ok (.iastore, 1) := by decide +kernel
theorem dX12_goNight_128 : decode cX12_goNight 128 = .ok (.aload_n 1, 1) := by decide +kernel
theorem dX12_goNight_129 : decode cX12_goNight 129 = .ok (.bipush 28, 2) := by decide +kernel
theorem dX12_goNight_131 : decode cX12_goNight 131 = .ok (.dup2, 1) := by decide +kernel
theorem dX12_goNight_132 : decode cX12_goNight 132 = .ok (.iaload, 1) := by decide +kernel
theorem dX12_goNight_133 : decode cX12_goNight 133 = .ok (.aload_n 0, 1) := by decide +kernel
theorem dX12_goNight_134 : decode cX12_goNight 134 = .ok (.getfield 49, 3) := by decide +kernel
theorem dX12_goNight_137 : decode cX12_goNight 137 = .ok (.iconst 3, 1) := by decide +kernel
theorem dX12_goNight_138 : decode cX12_goNight 138 = .ok (.iload_n 2, 1) := by decide +kernel
theorem dX12_goNight_139 : decode cX12_goNight 139 = .ok (.imul, 1) := by decide +kernel
theorem dX12_goNight_140 : decode cX12_goNight 140 = .ok (.iaload, 1) := by decide +kernel
theorem dX12_goNight_141 : decode cX12_goNight 141 = .ok (.iload_n 3, 1) := by decide +kernel
theorem dX12_goNight_142 : decode cX12_goNight 142 = .ok (.isub, 1) := by decide +kernel
theorem dX12_goNight_143 : decode cX12_goNight 143 = .ok (.iadd, 1) := by decide +kernel
theorem dX12_goNight_144 : decode cX12_goNight 144 = .ok (.iastore, 1) := by decide +kernel
theorem dX12_goNight_145 : decode cX12_goNight 145 = .ok (.aload_n 1, 1) := by decide +kernel
theorem dX12_goNight_146 : decode cX12_goNight 146 = .ok (.bipush 22, 2) := by decide +kernel
theorem dX12_goNight_148 : decode cX12_goNight 148 = .ok (.aload_n 0, 1) := by decide +kernel
theorem dX12_goNight_149 : decode cX12_goNight 149 = .ok (.aload_n 1, 1) := by decide +kernel
theorem dX12_goNight_150 : decode cX12_goNight 150 = .ok (.bipush 22, 2) := by decide +kernel
theorem dX12_goNight_152 : decode cX12_goNight 152 = .ok (.iaload, 1) := by decide +kernel
theorem dX12_goNight_153 : decode cX12_goNight 153 = .ok (.invokevirtual 343, 3) := by decide +kernel
theorem dX12_goNight_156 : decode cX12_goNight 156 = .ok (.iastore, 1) := by decide +kernel
theorem dX12_goNight_157 : decode cX12_goNight 157 = .ok (.iconst 0, 1) := by decide +kernel
theorem dX12_goNight_158 : decode cX12_goNight 158 = .ok (.istore 5, 2) := by decide +kernel
theorem dX12_goNight_160 : decode cX12_goNight 160 = .ok (.iload 5, 2) := by decide +kernel
theorem dX12_goNight_162 : decode cX12_goNight 162 = .ok (.aload_n 0, 1) := by decide +kernel
theorem dX12_goNight_163 : decode cX12_goNight 163 = .ok (.getfield 291, 3) := by decide +kernel
theorem dX12_goNight_166 : decode cX12_goNight 166 = .ok (.if_icmp .ge 32, 3) := by decide +kernel
theorem dX12_goNight_169 : decode cX12_goNight 169 = .ok (.aload_n 1, 1) := by decide +kernel
theorem dX12_goNight_170 : decode cX12_goNight 170 = .ok (.iconst 3, 1) := by decide +kernel
theorem dX12_goNight_171 : decode cX12_goNight 171 = .ok (.iload 5, 2) := by decide +kernel
theorem dX12_goNight_173 : decode cX12_goNight 173 = .ok (.imul, 1) := by decide +kernel
theorem dX12_goNight_174 : decode cX12_goNight 174 = .ok (.iconst 0, 1) := by decide +kernel
theorem dX12_goNight_175 : decode cX12_goNight 175 = .ok (.iadd, 1) := by decide +kernel
theorem dX12_goNight_176 : decode cX12_goNight 176 = .ok (.iconst 0, 1) := by decide +kernel
theorem dX12_goNight_177 : decode cX12_goNight 177 = .ok (.aload_n 1, 1) := by decide +kernel
theorem dX12_goNight_178 : decode cX12_goNight 178 = .ok (.iconst 3, 1) := by decide +kernel
theorem dX12_goNight_179 : decode cX12_goNight 179 = .ok (.iload 5, 2) := by decide +kernel
theorem dX12_goNight_181 : decode cX12_goNight 181 = .ok (.imul, 1) := by decide +kernel
theorem dX12_goNight_182 : decode cX12_goNight 182 = .ok (.iconst 0, 1) := by decide +kernel
theorem dX12_goNight_183 : decode cX12_goNight 183 = .ok (.iadd, 1) := by decide +kernel
theorem dX12_goNight_184 : decode cX12_goNight 184 = .ok (.iaload, 1) := by decide +kernel
theorem dX12_goNight_185 : decode cX12_goNight 185 = .ok (.bipush 6, 2) := by decide +kernel
theorem dX12_goNight_187 : decode cX12_goNight 187 = .ok (.isub, 1) := by decide +kernel
theorem dX12_goNight_188 : decode cX12_goNight 188 = .ok (.invokestatic 317, 3) := by decide +kernel
theorem dX12_goNight_191 : decode cX12_goNight 191 = .ok (.iastore, 1) := by decide +kernel
theorem dX12_goNight_192 : decode cX12_goNight 192 = .ok (.iinc 5 1, 3) := by decide +kernel
theorem dX12_goNight_195 : decode cX12_goNight 195 = .ok (.goto (-35), 3) := by decide +kernel
theorem dX12_goNight_198 : decode cX12_goNight 198 = .ok (.iconst 0, 1) := by decide +kernel
theorem dX12_goNight_199 : decode cX12_goNight 199 = .ok (.istore 5, 2) := by decide +kernel
theorem dX12_goNight_201 : decode cX12_goNight 201 = .ok (.iload 5, 2) := by decide +kernel
theorem dX12_goNight_203 : decode cX12_goNight 203 = .ok (.iconst 4, 1) := by decide +kernel
theorem dX12_goNight_204 : decode cX12_goNight 204 = .ok (.if_icmp .ge 29, 3) := by decide +kernel
theorem dX12_goNight_207 : decode cX12_goNight 207 = .ok (.aload_n 1, 1) := by decide +kernel
theorem dX12_goNight_208 : decode cX12_goNight 208 = .ok (.bipush 18, 2) := by decide +kernel
theorem dX12_goNight_210 : decode cX12_goNight 210 = .ok (.iload 5, 2) := by decide +kernel
theorem dX12_goNight_212 : decode cX12_goNight 212 = .ok (.iadd, 1) := by decide +kernel
theorem dX12_goNight_213 : decode cX12_goNight 213 = .ok (.iconst 0, 1) := by decide +kernel
theorem dX12_goNight_214 : decode cX12_goNight 214 = .ok (.aload_n 1, 1) := by decide +kernel
theorem dX12_goNight_215 : decode cX12_goNight 215 = .ok (.bipush 18, 2) := by decide +kernel
theorem dX12_goNight_217 : decode cX12_goNight 217 = .ok (.iload 5, 2) := by decide +kernel
theorem dX12_goNight_219 : decode cX12_goNight 219 = .ok (.iadd, 1) := by decide +kernel
theorem dX12_goNight_220 : decode cX12_goNight 220 = .ok (.iaload, 1) := by decide +kernel
theorem dX12_goNight_221 : decode cX12_goNight 221 = .ok (.iconst 1, 1) := by decide +kernel
theorem dX12_goNight_222 : decode cX12_goNight 222 = .ok (.isub, 1) := by decide +kernel
theorem dX12_goNight_223 : decode cX12_goNight 223 = .ok (.invokestatic 317, 3) := by decide +kernel
theorem dX12_goNight_226 : decode cX12_goNight 226 = .ok (.iastore, 1) := by decide +kernel
theorem dX12_goNight_227 : decode cX12_goNight 227 = .ok (.iinc 5 1, 3) := by decide +kernel
theorem dX12_goNight_230 : decode cX12_goNight 230 = .ok (.goto (-29), 3) := by decide +kernel
theorem dX12_goNight_233 : decode cX12_goNight 233 = .ok (.aload_n 1, 1) := by decide +kernel
theorem dX12_goNight_234 : decode cX12_goNight 234 = .ok (.bipush 24, 2) := by decide +kernel
theorem dX12_goNight_236 : decode cX12_goNight 236 = .ok (.iconst 0, 1) := by decide +kernel
theorem dX12_goNight_237 : decode cX12_goNight 237 = .ok (.iastore, 1) := by decide +kernel
theorem dX12_goNight_238 : decode cX12_goNight 238 = .ok (.aload_n 1, 1) := by decide +kernel
theorem dX12_goNight_239 : decode cX12_goNight 239 = .ok (.bipush 25, 2) := by decide +kernel
theorem dX12_goNight_241 : decode cX12_goNight 241 = .ok (.iconst 0, 1) := by decide +kernel
theorem dX12_goNight_242 : decode cX12_goNight 242 = .ok (.iastore, 1) := by decide +kernel
theorem dX12_goNight_243 : decode cX12_goNight 243 = .ok (.aload_n 1, 1) := by decide +kernel
theorem dX12_goNight_244 : decode cX12_goNight 244 = .ok (.bipush 26, 2) := by decide +kernel
theorem dX12_goNight_246 : decode cX12_goNight 246 = .ok (.iconst 0, 1) := by decide +kernel
theorem dX12_goNight_247 : decode cX12_goNight 247 = .ok (.iastore, 1) := by decide +kernel
theorem dX12_goNight_248 : decode cX12_goNight 248 = .ok (.aload_n 1, 1) := by decide +kernel
theorem dX12_goNight_249 : decode cX12_goNight 249 = .ok (.iconst 3, 1) := by decide +kernel
theorem dX12_goNight_250 : decode cX12_goNight 250 = .ok (.iload_n 2, 1) := by decide +kernel
theorem dX12_goNight_251 : decode cX12_goNight 251 = .ok (.imul, 1) := by decide +kernel
theorem dX12_goNight_252 : decode cX12_goNight 252 = .ok (.iconst 2, 1) := by decide +kernel
theorem dX12_goNight_253 : decode cX12_goNight 253 = .ok (.iadd, 1) := by decide +kernel
theorem dX12_goNight_254 : decode cX12_goNight 254 = .ok (.dup2, 1) := by decide +kernel
theorem dX12_goNight_255 : decode cX12_goNight 255 = .ok (.iaload, 1) := by decide +kernel
theorem dX12_goNight_256 : decode cX12_goNight 256 = .ok (.iconst 1, 1) := by decide +kernel
theorem dX12_goNight_257 : decode cX12_goNight 257 = .ok (.iadd, 1) := by decide +kernel
theorem dX12_goNight_258 : decode cX12_goNight 258 = .ok (.iastore, 1) := by decide +kernel
theorem dX12_goNight_259 : decode cX12_goNight 259 = .ok (.aload_n 1, 1) := by decide +kernel
theorem dX12_goNight_260 : decode cX12_goNight 260 = .ok (.bipush 23, 2) := by decide +kernel
theorem dX12_goNight_262 : decode cX12_goNight 262 = .ok (.iload_n 2, 1) := by decide +kernel
theorem dX12_goNight_263 : decode cX12_goNight 263 = .ok (.iconst 1, 1) := by decide +kernel
theorem dX12_goNight_264 : decode cX12_goNight 264 = .ok (.iadd, 1) := by decide +kernel
theorem dX12_goNight_265 : decode cX12_goNight 265 = .ok (.aload_n 0, 1) := by decide +kernel
theorem dX12_goNight_266 : decode cX12_goNight 266 = .ok (.getfield 291, 3) := by decide +kernel
theorem dX12_goNight_269 : decode cX12_goNight 269 = .ok (.irem, 1) := by decide +kernel
theorem dX12_goNight_270 : decode cX12_goNight 270 = .ok (.iastore, 1) := by decide +kernel
theorem dX12_goNight_271 : decode cX12_goNight 271 = .ok (.aload_n 1, 1) := by decide +kernel
theorem dX12_goNight_272 : decode cX12_goNight 272 = .ok (.bipush 29, 2) := by decide +kernel
theorem dX12_goNight_274 : decode cX12_goNight 274 = .ok (.dup2, 1) := by decide +kernel
theorem dX12_goNight_275 : decode cX12_goNight 275 = .ok (.iaload, 1) := by decide +kernel
theorem dX12_goNight_276 : decode cX12_goNight 276 = .ok (.iconst 1, 1) := by decide +kernel
theorem dX12_goNight_277 : decode cX12_goNight 277 = .ok (.iadd, 1) := by decide +kernel
theorem dX12_goNight_278 : decode cX12_goNight 278 = .ok (.iastore, 1) := by decide +kernel
theorem dX12_goNight_279 : decode cX12_goNight 279 = .ok (.iload_n 3, 1) := by decide +kernel
theorem dX12_goNight_280 : decode cX12_goNight 280 = .ok (.ireturn, 1) := by decide +kernel
def X12_goNight_201 (n : Nat) (a1 : Nat) : Nat → Int32 → Int32 → Int32 → Mm → Option (Int32 × Mm)
  | 0, _, _, _, _ => none
  | f + 1, x2, x3, x5, h => (if (4) ≤ x5 then (if inB (24) (aln a1) then (if inB (25) (aln a1) then (if inB (26) (aln a1) then (if inB (((3) * x2) + (2)) (aln a1) then (if inB (((3) * x2) + (2)) (aln a1) then (if ¬ ((wI (wI (wI (wI h a1 (24).toNatClampNeg (0)) a1 (25).toNatClampNeg (0)) a1 (26).toNatClampNeg (0)) a1 (((3) * x2) + (2)).toNatClampNeg (((wI (wI (wI h a1 (24).toNatClampNeg (0)) a1 (25).toNatClampNeg (0)) a1 (26).toNatClampNeg (0)).1 a1 (((3) * x2) + (2)).toNatClampNeg) + (1))).1 251 27) = 0 then (if inB (23) (aln a1) then (if inB (29) (aln a1) then (if inB (29) (aln a1) then (some (x3, (wI (wI (wI (wI (wI (wI h a1 (24).toNatClampNeg (0)) a1 (25).toNatClampNeg (0)) a1 (26).toNatClampNeg (0)) a1 (((3) * x2) + (2)).toNatClampNeg (((wI (wI (wI h a1 (24).toNatClampNeg (0)) a1 (25).toNatClampNeg (0)) a1 (26).toNatClampNeg (0)).1 a1 (((3) * x2) + (2)).toNatClampNeg) + (1))) a1 (23).toNatClampNeg ((x2 + (1)) - (x2 + (1)) / ((wI (wI (wI (wI h a1 (24).toNatClampNeg (0)) a1 (25).toNatClampNeg (0)) a1 (26).toNatClampNeg (0)) a1 (((3) * x2) + (2)).toNatClampNeg (((wI (wI (wI h a1 (24).toNatClampNeg (0)) a1 (25).toNatClampNeg (0)) a1 (26).toNatClampNeg (0)).1 a1 (((3) * x2) + (2)).toNatClampNeg) + (1))).1 251 27) * ((wI (wI (wI (wI h a1 (24).toNatClampNeg (0)) a1 (25).toNatClampNeg (0)) a1 (26).toNatClampNeg (0)) a1 (((3) * x2) + (2)).toNatClampNeg (((wI (wI (wI h a1 (24).toNatClampNeg (0)) a1 (25).toNatClampNeg (0)) a1 (26).toNatClampNeg (0)).1 a1 (((3) * x2) + (2)).toNatClampNeg) + (1))).1 251 27))) a1 (29).toNatClampNeg (((wI (wI (wI (wI (wI h a1 (24).toNatClampNeg (0)) a1 (25).toNatClampNeg (0)) a1 (26).toNatClampNeg (0)) a1 (((3) * x2) + (2)).toNatClampNeg (((wI (wI (wI h a1 (24).toNatClampNeg (0)) a1 (25).toNatClampNeg (0)) a1 (26).toNatClampNeg (0)).1 a1 (((3) * x2) + (2)).toNatClampNeg) + (1))) a1 (23).toNatClampNeg ((x2 + (1)) - (x2 + (1)) / ((wI (wI (wI (wI h a1 (24).toNatClampNeg (0)) a1 (25).toNatClampNeg (0)) a1 (26).toNatClampNeg (0)) a1 (((3) * x2) + (2)).toNatClampNeg (((wI (wI (wI h a1 (24).toNatClampNeg (0)) a1 (25).toNatClampNeg (0)) a1 (26).toNatClampNeg (0)).1 a1 (((3) * x2) + (2)).toNatClampNeg) + (1))).1 251 27) * ((wI (wI (wI (wI h a1 (24).toNatClampNeg (0)) a1 (25).toNatClampNeg (0)) a1 (26).toNatClampNeg (0)) a1 (((3) * x2) + (2)).toNatClampNeg (((wI (wI (wI h a1 (24).toNatClampNeg (0)) a1 (25).toNatClampNeg (0)) a1 (26).toNatClampNeg (0)).1 a1 (((3) * x2) + (2)).toNatClampNeg) + (1))).1 251 27))).1 a1 (29).toNatClampNeg) + (1))))) else none) else none) else none) else none) else none) else none) else none) else none) else none) else (if inB ((18) + x5) (aln a1) then (bp (J9_max_7cf53 (0) ((h.1 a1 ((18) + x5).toNatClampNeg) - (1)) h) (fun r29 => (if inB ((18) + x5) (aln a1) then ((X12_goNight_201 n a1 f) x2 x3 (x5 + (1)) (wI h a1 ((18) + x5).toNatClampNeg r29)) else none))) else none))
set_option maxRecDepth 100000 in
set_option maxHeartbeats 4000000 in
theorem v_X12_goNight_201 {X : WX} {G : GX} {o : Mm} {n : Nat} {a1 : Nat} {rv : Int32} {hz : Mm} (ha1 : isO false 0 a1) : ∀ (f : Nat) (x2 : Int32) (x3 : Int32) (x5 : Int32) (h : Mm), X12_goNight_201 n a1 f x2 x3 x5 h = some (rv, hz) → V X G RX12 cX12_goNight 6 (some .int) 3 0 0 (QR X G false o (some (.int rv)) hz) false o 201 [(0, .ref (xa X 251)), (1, .ref (xa X a1)), (2, .int x2), (3, .int x3), (5, .int x5)] [] h := by
  intro f
  induction f with
  | zero => intro x2 x3 x5 h hF; exact nomatch (show (none : Option (Int32 × Mm)) = some (rv, hz) from hF)
  | succ f ih =>
    intro x2 x3 x5 h hF
    unfold X12_goNight_201 at hF
    refine V.iload 4 dX12_goNight_201 rfl ?_
    refine V.iconst (v := 4) dX12_goNight_203 rfl ?_
    refine V.icmp_ge (tgt := 233) dX12_goNight_204 rfl (fun c => ?_) (fun c => ?_)
    · replace hF := (if_pos c).symm.trans hF
      refine V.aload_n 1 dX12_goNight_233 rfl rfl ?_
      refine V.bipush (v := 24) dX12_goNight_234 (by decide) ?_
      refine V.iconst (v := 0) dX12_goNight_236 rfl ?_
      obtain ⟨hk, hF⟩ := ck hF
      refine V.iast ha1 hk dX12_goNight_237 ?_
      refine V.aload_n 1 dX12_goNight_238 rfl rfl ?_
      refine V.bipush (v := 25) dX12_goNight_239 (by decide) ?_
      refine V.iconst (v := 0) dX12_goNight_241 rfl ?_
      obtain ⟨hk, hF⟩ := ck hF
      refine V.iast ha1 hk dX12_goNight_242 ?_
      refine V.aload_n 1 dX12_goNight_243 rfl rfl ?_
      refine V.bipush (v := 26) dX12_goNight_244 (by decide) ?_
      refine V.iconst (v := 0) dX12_goNight_246 rfl ?_
      obtain ⟨hk, hF⟩ := ck hF
      refine V.iast ha1 hk dX12_goNight_247 ?_
      refine V.aload_n 1 dX12_goNight_248 rfl rfl ?_
      refine V.iconst (v := 3) dX12_goNight_249 rfl ?_
      refine V.iload_n 2 dX12_goNight_250 rfl rfl ?_
      refine V.imul dX12_goNight_251 ?_
      refine V.iconst (v := 2) dX12_goNight_252 rfl ?_
      refine V.iadd dX12_goNight_253 ?_
      refine V.dup2 dX12_goNight_254 rfl rfl ?_
      obtain ⟨hk, hF⟩ := ck hF
      refine V.iald ha1 hk dX12_goNight_255 ?_
      refine V.iconst (v := 1) dX12_goNight_256 rfl ?_
      refine V.iadd dX12_goNight_257 ?_
      obtain ⟨hk, hF⟩ := ck hF
      refine V.iast ha1 hk dX12_goNight_258 ?_
      refine V.aload_n 1 dX12_goNight_259 rfl rfl ?_
      refine V.bipush (v := 23) dX12_goNight_260 (by decide) ?_
      refine V.iload_n 2 dX12_goNight_262 rfl rfl ?_
      refine V.iconst (v := 1) dX12_goNight_263 rfl ?_
      refine V.iadd dX12_goNight_264 ?_
      refine V.aload_n 0 dX12_goNight_265 rfl rfl ?_
      refine V.getI fl_X12_291 sh_251 rfl km_251 dX12_goNight_266 ?_
      obtain ⟨hk, hF⟩ := ck hF
      refine V.irem dX12_goNight_269 hk ?_
      obtain ⟨hk, hF⟩ := ck hF
      refine V.iast ha1 hk dX12_goNight_270 ?_
      refine V.aload_n 1 dX12_goNight_271 rfl rfl ?_
      refine V.bipush (v := 29) dX12_goNight_272 (by decide) ?_
      refine V.dup2 dX12_goNight_274 rfl rfl ?_
      obtain ⟨hk, hF⟩ := ck hF
      refine V.iald ha1 hk dX12_goNight_275 ?_
      refine V.iconst (v := 1) dX12_goNight_276 rfl ?_
      refine V.iadd dX12_goNight_277 ?_
      obtain ⟨hk, hF⟩ := ck hF
      refine V.iast ha1 hk dX12_goNight_278 ?_
      refine V.iload_n 3 dX12_goNight_279 rfl rfl ?_
      cases hF
      exact V.iret dX12_goNight_280
    · replace hF := (if_neg c).symm.trans hF
      refine V.aload_n 1 dX12_goNight_207 rfl rfl ?_
      refine V.bipush (v := 18) dX12_goNight_208 (by decide) ?_
      refine V.iload 4 dX12_goNight_210 rfl ?_
      refine V.iadd dX12_goNight_212 ?_
      refine V.iconst (v := 0) dX12_goNight_213 rfl ?_
      refine V.aload_n 1 dX12_goNight_214 rfl rfl ?_
      refine V.bipush (v := 18) dX12_goNight_215 (by decide) ?_
      refine V.iload 4 dX12_goNight_217 rfl ?_
      refine V.iadd dX12_goNight_219 ?_
      obtain ⟨hk, hF⟩ := ck hF
      refine V.iald ha1 hk dX12_goNight_220 ?_
      refine V.iconst (v := 1) dX12_goNight_221 rfl ?_
      refine V.isub dX12_goNight_222 ?_
      obtain ⟨r29, hc30, hF⟩ := bp_s hF
      refine V.callSi mf_J9_max_7cf53 ml_X12_317 (s_J9_max_7cf53 hc30) (by decide) rfl rfl (Nat.le_of_ble_eq_true rfl) dX12_goNight_223 ?_
      obtain ⟨hk, hF⟩ := ck hF
      refine V.iast ha1 hk dX12_goNight_226 ?_
      refine V.iinc (v := (x5 + (1))) 4 [(5, _), (0, _), (1, _), (2, _), (3, _)] dX12_goNight_227 rfl rfl (by decide) rfl ?_
      refine V.goto (tgt := 201) dX12_goNight_230 rfl ?_
      exact V.sub [1, 2, 3, 4, 0] rfl (ih _ _ _ _ hF)
def X12_goNight_160 (n : Nat) (a1 : Nat) : Nat → Int32 → Int32 → Int32 → Mm → Option (Int32 × Mm)
  | 0, _, _, _, _ => none
  | f + 1, x2, x3, x5, h => (if (h.1 251 27) ≤ x5 then (X12_goNight_201 n a1 n x2 x3 (0) h) else (if inB (((3) * x5) + (0)) (aln a1) then (bp (J9_max_7cf53 (0) ((h.1 a1 (((3) * x5) + (0)).toNatClampNeg) - (6)) h) (fun r31 => (if inB (((3) * x5) + (0)) (aln a1) then ((X12_goNight_160 n a1 f) x2 x3 (x5 + (1)) (wI h a1 (((3) * x5) + (0)).toNatClampNeg r31)) else none))) else none))
set_option maxRecDepth 100000 in
set_option maxHeartbeats 4000000 in
theorem v_X12_goNight_160 {X : WX} {G : GX} {o : Mm} {n : Nat} {a1 : Nat} {rv : Int32} {hz : Mm} (ha1 : isO false 0 a1) : ∀ (f : Nat) (x2 : Int32) (x3 : Int32) (x5 : Int32) (h : Mm), X12_goNight_160 n a1 f x2 x3 x5 h = some (rv, hz) → V X G RX12 cX12_goNight 6 (some .int) 3 0 0 (QR X G false o (some (.int rv)) hz) false o 160 [(0, .ref (xa X 251)), (1, .ref (xa X a1)), (2, .int x2), (3, .int x3), (5, .int x5)] [] h := by
  intro f
  induction f with
  | zero => intro x2 x3 x5 h hF; exact nomatch (show (none : Option (Int32 × Mm)) = some (rv, hz) from hF)
  | succ f ih =>
    intro x2 x3 x5 h hF
    unfold X12_goNight_160 at hF
    refine V.iload 4 dX12_goNight_160 rfl ?_
    refine V.aload_n 0 dX12_goNight_162 rfl rfl ?_
    refine V.getI fl_X12_291 sh_251 rfl km_251 dX12_goNight_163 ?_
    refine V.icmp_ge (tgt := 198) dX12_goNight_166 rfl (fun c => ?_) (fun c => ?_)
    · replace hF := (if_pos c).symm.trans hF
      refine V.iconst (v := 0) dX12_goNight_198 rfl ?_
      refine V.istore [(5, _), (0, _), (1, _), (2, _), (3, _)] dX12_goNight_199 (by decide) rfl ?_
      exact V.sub [1, 2, 3, 4, 0] rfl (v_X12_goNight_201 ha1 n _ _ _ _ hF)
    · replace hF := (if_neg c).symm.trans hF
      refine V.aload_n 1 dX12_goNight_169 rfl rfl ?_
      refine V.iconst (v := 3) dX12_goNight_170 rfl ?_
      refine V.iload 4 dX12_goNight_171 rfl ?_
      refine V.imul dX12_goNight_173 ?_
      refine V.iconst (v := 0) dX12_goNight_174 rfl ?_
      refine V.iadd dX12_goNight_175 ?_
      refine V.iconst (v := 0) dX12_goNight_176 rfl ?_
      refine V.aload_n 1 dX12_goNight_177 rfl rfl ?_
      refine V.iconst (v := 3) dX12_goNight_178 rfl ?_
      refine V.iload 4 dX12_goNight_179 rfl ?_
      refine V.imul dX12_goNight_181 ?_
      refine V.iconst (v := 0) dX12_goNight_182 rfl ?_
      refine V.iadd dX12_goNight_183 ?_
      obtain ⟨hk, hF⟩ := ck hF
      refine V.iald ha1 hk dX12_goNight_184 ?_
      refine V.bipush (v := 6) dX12_goNight_185 (by decide) ?_
      refine V.isub dX12_goNight_187 ?_
      obtain ⟨r31, hc32, hF⟩ := bp_s hF
      refine V.callSi mf_J9_max_7cf53 ml_X12_317 (s_J9_max_7cf53 hc32) (by decide) rfl rfl (Nat.le_of_ble_eq_true rfl) dX12_goNight_188 ?_
      obtain ⟨hk, hF⟩ := ck hF
      refine V.iast ha1 hk dX12_goNight_191 ?_
      refine V.iinc (v := (x5 + (1))) 4 [(5, _), (0, _), (1, _), (2, _), (3, _)] dX12_goNight_192 rfl rfl (by decide) rfl ?_
      refine V.goto (tgt := 160) dX12_goNight_195 rfl ?_
      exact V.sub [1, 2, 3, 4, 0] rfl (ih _ _ _ _ hF)
def X12_goNight_79 (n : Nat) (a1 : Nat) (x2 : Int32) (x3 : Int32) (h : Mm) : Option (Int32 × Mm) := (if inB (30) (aln a1) then (if inB ((31) + ((3) * (h.1 a1 (30).toNatClampNeg))) (aln a1) then (if inB (22) (aln a1) then (if inB (((31) + ((3) * (h.1 a1 (30).toNatClampNeg))) + (1)) (aln a1) then (if inB (((31) + ((3) * (h.1 a1 (30).toNatClampNeg))) + (2)) (aln a1) then (if inB (30) (aln a1) then (if inB (30) (aln a1) then (if inB (27) (aln a1) then (if inB (27) (aln a1) then (if inB (28) (aln a1) then (if inB ((3) * x2) (aln 260) then (if inB (28) (aln a1) then (if inB (22) (aln a1) then (bp (X12_behind ((wI (wI (wI (wI (wI (wI h a1 ((31) + ((3) * (h.1 a1 (30).toNatClampNeg))).toNatClampNeg x2) a1 (((31) + ((3) * (h.1 a1 (30).toNatClampNeg))) + (1)).toNatClampNeg ((wI h a1 ((31) + ((3) * (h.1 a1 (30).toNatClampNeg))).toNatClampNeg x2).1 a1 (22).toNatClampNeg)) a1 (((31) + ((3) * (h.1 a1 (30).toNatClampNeg))) + (2)).toNatClampNeg x3) a1 (30).toNatClampNeg (((wI (wI (wI h a1 ((31) + ((3) * (h.1 a1 (30).toNatClampNeg))).toNatClampNeg x2) a1 (((31) + ((3) * (h.1 a1 (30).toNatClampNeg))) + (1)).toNatClampNeg ((wI h a1 ((31) + ((3) * (h.1 a1 (30).toNatClampNeg))).toNatClampNeg x2).1 a1 (22).toNatClampNeg)) a1 (((31) + ((3) * (h.1 a1 (30).toNatClampNeg))) + (2)).toNatClampNeg x3).1 a1 (30).toNatClampNeg) + (1))) a1 (27).toNatClampNeg (((wI (wI (wI (wI h a1 ((31) + ((3) * (h.1 a1 (30).toNatClampNeg))).toNatClampNeg x2) a1 (((31) + ((3) * (h.1 a1 (30).toNatClampNeg))) + (1)).toNatClampNeg ((wI h a1 ((31) + ((3) * (h.1 a1 (30).toNatClampNeg))).toNatClampNeg x2).1 a1 (22).toNatClampNeg)) a1 (((31) + ((3) * (h.1 a1 (30).toNatClampNeg))) + (2)).toNatClampNeg x3) a1 (30).toNatClampNeg (((wI (wI (wI h a1 ((31) + ((3) * (h.1 a1 (30).toNatClampNeg))).toNatClampNeg x2) a1 (((31) + ((3) * (h.1 a1 (30).toNatClampNeg))) + (1)).toNatClampNeg ((wI h a1 ((31) + ((3) * (h.1 a1 (30).toNatClampNeg))).toNatClampNeg x2).1 a1 (22).toNatClampNeg)) a1 (((31) + ((3) * (h.1 a1 (30).toNatClampNeg))) + (2)).toNatClampNeg x3).1 a1 (30).toNatClampNeg) + (1))).1 a1 (27).toNatClampNeg) + x3)) a1 (28).toNatClampNeg (((wI (wI (wI (wI (wI h a1 ((31) + ((3) * (h.1 a1 (30).toNatClampNeg))).toNatClampNeg x2) a1 (((31) + ((3) * (h.1 a1 (30).toNatClampNeg))) + (1)).toNatClampNeg ((wI h a1 ((31) + ((3) * (h.1 a1 (30).toNatClampNeg))).toNatClampNeg x2).1 a1 (22).toNatClampNeg)) a1 (((31) + ((3) * (h.1 a1 (30).toNatClampNeg))) + (2)).toNatClampNeg x3) a1 (30).toNatClampNeg (((wI (wI (wI h a1 ((31) + ((3) * (h.1 a1 (30).toNatClampNeg))).toNatClampNeg x2) a1 (((31) + ((3) * (h.1 a1 (30).toNatClampNeg))) + (1)).toNatClampNeg ((wI h a1 ((31) + ((3) * (h.1 a1 (30).toNatClampNeg))).toNatClampNeg x2).1 a1 (22).toNatClampNeg)) a1 (((31) + ((3) * (h.1 a1 (30).toNatClampNeg))) + (2)).toNatClampNeg x3).1 a1 (30).toNatClampNeg) + (1))) a1 (27).toNatClampNeg (((wI (wI (wI (wI h a1 ((31) + ((3) * (h.1 a1 (30).toNatClampNeg))).toNatClampNeg x2) a1 (((31) + ((3) * (h.1 a1 (30).toNatClampNeg))) + (1)).toNatClampNeg ((wI h a1 ((31) + ((3) * (h.1 a1 (30).toNatClampNeg))).toNatClampNeg x2).1 a1 (22).toNatClampNeg)) a1 (((31) + ((3) * (h.1 a1 (30).toNatClampNeg))) + (2)).toNatClampNeg x3) a1 (30).toNatClampNeg (((wI (wI (wI h a1 ((31) + ((3) * (h.1 a1 (30).toNatClampNeg))).toNatClampNeg x2) a1 (((31) + ((3) * (h.1 a1 (30).toNatClampNeg))) + (1)).toNatClampNeg ((wI h a1 ((31) + ((3) * (h.1 a1 (30).toNatClampNeg))).toNatClampNeg x2).1 a1 (22).toNatClampNeg)) a1 (((31) + ((3) * (h.1 a1 (30).toNatClampNeg))) + (2)).toNatClampNeg x3).1 a1 (30).toNatClampNeg) + (1))).1 a1 (27).toNatClampNeg) + x3)).1 a1 (28).toNatClampNeg) + (((wI (wI (wI (wI (wI h a1 ((31) + ((3) * (h.1 a1 (30).toNatClampNeg))).toNatClampNeg x2) a1 (((31) + ((3) * (h.1 a1 (30).toNatClampNeg))) + (1)).toNatClampNeg ((wI h a1 ((31) + ((3) * (h.1 a1 (30).toNatClampNeg))).toNatClampNeg x2).1 a1 (22).toNatClampNeg)) a1 (((31) + ((3) * (h.1 a1 (30).toNatClampNeg))) + (2)).toNatClampNeg x3) a1 (30).toNatClampNeg (((wI (wI (wI h a1 ((31) + ((3) * (h.1 a1 (30).toNatClampNeg))).toNatClampNeg x2) a1 (((31) + ((3) * (h.1 a1 (30).toNatClampNeg))) + (1)).toNatClampNeg ((wI h a1 ((31) + ((3) * (h.1 a1 (30).toNatClampNeg))).toNatClampNeg x2).1 a1 (22).toNatClampNeg)) a1 (((31) + ((3) * (h.1 a1 (30).toNatClampNeg))) + (2)).toNatClampNeg x3).1 a1 (30).toNatClampNeg) + (1))) a1 (27).toNatClampNeg (((wI (wI (wI (wI h a1 ((31) + ((3) * (h.1 a1 (30).toNatClampNeg))).toNatClampNeg x2) a1 (((31) + ((3) * (h.1 a1 (30).toNatClampNeg))) + (1)).toNatClampNeg ((wI h a1 ((31) + ((3) * (h.1 a1 (30).toNatClampNeg))).toNatClampNeg x2).1 a1 (22).toNatClampNeg)) a1 (((31) + ((3) * (h.1 a1 (30).toNatClampNeg))) + (2)).toNatClampNeg x3) a1 (30).toNatClampNeg (((wI (wI (wI h a1 ((31) + ((3) * (h.1 a1 (30).toNatClampNeg))).toNatClampNeg x2) a1 (((31) + ((3) * (h.1 a1 (30).toNatClampNeg))) + (1)).toNatClampNeg ((wI h a1 ((31) + ((3) * (h.1 a1 (30).toNatClampNeg))).toNatClampNeg x2).1 a1 (22).toNatClampNeg)) a1 (((31) + ((3) * (h.1 a1 (30).toNatClampNeg))) + (2)).toNatClampNeg x3).1 a1 (30).toNatClampNeg) + (1))).1 a1 (27).toNatClampNeg) + x3)).1 260 ((3) * x2).toNatClampNeg) - x3))).1 a1 (22).toNatClampNeg) (wI (wI (wI (wI (wI (wI h a1 ((31) + ((3) * (h.1 a1 (30).toNatClampNeg))).toNatClampNeg x2) a1 (((31) + ((3) * (h.1 a1 (30).toNatClampNeg))) + (1)).toNatClampNeg ((wI h a1 ((31) + ((3) * (h.1 a1 (30).toNatClampNeg))).toNatClampNeg x2).1 a1 (22).toNatClampNeg)) a1 (((31) + ((3) * (h.1 a1 (30).toNatClampNeg))) + (2)).toNatClampNeg x3) a1 (30).toNatClampNeg (((wI (wI (wI h a1 ((31) + ((3) * (h.1 a1 (30).toNatClampNeg))).toNatClampNeg x2) a1 (((31) + ((3) * (h.1 a1 (30).toNatClampNeg))) + (1)).toNatClampNeg ((wI h a1 ((31) + ((3) * (h.1 a1 (30).toNatClampNeg))).toNatClampNeg x2).1 a1 (22).toNatClampNeg)) a1 (((31) + ((3) * (h.1 a1 (30).toNatClampNeg))) + (2)).toNatClampNeg x3).1 a1 (30).toNatClampNeg) + (1))) a1 (27).toNatClampNeg (((wI (wI (wI (wI h a1 ((31) + ((3) * (h.1 a1 (30).toNatClampNeg))).toNatClampNeg x2) a1 (((31) + ((3) * (h.1 a1 (30).toNatClampNeg))) + (1)).toNatClampNeg ((wI h a1 ((31) + ((3) * (h.1 a1 (30).toNatClampNeg))).toNatClampNeg x2).1 a1 (22).toNatClampNeg)) a1 (((31) + ((3) * (h.1 a1 (30).toNatClampNeg))) + (2)).toNatClampNeg x3) a1 (30).toNatClampNeg (((wI (wI (wI h a1 ((31) + ((3) * (h.1 a1 (30).toNatClampNeg))).toNatClampNeg x2) a1 (((31) + ((3) * (h.1 a1 (30).toNatClampNeg))) + (1)).toNatClampNeg ((wI h a1 ((31) + ((3) * (h.1 a1 (30).toNatClampNeg))).toNatClampNeg x2).1 a1 (22).toNatClampNeg)) a1 (((31) + ((3) * (h.1 a1 (30).toNatClampNeg))) + (2)).toNatClampNeg x3).1 a1 (30).toNatClampNeg) + (1))).1 a1 (27).toNatClampNeg) + x3)) a1 (28).toNatClampNeg (((wI (wI (wI (wI (wI h a1 ((31) + ((3) * (h.1 a1 (30).toNatClampNeg))).toNatClampNeg x2) a1 (((31) + ((3) * (h.1 a1 (30).toNatClampNeg))) + (1)).toNatClampNeg ((wI h a1 ((31) + ((3) * (h.1 a1 (30).toNatClampNeg))).toNatClampNeg x2).1 a1 (22).toNatClampNeg)) a1 (((31) + ((3) * (h.1 a1 (30).toNatClampNeg))) + (2)).toNatClampNeg x3) a1 (30).toNatClampNeg (((wI (wI (wI h a1 ((31) + ((3) * (h.1 a1 (30).toNatClampNeg))).toNatClampNeg x2) a1 (((31) + ((3) * (h.1 a1 (30).toNatClampNeg))) + (1)).toNatClampNeg ((wI h a1 ((31) + ((3) * (h.1 a1 (30).toNatClampNeg))).toNatClampNeg x2).1 a1 (22).toNatClampNeg)) a1 (((31) + ((3) * (h.1 a1 (30).toNatClampNeg))) + (2)).toNatClampNeg x3).1 a1 (30).toNatClampNeg) + (1))) a1 (27).toNatClampNeg (((wI (wI (wI (wI h a1 ((31) + ((3) * (h.1 a1 (30).toNatClampNeg))).toNatClampNeg x2) a1 (((31) + ((3) * (h.1 a1 (30).toNatClampNeg))) + (1)).toNatClampNeg ((wI h a1 ((31) + ((3) * (h.1 a1 (30).toNatClampNeg))).toNatClampNeg x2).1 a1 (22).toNatClampNeg)) a1 (((31) + ((3) * (h.1 a1 (30).toNatClampNeg))) + (2)).toNatClampNeg x3) a1 (30).toNatClampNeg (((wI (wI (wI h a1 ((31) + ((3) * (h.1 a1 (30).toNatClampNeg))).toNatClampNeg x2) a1 (((31) + ((3) * (h.1 a1 (30).toNatClampNeg))) + (1)).toNatClampNeg ((wI h a1 ((31) + ((3) * (h.1 a1 (30).toNatClampNeg))).toNatClampNeg x2).1 a1 (22).toNatClampNeg)) a1 (((31) + ((3) * (h.1 a1 (30).toNatClampNeg))) + (2)).toNatClampNeg x3).1 a1 (30).toNatClampNeg) + (1))).1 a1 (27).toNatClampNeg) + x3)).1 a1 (28).toNatClampNeg) + (((wI (wI (wI (wI (wI h a1 ((31) + ((3) * (h.1 a1 (30).toNatClampNeg))).toNatClampNeg x2) a1 (((31) + ((3) * (h.1 a1 (30).toNatClampNeg))) + (1)).toNatClampNeg ((wI h a1 ((31) + ((3) * (h.1 a1 (30).toNatClampNeg))).toNatClampNeg x2).1 a1 (22).toNatClampNeg)) a1 (((31) + ((3) * (h.1 a1 (30).toNatClampNeg))) + (2)).toNatClampNeg x3) a1 (30).toNatClampNeg (((wI (wI (wI h a1 ((31) + ((3) * (h.1 a1 (30).toNatClampNeg))).toNatClampNeg x2) a1 (((31) + ((3) * (h.1 a1 (30).toNatClampNeg))) + (1)).toNatClampNeg ((wI h a1 ((31) + ((3) * (h.1 a1 (30).toNatClampNeg))).toNatClampNeg x2).1 a1 (22).toNatClampNeg)) a1 (((31) + ((3) * (h.1 a1 (30).toNatClampNeg))) + (2)).toNatClampNeg x3).1 a1 (30).toNatClampNeg) + (1))) a1 (27).toNatClampNeg (((wI (wI (wI (wI h a1 ((31) + ((3) * (h.1 a1 (30).toNatClampNeg))).toNatClampNeg x2) a1 (((31) + ((3) * (h.1 a1 (30).toNatClampNeg))) + (1)).toNatClampNeg ((wI h a1 ((31) + ((3) * (h.1 a1 (30).toNatClampNeg))).toNatClampNeg x2).1 a1 (22).toNatClampNeg)) a1 (((31) + ((3) * (h.1 a1 (30).toNatClampNeg))) + (2)).toNatClampNeg x3) a1 (30).toNatClampNeg (((wI (wI (wI h a1 ((31) + ((3) * (h.1 a1 (30).toNatClampNeg))).toNatClampNeg x2) a1 (((31) + ((3) * (h.1 a1 (30).toNatClampNeg))) + (1)).toNatClampNeg ((wI h a1 ((31) + ((3) * (h.1 a1 (30).toNatClampNeg))).toNatClampNeg x2).1 a1 (22).toNatClampNeg)) a1 (((31) + ((3) * (h.1 a1 (30).toNatClampNeg))) + (2)).toNatClampNeg x3).1 a1 (30).toNatClampNeg) + (1))).1 a1 (27).toNatClampNeg) + x3)).1 260 ((3) * x2).toNatClampNeg) - x3)))) (fun r33 => (if inB (22) (aln a1) then (X12_goNight_160 n a1 n x2 x3 (0) (wI (wI (wI (wI (wI (wI (wI h a1 ((31) + ((3) * (h.1 a1 (30).toNatClampNeg))).toNatClampNeg x2) a1 (((31) + ((3) * (h.1 a1 (30).toNatClampNeg))) + (1)).toNatClampNeg ((wI h a1 ((31) + ((3) * (h.1 a1 (30).toNatClampNeg))).toNatClampNeg x2).1 a1 (22).toNatClampNeg)) a1 (((31) + ((3) * (h.1 a1 (30).toNatClampNeg))) + (2)).toNatClampNeg x3) a1 (30).toNatClampNeg (((wI (wI (wI h a1 ((31) + ((3) * (h.1 a1 (30).toNatClampNeg))).toNatClampNeg x2) a1 (((31) + ((3) * (h.1 a1 (30).toNatClampNeg))) + (1)).toNatClampNeg ((wI h a1 ((31) + ((3) * (h.1 a1 (30).toNatClampNeg))).toNatClampNeg x2).1 a1 (22).toNatClampNeg)) a1 (((31) + ((3) * (h.1 a1 (30).toNatClampNeg))) + (2)).toNatClampNeg x3).1 a1 (30).toNatClampNeg) + (1))) a1 (27).toNatClampNeg (((wI (wI (wI (wI h a1 ((31) + ((3) * (h.1 a1 (30).toNatClampNeg))).toNatClampNeg x2) a1 (((31) + ((3) * (h.1 a1 (30).toNatClampNeg))) + (1)).toNatClampNeg ((wI h a1 ((31) + ((3) * (h.1 a1 (30).toNatClampNeg))).toNatClampNeg x2).1 a1 (22).toNatClampNeg)) a1 (((31) + ((3) * (h.1 a1 (30).toNatClampNeg))) + (2)).toNatClampNeg x3) a1 (30).toNatClampNeg (((wI (wI (wI h a1 ((31) + ((3) * (h.1 a1 (30).toNatClampNeg))).toNatClampNeg x2) a1 (((31) + ((3) * (h.1 a1 (30).toNatClampNeg))) + (1)).toNatClampNeg ((wI h a1 ((31) + ((3) * (h.1 a1 (30).toNatClampNeg))).toNatClampNeg x2).1 a1 (22).toNatClampNeg)) a1 (((31) + ((3) * (h.1 a1 (30).toNatClampNeg))) + (2)).toNatClampNeg x3).1 a1 (30).toNatClampNeg) + (1))).1 a1 (27).toNatClampNeg) + x3)) a1 (28).toNatClampNeg (((wI (wI (wI (wI (wI h a1 ((31) + ((3) * (h.1 a1 (30).toNatClampNeg))).toNatClampNeg x2) a1 (((31) + ((3) * (h.1 a1 (30).toNatClampNeg))) + (1)).toNatClampNeg ((wI h a1 ((31) + ((3) * (h.1 a1 (30).toNatClampNeg))).toNatClampNeg x2).1 a1 (22).toNatClampNeg)) a1 (((31) + ((3) * (h.1 a1 (30).toNatClampNeg))) + (2)).toNatClampNeg x3) a1 (30).toNatClampNeg (((wI (wI (wI h a1 ((31) + ((3) * (h.1 a1 (30).toNatClampNeg))).toNatClampNeg x2) a1 (((31) + ((3) * (h.1 a1 (30).toNatClampNeg))) + (1)).toNatClampNeg ((wI h a1 ((31) + ((3) * (h.1 a1 (30).toNatClampNeg))).toNatClampNeg x2).1 a1 (22).toNatClampNeg)) a1 (((31) + ((3) * (h.1 a1 (30).toNatClampNeg))) + (2)).toNatClampNeg x3).1 a1 (30).toNatClampNeg) + (1))) a1 (27).toNatClampNeg (((wI (wI (wI (wI h a1 ((31) + ((3) * (h.1 a1 (30).toNatClampNeg))).toNatClampNeg x2) a1 (((31) + ((3) * (h.1 a1 (30).toNatClampNeg))) + (1)).toNatClampNeg ((wI h a1 ((31) + ((3) * (h.1 a1 (30).toNatClampNeg))).toNatClampNeg x2).1 a1 (22).toNatClampNeg)) a1 (((31) + ((3) * (h.1 a1 (30).toNatClampNeg))) + (2)).toNatClampNeg x3) a1 (30).toNatClampNeg (((wI (wI (wI h a1 ((31) + ((3) * (h.1 a1 (30).toNatClampNeg))).toNatClampNeg x2) a1 (((31) + ((3) * (h.1 a1 (30).toNatClampNeg))) + (1)).toNatClampNeg ((wI h a1 ((31) + ((3) * (h.1 a1 (30).toNatClampNeg))).toNatClampNeg x2).1 a1 (22).toNatClampNeg)) a1 (((31) + ((3) * (h.1 a1 (30).toNatClampNeg))) + (2)).toNatClampNeg x3).1 a1 (30).toNatClampNeg) + (1))).1 a1 (27).toNatClampNeg) + x3)).1 a1 (28).toNatClampNeg) + (((wI (wI (wI (wI (wI h a1 ((31) + ((3) * (h.1 a1 (30).toNatClampNeg))).toNatClampNeg x2) a1 (((31) + ((3) * (h.1 a1 (30).toNatClampNeg))) + (1)).toNatClampNeg ((wI h a1 ((31) + ((3) * (h.1 a1 (30).toNatClampNeg))).toNatClampNeg x2).1 a1 (22).toNatClampNeg)) a1 (((31) + ((3) * (h.1 a1 (30).toNatClampNeg))) + (2)).toNatClampNeg x3) a1 (30).toNatClampNeg (((wI (wI (wI h a1 ((31) + ((3) * (h.1 a1 (30).toNatClampNeg))).toNatClampNeg x2) a1 (((31) + ((3) * (h.1 a1 (30).toNatClampNeg))) + (1)).toNatClampNeg ((wI h a1 ((31) + ((3) * (h.1 a1 (30).toNatClampNeg))).toNatClampNeg x2).1 a1 (22).toNatClampNeg)) a1 (((31) + ((3) * (h.1 a1 (30).toNatClampNeg))) + (2)).toNatClampNeg x3).1 a1 (30).toNatClampNeg) + (1))) a1 (27).toNatClampNeg (((wI (wI (wI (wI h a1 ((31) + ((3) * (h.1 a1 (30).toNatClampNeg))).toNatClampNeg x2) a1 (((31) + ((3) * (h.1 a1 (30).toNatClampNeg))) + (1)).toNatClampNeg ((wI h a1 ((31) + ((3) * (h.1 a1 (30).toNatClampNeg))).toNatClampNeg x2).1 a1 (22).toNatClampNeg)) a1 (((31) + ((3) * (h.1 a1 (30).toNatClampNeg))) + (2)).toNatClampNeg x3) a1 (30).toNatClampNeg (((wI (wI (wI h a1 ((31) + ((3) * (h.1 a1 (30).toNatClampNeg))).toNatClampNeg x2) a1 (((31) + ((3) * (h.1 a1 (30).toNatClampNeg))) + (1)).toNatClampNeg ((wI h a1 ((31) + ((3) * (h.1 a1 (30).toNatClampNeg))).toNatClampNeg x2).1 a1 (22).toNatClampNeg)) a1 (((31) + ((3) * (h.1 a1 (30).toNatClampNeg))) + (2)).toNatClampNeg x3).1 a1 (30).toNatClampNeg) + (1))).1 a1 (27).toNatClampNeg) + x3)).1 260 ((3) * x2).toNatClampNeg) - x3))) a1 (22).toNatClampNeg r33)) else none))) else none) else none) else none) else none) else none) else none) else none) else none) else none) else none) else none) else none) else none)
set_option maxRecDepth 100000 in
set_option maxHeartbeats 4000000 in
theorem v_X12_goNight_79 {X : WX} {G : GX} {o : Mm} {n : Nat} {a1 : Nat} {rv : Int32} {hz : Mm} (ha1 : isO false 0 a1) {x2 : Int32} {x3 : Int32} {h : Mm} (hF : X12_goNight_79 n a1 x2 x3 h = some (rv, hz)) : V X G RX12 cX12_goNight 6 (some .int) 3 0 0 (QR X G false o (some (.int rv)) hz) false o 79 [(0, .ref (xa X 251)), (1, .ref (xa X a1)), (2, .int x2), (3, .int x3)] [] h := by
  unfold X12_goNight_79 at hF
  refine V.bipush (v := 31) dX12_goNight_79 (by decide) ?_
  refine V.iconst (v := 3) dX12_goNight_81 rfl ?_
  refine V.aload_n 1 dX12_goNight_82 rfl rfl ?_
  refine V.bipush (v := 30) dX12_goNight_83 (by decide) ?_
  obtain ⟨hk, hF⟩ := ck hF
  refine V.iald ha1 hk dX12_goNight_85 ?_
  refine V.imul dX12_goNight_86 ?_
  refine V.iadd dX12_goNight_87 ?_
  refine V.istore [(4, _), (0, _), (1, _), (2, _), (3, _)] dX12_goNight_88 (by decide) rfl ?_
  refine V.aload_n 2 dX12_goNight_90 rfl rfl ?_
  refine V.iload 0 dX12_goNight_91 rfl ?_
  refine V.iload_n 3 dX12_goNight_93 rfl rfl ?_
  obtain ⟨hk, hF⟩ := ck hF
  refine V.iast ha1 hk dX12_goNight_94 ?_
  refine V.aload_n 2 dX12_goNight_95 rfl rfl ?_
  refine V.iload 0 dX12_goNight_96 rfl ?_
  refine V.iconst (v := 1) dX12_goNight_98 rfl ?_
  refine V.iadd dX12_goNight_99 ?_
  refine V.aload_n 2 dX12_goNight_100 rfl rfl ?_
  refine V.bipush (v := 22) dX12_goNight_101 (by decide) ?_
  obtain ⟨hk, hF⟩ := ck hF
  refine V.iald ha1 hk dX12_goNight_103 ?_
  obtain ⟨hk, hF⟩ := ck hF
  refine V.iast ha1 hk dX12_goNight_104 ?_
  refine V.aload_n 2 dX12_goNight_105 rfl rfl ?_
  refine V.iload 0 dX12_goNight_106 rfl ?_
  refine V.iconst (v := 2) dX12_goNight_108 rfl ?_
  refine V.iadd dX12_goNight_109 ?_
  refine V.iload_n 4 dX12_goNight_110 rfl rfl ?_
  obtain ⟨hk, hF⟩ := ck hF
  refine V.iast ha1 hk dX12_goNight_111 ?_
  refine V.aload_n 2 dX12_goNight_112 rfl rfl ?_
  refine V.bipush (v := 30) dX12_goNight_113 (by decide) ?_
  refine V.dup2 dX12_goNight_115 rfl rfl ?_
  obtain ⟨hk, hF⟩ := ck hF
  refine V.iald ha1 hk dX12_goNight_116 ?_
  refine V.iconst (v := 1) dX12_goNight_117 rfl ?_
  refine V.iadd dX12_goNight_118 ?_
  obtain ⟨hk, hF⟩ := ck hF
  refine V.iast ha1 hk dX12_goNight_119 ?_
  refine V.aload_n 2 dX12_goNight_120 rfl rfl ?_
  refine V.bipush (v := 27) dX12_goNight_121 (by decide) ?_
  refine V.dup2 dX12_goNight_123 rfl rfl ?_
  obtain ⟨hk, hF⟩ := ck hF
  refine V.iald ha1 hk dX12_goNight_124 ?_
  refine V.iload_n 4 dX12_goNight_125 rfl rfl ?_
  refine V.iadd dX12_goNight_126 ?_
  obtain ⟨hk, hF⟩ := ck hF
  refine V.iast ha1 hk dX12_goNight_127 ?_
  refine V.aload_n 2 dX12_goNight_128 rfl rfl ?_
  refine V.bipush (v := 28) dX12_goNight_129 (by decide) ?_
  refine V.dup2 dX12_goNight_131 rfl rfl ?_
  obtain ⟨hk, hF⟩ := ck hF
  refine V.iald ha1 hk dX12_goNight_132 ?_
  refine V.aload_n 1 dX12_goNight_133 rfl rfl ?_
  refine V.getR (v := 260) fl_X12_49 sh_251 rfl fx_251_22 (by decide) dX12_goNight_134 ?_
  refine V.iconst (v := 3) dX12_goNight_137 rfl ?_
  refine V.iload_n 3 dX12_goNight_138 rfl rfl ?_
  refine V.imul dX12_goNight_139 ?_
  obtain ⟨hk, hF⟩ := ck hF
  refine V.iald io_260 hk dX12_goNight_140 ?_
  refine V.iload_n 4 dX12_goNight_141 rfl rfl ?_
  refine V.isub dX12_goNight_142 ?_
  refine V.iadd dX12_goNight_143 ?_
  obtain ⟨hk, hF⟩ := ck hF
  refine V.iast ha1 hk dX12_goNight_144 ?_
  refine V.aload_n 2 dX12_goNight_145 rfl rfl ?_
  refine V.bipush (v := 22) dX12_goNight_146 (by decide) ?_
  refine V.aload_n 1 dX12_goNight_148 rfl rfl ?_
  refine V.aload_n 2 dX12_goNight_149 rfl rfl ?_
  refine V.bipush (v := 22) dX12_goNight_150 (by decide) ?_
  obtain ⟨hk, hF⟩ := ck hF
  refine V.iald ha1 hk dX12_goNight_152 ?_
  obtain ⟨r33, hc34, hF⟩ := bp_s hF
  refine V.callVi mf_X12_behind ml_X12_343 sh_251 (s_X12_behind hc34) (by decide) rfl rfl (Nat.le_of_ble_eq_true rfl) dX12_goNight_153 ?_
  obtain ⟨hk, hF⟩ := ck hF
  refine V.iast ha1 hk dX12_goNight_156 ?_
  refine V.iconst (v := 0) dX12_goNight_157 rfl ?_
  refine V.istore [(5, _), (4, _), (0, _), (1, _), (2, _), (3, _)] dX12_goNight_158 (by decide) rfl ?_
  exact V.sub [2, 3, 4, 5, 0] rfl (v_X12_goNight_160 ha1 n _ _ _ _ hF)
def X12_goNight_41 (n : Nat) (a1 : Nat) : Nat → Int32 → Int32 → Int32 → Mm → Option (Int32 × Mm)
  | 0, _, _, _, _ => none
  | f + 1, x2, x3, x4, h => (if (177) < x4 then (if inB (30) (aln a1) then (if inB (30) (aln a1) then (X12_goNight_79 n a1 x2 x3 (wI h a1 (30).toNatClampNeg ((h.1 a1 (30).toNatClampNeg) - (1)))) else none) else none) else (if inB (((30) + x4) + (3)) (aln a1) then (if inB ((30) + x4) (aln a1) then ((X12_goNight_41 n a1 f) x2 x3 (x4 + (1)) (wI h a1 ((30) + x4).toNatClampNeg (h.1 a1 (((30) + x4) + (3)).toNatClampNeg))) else none) else none))
set_option maxRecDepth 100000 in
set_option maxHeartbeats 4000000 in
theorem v_X12_goNight_41 {X : WX} {G : GX} {o : Mm} {n : Nat} {a1 : Nat} {rv : Int32} {hz : Mm} (ha1 : isO false 0 a1) : ∀ (f : Nat) (x2 : Int32) (x3 : Int32) (x4 : Int32) (h : Mm), X12_goNight_41 n a1 f x2 x3 x4 h = some (rv, hz) → V X G RX12 cX12_goNight 6 (some .int) 3 0 0 (QR X G false o (some (.int rv)) hz) false o 41 [(0, .ref (xa X 251)), (1, .ref (xa X a1)), (2, .int x2), (3, .int x3), (4, .int x4)] [] h := by
  intro f
  induction f with
  | zero => intro x2 x3 x4 h hF; exact nomatch (show (none : Option (Int32 × Mm)) = some (rv, hz) from hF)
  | succ f ih =>
    intro x2 x3 x4 h hF
    unfold X12_goNight_41 at hF
    refine V.iload 4 dX12_goNight_41 rfl ?_
    refine V.sipush (v := 177) dX12_goNight_43 (by decide) ?_
    refine V.icmp_gt (tgt := 71) dX12_goNight_46 rfl (fun c => ?_) (fun c => ?_)
    · replace hF := (if_pos c).symm.trans hF
      refine V.aload_n 1 dX12_goNight_71 rfl rfl ?_
      refine V.bipush (v := 30) dX12_goNight_72 (by decide) ?_
      refine V.dup2 dX12_goNight_74 rfl rfl ?_
      obtain ⟨hk, hF⟩ := ck hF
      refine V.iald ha1 hk dX12_goNight_75 ?_
      refine V.iconst (v := 1) dX12_goNight_76 rfl ?_
      refine V.isub dX12_goNight_77 ?_
      obtain ⟨hk, hF⟩ := ck hF
      refine V.iast ha1 hk dX12_goNight_78 ?_
      exact V.sub [0, 1, 2, 3] rfl (v_X12_goNight_79 ha1 hF)
    · replace hF := (if_neg c).symm.trans hF
      refine V.aload_n 1 dX12_goNight_49 rfl rfl ?_
      refine V.bipush (v := 30) dX12_goNight_50 (by decide) ?_
      refine V.iload 4 dX12_goNight_52 rfl ?_
      refine V.iadd dX12_goNight_54 ?_
      refine V.aload_n 1 dX12_goNight_55 rfl rfl ?_
      refine V.bipush (v := 30) dX12_goNight_56 (by decide) ?_
      refine V.iload 4 dX12_goNight_58 rfl ?_
      refine V.iadd dX12_goNight_60 ?_
      refine V.iconst (v := 3) dX12_goNight_61 rfl ?_
      refine V.iadd dX12_goNight_62 ?_
      obtain ⟨hk, hF⟩ := ck hF
      refine V.iald ha1 hk dX12_goNight_63 ?_
      obtain ⟨hk, hF⟩ := ck hF
      refine V.iast ha1 hk dX12_goNight_64 ?_
      refine V.iinc (v := (x4 + (1))) 4 [(4, _), (0, _), (1, _), (2, _), (3, _)] dX12_goNight_65 rfl rfl (by decide) rfl ?_
      refine V.goto (tgt := 41) dX12_goNight_68 rfl ?_
      exact V.sub [1, 2, 3, 4, 0] rfl (ih _ _ _ _ hF)
def X12_goNight_28 (n : Nat) (a1 : Nat) (x2 : Int32) (s0 : Int32) (h : Mm) : Option (Int32 × Mm) := (if inB (30) (aln a1) then (if (h.1 a1 (30).toNatClampNeg) = (60) then (X12_goNight_41 n a1 n x2 s0 (1) h) else (X12_goNight_79 n a1 x2 s0 h)) else none)
set_option maxRecDepth 100000 in
set_option maxHeartbeats 4000000 in
theorem v_X12_goNight_28 {X : WX} {G : GX} {o : Mm} {n : Nat} {a1 : Nat} {rv : Int32} {hz : Mm} (ha1 : isO false 0 a1) {x2 : Int32} {s0 : Int32} {h : Mm} (hF : X12_goNight_28 n a1 x2 s0 h = some (rv, hz)) : V X G RX12 cX12_goNight 6 (some .int) 3 0 0 (QR X G false o (some (.int rv)) hz) false o 28 [(0, .ref (xa X 251)), (1, .ref (xa X a1)), (2, .int x2)] [.int s0] h := by
  unfold X12_goNight_28 at hF
  refine V.istore_n [(3, _), (0, _), (1, _), (2, _)] dX12_goNight_28 rfl (by decide) rfl ?_
  refine V.aload_n 2 dX12_goNight_29 rfl rfl ?_
  refine V.bipush (v := 30) dX12_goNight_30 (by decide) ?_
  obtain ⟨hk, hF⟩ := ck hF
  refine V.iald ha1 hk dX12_goNight_32 ?_
  refine V.bipush (v := 60) dX12_goNight_33 (by decide) ?_
  refine V.icmp_ne (tgt := 79) dX12_goNight_35 rfl (fun c => ?_) (fun c => ?_)
  · replace hF := (if_neg c).symm.trans hF
    exact V.sub [1, 2, 3, 0] rfl (v_X12_goNight_79 ha1 hF)
  · replace hF := (if_pos c).symm.trans hF
    refine V.iconst (v := 1) dX12_goNight_38 rfl ?_
    refine V.istore [(4, _), (3, _), (0, _), (1, _), (2, _)] dX12_goNight_39 (by decide) rfl ?_
    exact V.sub [2, 3, 4, 1, 0] rfl (v_X12_goNight_41 ha1 n _ _ _ _ hF)
def X12_goNight (n : Nat) (a1 : Nat) (h : Mm) : Option (Int32 × Mm) := (if inB (23) (aln a1) then (if inB (22) (aln a1) then (bp (X12_isEnough (h.1 a1 (22).toNatClampNeg) h) (fun r35 => (if r35 = true then (if inB ((3) * (h.1 a1 (23).toNatClampNeg)) (aln 260) then (X12_goNight_28 n a1 (h.1 a1 (23).toNatClampNeg) (h.1 260 ((3) * (h.1 a1 (23).toNatClampNeg)).toNatClampNeg) h) else none) else (X12_goNight_28 n a1 (h.1 a1 (23).toNatClampNeg) (0) h)))) else none) else none)
set_option maxRecDepth 100000 in
set_option maxHeartbeats 4000000 in
theorem s_X12_goNight {X : WX} {o : Mm} {n : Nat} {a1 : Nat} {rv : Int32} {hz : Mm} {h : Mm} (ha1 : isO false 0 a1) (hF : X12_goNight n a1 h = some (rv, hz)) : Sat X yX12_goNight cX12_goNight 6 (some .int) 3 [.ref (xa X 251), .ref (xa X a1)] false o h (some (.int rv)) hz := by
  unfold X12_goNight at hF
  refine Sat.mk (own := RX12) rfl (by decide +kernel) (Nat.le_of_ble_eq_true rfl) (fun G => ?_)
  refine V.sub (lv2 := [(0, _), (1, _)]) [0, 1] rfl ?_
  refine V.aload_n 1 dX12_goNight_0 rfl rfl ?_
  refine V.bipush (v := 23) dX12_goNight_1 (by decide) ?_
  obtain ⟨hk, hF⟩ := ck hF
  refine V.iald ha1 hk dX12_goNight_3 ?_
  refine V.istore_n [(2, _), (0, _), (1, _)] dX12_goNight_4 rfl (by decide) rfl ?_
  refine V.aload_n 1 dX12_goNight_5 rfl rfl ?_
  refine V.aload_n 2 dX12_goNight_6 rfl rfl ?_
  refine V.bipush (v := 22) dX12_goNight_7 (by decide) ?_
  obtain ⟨hk, hF⟩ := ck hF
  refine V.iald ha1 hk dX12_goNight_9 ?_
  obtain ⟨r35, hc36, hF⟩ := bp_s hF
  refine V.callVi mf_X12_isEnough ml_X12_340 sh_251 (s_X12_isEnough hc36) (by decide) rfl rfl (Nat.le_of_ble_eq_true rfl) dX12_goNight_10 ?_
  refine V.ifz_eq (tgt := 27) dX12_goNight_13 rfl (fun c => ?_) (fun c => ?_)
  · replace hF := (if_neg c).symm.trans hF
    refine V.iconst (v := 0) dX12_goNight_27 rfl ?_
    exact V.sub [1, 2, 0] rfl (v_X12_goNight_28 ha1 hF)
  · replace hF := (if_pos c).symm.trans hF
    refine V.aload_n 1 dX12_goNight_16 rfl rfl ?_
    refine V.getR (v := 260) fl_X12_49 sh_251 rfl fx_251_22 (by decide) dX12_goNight_17 ?_
    refine V.iconst (v := 3) dX12_goNight_20 rfl ?_
    refine V.iload_n 0 dX12_goNight_21 rfl rfl ?_
    refine V.imul dX12_goNight_22 ?_
    obtain ⟨hk, hF⟩ := ck hF
    refine V.iald io_260 hk dX12_goNight_23 ?_
    refine V.goto (tgt := 28) dX12_goNight_24 rfl ?_
    exact V.sub [1, 2, 0] rfl (v_X12_goNight_28 ha1 hF)
