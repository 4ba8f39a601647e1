/-! MonsterCotModel.readClause -/
theorem dX12_readClause_0 : decode cX12_readClause 0 = .ok (.aload_n 0, 1) := by decide +kernel
theorem dX12_readClause_1 : decode cX12_readClause 1 = .ok (.invokevirtual 135, 3) := by decide +kernel
theorem dX12_readClause_4 : decode cX12_readClause 4 = .ok (.istore_n 1, 1) := by decide +kernel
theorem dX12_readClause_5 : decode cX12_readClause 5 = .ok (.iload_n 1, 1) := by decide +kernel
theorem dX12_readClause_6 : decode cX12_readClause 6 = .ok (.bipush 115, 2) := by decide +kernel
theorem dX12_readClause_8 : decode cX12_readClause 8 = .ok (.if_icmp .ne 10, 3) := by decide +kernel
theorem dX12_readClause_11 : decode cX12_readClause 11 = .ok (.aload_n 0, 1) := by decide +kernel
theorem dX12_readClause_12 : decode cX12_readClause 12 = .ok (.getfield 239, 3) := by decide +kernel
theorem dX12_readClause_15 : decode cX12_readClause 15 = .ok (.ifCond .eq 33, 3) := by decide +kernel
theorem dX12_readClause_18 : decode cX12_readClause 18 = .ok (.iload_n 1, 1) := by decide +kernel
theorem dX12_readClause_19 : decode cX12_readClause 19 = .ok (.bipush 98, 2) := by decide +kernel
theorem dX12_readClause_21 : decode cX12_readClause 21 = .ok (.if_icmp .ne 12, 3) := by decide +kernel
theorem dX12_readClause_24 : decode cX12_readClause 24 = .ok (.aload_n 0, 1) := by decide +kernel
theorem dX12_readClause_25 : decode cX12_readClause 25 = .ok (.getfield 242, 3) := by decide +kernel
theorem dX12_readClause_28 : decode cX12_readClause 28 = .ok (.bipush 6, 2) := by decide +kernel
theorem dX12_readClause_30 : decode cX12_readClause 30 = .ok (.if_icmp .lt 18, 3) := by decide +kernel
theorem dX12_readClause_33 : decode cX12_readClause 33 = .ok (.iload_n 1, 1) := by decide +kernel
theorem dX12_readClause_34 : decode cX12_readClause 34 = .ok (.bipush 104, 2) := by decide +kernel
theorem dX12_readClause_36 : decode cX12_readClause 36 = .ok (.if_icmp .ne 16, 3) := by decide +kernel
theorem dX12_readClause_39 : decode cX12_readClause 39 = .ok (.aload_n 0, 1) := by decide +kernel
theorem dX12_readClause_40 : decode cX12_readClause 40 = .ok (.getfield 245, 3) := by decide +kernel
theorem dX12_readClause_43 : decode cX12_readClause 43 = .ok (.bipush 6, 2) := by decide +kernel
theorem dX12_readClause_45 : decode cX12_readClause 45 = .ok (.if_icmp .ge 7, 3) := by decide +kernel
theorem dX12_readClause_48 : decode cX12_readClause 48 = .ok (.iconst 1, 1) := by decide +kernel
theorem dX12_readClause_49 : decode cX12_readClause 49 = .ok (.goto 4, 3) := by decide +kernel
theorem dX12_readClause_52 : decode cX12_readClause 52 = .ok (.iconst 0, 1) := by decide +kernel
theorem dX12_readClause_53 : decode cX12_readClause 53 = .ok (.istore_n 2, 1) := by decide +kernel
theorem dX12_readClause_54 : decode cX12_readClause 54 = .ok (.iload_n 2, 1) := by decide +kernel
theorem dX12_readClause_55 : decode cX12_readClause 55 = .ok (.ifCond .ne 9, 3) := by decide +kernel
theorem dX12_readClause_58 : decode cX12_readClause 58 = .ok (.aload_n 0, 1) := by decide +kernel
theorem dX12_readClause_59 : decode cX12_readClause 59 = .ok (.invokevirtual 131, 3) := by decide +kernel
theorem dX12_readClause_62 : decode cX12_readClause 62 = .ok (.pop, 1) := by decide +kernel
theorem dX12_readClause_63 : decode cX12_readClause 63 = .ok (.return_, 1) := by decide +kernel
theorem dX12_readClause_64 : decode cX12_readClause 64 = .ok (.aload_n 0, 1) := by decide +kernel
theorem dX12_readClause_65 : decode cX12_readClause 65 = .ok (.dup, 1) := by decide +kernel
theorem dX12_readClause_66 : decode cX12_readClause 66 = .ok (.getfield 116, 3) := by decide +kernel
theorem dX12_readClause_69 : decode cX12_readClause 69 = .ok (.iconst 1, 1) := by decide +kernel
theorem dX12_readClause_70 : decode cX12_readClause 70 = .ok (.iadd, 1) := by decide +kernel
theorem dX12_readClause_71 : decode cX12_readClause 71 = .ok (.putfield 116, 3) := by decide +kernel
theorem dX12_readClause_74 : decode cX12_readClause 74 = .ok (.iload_n 1, 1) := by decide +kernel
theorem dX12_readClause_75 : decode cX12_readClause 75 = .ok (.bipush 115, 2) := by decide +kernel
theorem dX12_readClause_77 : decode cX12_readClause 77 = .ok (.if_icmp .ne 23, 3) := by decide +kernel
theorem dX12_readClause_80 : decode cX12_readClause 80 = .ok (.aload_n 0, 1) := by decide +kernel
theorem dX12_readClause_81 : decode cX12_readClause 81 = .ok (.iconst 1, 1) := by decide +kernel
theorem dX12_readClause_82 : decode cX12_readClause 82 = .ok (.putfield 239, 3) := by decide +kernel
theorem dX12_readClause_85 : decode cX12_readClause 85 = .ok (.aload_n 0, 1) := by decide +kernel
theorem dX12_readClause_86 : decode cX12_readClause 86 = .ok (.iload_n 1, 1) := by decide +kernel
theorem dX12_readClause_87 : decode cX12_readClause 87 = .ok (.aload_n 0, 1) := by decide +kernel
theorem dX12_readClause_88 : decode cX12_readClause 88 = .ok (.getfield 40, 3) := by decide +kernel
theorem dX12_readClause_91 : decode cX12_readClause 91 = .ok (.iconst 0, 1) := by decide +kernel
theorem dX12_readClause_92 : decode cX12_readClause 92 = .ok (.ldc 248, 2) := by decide +kernel
theorem dX12_readClause_94 : decode cX12_readClause 94 = .ok (.invokevirtual 250, 3) := by decide +kernel
theorem dX12_readClause_97 : decode cX12_readClause 97 = .ok (.goto 71, 3) := by decide +kernel
theorem dX12_readClause_100 : decode cX12_readClause 100 = .ok (.iload_n 1, 1) := by decide +kernel
theorem dX12_readClause_101 : decode cX12_readClause 101 = .ok (.bipush 98, 2) := by decide +kernel
theorem dX12_readClause_103 : decode cX12_readClause 103 = .ok (.if_icmp .ne 35, 3) := by decide +kernel
theorem dX12_readClause_106 : decode cX12_readClause 106 = .ok (.aload_n 0, 1) := by decide +kernel
theorem dX12_readClause_107 : decode cX12_readClause 107 = .ok (.dup, 1) := by decide +kernel
theorem dX12_readClause_108 : decode cX12_readClause 108 = .ok (.getfield 242, 3) := by decide +kernel
theorem dX12_readClause_111 : decode cX12_readClause 111 = .ok (.iconst 1, 1) := by decide +kernel
theorem dX12_readClause_112 : decode cX12_readClause 112 = .ok (.iadd, 1) := by decide +kernel
theorem dX12_readClause_113 : decode cX12_readClause 113 = .ok (.putfield 242, 3) := by decide +kernel
theorem dX12_readClause_116 : decode cX12_readClause 116 = .ok (.aload_n 0, 1) := by decide +kernel
theorem dX12_readClause_117 : decode cX12_readClause 117 = .ok (.iload_n 1, 1) := by decide +kernel
theorem dX12_readClause_118 : decode cX12_readClause 118 = .ok (.aload_n 0, 1) := by decide +kernel
theorem dX12_readClause_119 : decode cX12_readClause 119 = .ok (.getfield 46, 3) := by decide +kernel
theorem dX12_readClause_122 : decode cX12_readClause 122 = .ok (.iconst 3, 1) := by decide +kernel
theorem dX12_readClause_123 : decode cX12_readClause 123 = .ok (.aload_n 0, 1) := by decide +kernel
theorem dX12_readClause_124 : decode cX12_readClause 124 = .ok (.getfield 242, 3) := by decide +kernel
theorem dX12_readClause_127 : decode cX12_readClause 127 = .ok (.iconst 1, 1) := by decide +kernel
theorem dX12_readClause_128 : decode cX12_readClause 128 = .ok (.isub, 1) := by decide +kernel
theorem dX12_readClause_129 : decode cX12_readClause 129 = .ok (.imul, 1) := by decide +kernel
theorem dX12_readClause_130 : decode cX12_readClause 130 = .ok (.ldc 254, 2) := by decide +kernel
theorem dX12_readClause_132 : decode cX12_readClause 132 = .ok (.invokevirtual 250, 3) := by decide +kernel
theorem dX12_readClause_135 : decode cX12_readClause 135 = .ok (.goto 33, 3) := by decide +kernel
theorem dX12_readClause_138 : decode cX12_readClause 138 = .ok (.aload_n 0, 1) := by decide +kernel
theorem dX12_readClause_139 : decode cX12_readClause 139 = .ok (.dup, 1) := by decide +kernel
theorem dX12_readClause_140 : decode cX12_readClause 140 = .ok (.getfield 245, 3) := by decide +kernel
theorem dX12_readClause_143 : decode cX12_readClause 143 = .ok (.iconst 1, 1) := by decide +kernel
theorem dX12_readClause_144 : decode cX12_readClause 144 = .ok (.iadd, 1) := by decide +kernel
theorem dX12_readClause_145 : decode cX12_readClause 145 = .ok (.putfield 245, 3) := by decide +kernel
theorem dX12_readClause_148 : decode cX12_readClause 148 = .ok (.aload_n 0, 1) := by decide +kernel
theorem dX12_readClause_149 : decode cX12_readClause 149 = .ok (.iload_n 1, 1) := by decide +kernel
theorem dX12_readClause_150 : decode cX12_readClause 150 = .ok (.aload_n 0, 1) := by decide +kernel
theorem dX12_readClause_151 : decode cX12_readClause 151 = .ok (.getfield 52, 3) := by decide +kernel
theorem dX12_readClause_154 : decode cX12_readClause 154 = .ok (.iconst 3, 1) := by decide +kernel
theorem dX12_readClause_155 : decode cX12_readClause 155 = .ok (.aload_n 0, 1) := by decide +kernel
theorem dX12_readClause_156 : decode cX12_readClause 156 = .ok (.getfield 245, 3) := by decide +kernel
theorem dX12_readClause_159 : decode cX12_readClause 159 = .ok (.iconst 1, 1) := by decide +kernel
theorem dX12_readClause_160 : decode cX12_readClause 160 = .ok (.isub, 1) := by decide +kernel
theorem dX12_readClause_161 : decode cX12_readClause 161 = .ok (.imul, 1) := by decide +kernel
theorem dX12_readClause_162 : decode cX12_readClause 162 = .ok (.ldc_w 256, 3) := by decide +kernel
theorem dX12_readClause_165 : decode cX12_readClause 165 = .ok (.invokevirtual 250, 3) := by decide +kernel
theorem dX12_readClause_168 : decode cX12_readClause 168 = .ok (.return_, 1) := by decide +kernel
def X12_readClause_53 (n : Nat) (x1 : Int32) (s0 : Bool) (h : Mm) : Option (Unit × Mm) := (if s0 = true then (if x1 = (115 : Int32) then (bd (X12_readItems n x1 257 (0 : Int32) 1033 (wI (wI h 251 10 ((h.1 251 10) + (1 : Int32))) 251 31 (1 : Int32))) (fun _ h42 => (some ((), h42)))) else (if x1 = (98 : Int32) then (bd (X12_readItems n x1 259 ((3 : Int32) * (((wI (wI h 251 10 ((h.1 251 10) + (1 : Int32))) 251 28 (((wI h 251 10 ((h.1 251 10) + (1 : Int32))).1 251 28) + (1 : Int32))).1 251 28) - (1 : Int32))) 1034 (wI (wI h 251 10 ((h.1 251 10) + (1 : Int32))) 251 28 (((wI h 251 10 ((h.1 251 10) + (1 : Int32))).1 251 28) + (1 : Int32)))) (fun _ h39 => (some ((), h39)))) else (bd (X12_readItems n x1 261 ((3 : Int32) * (((wI (wI h 251 10 ((h.1 251 10) + (1 : Int32))) 251 29 (((wI h 251 10 ((h.1 251 10) + (1 : Int32))).1 251 29) + (1 : Int32))).1 251 29) - (1 : Int32))) 1035 (wI (wI h 251 10 ((h.1 251 10) + (1 : Int32))) 251 29 (((wI h 251 10 ((h.1 251 10) + (1 : Int32))).1 251 29) + (1 : Int32)))) (fun _ h36 => (some ((), h36)))))) else (bd (X12_fails h) (fun r43 h45 => (some ((), h45)))))
set_option maxRecDepth 100000 in
set_option maxHeartbeats 4000000 in
theorem v_X12_readClause_53 {X : WX} {G : GX} {o : Mm} {n : Nat} {rv : Unit} {hz : Mm} {x1 : Int32} {s0 : Bool} {h : Mm} (hF : X12_readClause_53 n x1 s0 h = some (rv, hz)) : V X G RX12 cX12_readClause 3 (none) 7 0 0 (QR X G false o none hz) false o 53 [(0, .ref (xa X 251)), (1, .int x1)] [.int (b2i s0)] h := by
  unfold X12_readClause_53 at hF
  refine V.istore_n [(2, _), (0, _), (1, _)] dX12_readClause_53 rfl (by decide) rfl ?_
  refine V.iload_n 0 dX12_readClause_54 rfl rfl ?_
  refine V.ifz_ne (tgt := 64) dX12_readClause_55 rfl (fun c => ?_) (fun c => ?_)
  · replace hF := ip c hF
    refine V.aload_n 1 dX12_readClause_64 rfl rfl ?_
    refine V.dup dX12_readClause_65 rfl ?_
    refine V.getI fl_X12_116 sh_251 rfl km_251 dX12_readClause_66 ?_
    refine V.iconst (v := 1) dX12_readClause_69 rfl ?_
    refine V.iadd dX12_readClause_70 ?_
    refine V.putI fl_X12_116 rfl (tyX12_ok 10 (by decide)) rfl rfl sh_251 rfl km_251 dX12_readClause_71 ?_
    refine V.iload_n 2 dX12_readClause_74 rfl rfl ?_
    refine V.bipush (v := 115) dX12_readClause_75 (by decide) ?_
    refine V.icmp_ne (tgt := 100) dX12_readClause_77 rfl (fun c => ?_) (fun c => ?_)
    · replace hF := iq c hF
      refine V.iload_n 2 dX12_readClause_100 rfl rfl ?_
      refine V.bipush (v := 98) dX12_readClause_101 (by decide) ?_
      refine V.icmp_ne (tgt := 138) dX12_readClause_103 rfl (fun c => ?_) (fun c => ?_)
      · replace hF := iq c hF
        refine V.aload_n 1 dX12_readClause_138 rfl rfl ?_
        refine V.dup dX12_readClause_139 rfl ?_
        refine V.getI fl_X12_245 sh_251 rfl km_251 dX12_readClause_140 ?_
        refine V.iconst (v := 1) dX12_readClause_143 rfl ?_
        refine V.iadd dX12_readClause_144 ?_
        refine V.putI fl_X12_245 rfl (tyX12_ok 29 (by decide)) rfl rfl sh_251 rfl km_251 dX12_readClause_145 ?_
        refine V.aload_n 1 dX12_readClause_148 rfl rfl ?_
        refine V.iload_n 2 dX12_readClause_149 rfl rfl ?_
        refine V.aload_n 1 dX12_readClause_150 rfl rfl ?_
        refine V.getR (v := 261) fl_X12_52 sh_251 rfl fx_251_23 (by decide) dX12_readClause_151 ?_
        refine V.iconst (v := 3) dX12_readClause_154 rfl ?_
        refine V.aload_n 1 dX12_readClause_155 rfl rfl ?_
        refine V.getI fl_X12_245 sh_251 rfl km_251 dX12_readClause_156 ?_
        refine V.iconst (v := 1) dX12_readClause_159 rfl ?_
        refine V.isub dX12_readClause_160 ?_
        refine V.imul dX12_readClause_161 ?_
        refine V.ldcSw sc_1035 rfl rfl dX12_readClause_162 ?_
        obtain ⟨r34, h36, hc35, hF⟩ := bd_s hF
        refine V.callVv mf_X12_readItems ml_X12_250 sh_251 (s_X12_readItems io_261 ⟨by decide, by decide⟩ hc35) (by decide) rfl rfl (Nat.le_of_ble_eq_true rfl) dX12_readClause_165 ?_
        cases hF
        exact V.vret dX12_readClause_168
      · replace hF := ip c hF
        refine V.aload_n 1 dX12_readClause_106 rfl rfl ?_
        refine V.dup dX12_readClause_107 rfl ?_
        refine V.getI fl_X12_242 sh_251 rfl km_251 dX12_readClause_108 ?_
        refine V.iconst (v := 1) dX12_readClause_111 rfl ?_
        refine V.iadd dX12_readClause_112 ?_
        refine V.putI fl_X12_242 rfl (tyX12_ok 28 (by decide)) rfl rfl sh_251 rfl km_251 dX12_readClause_113 ?_
        refine V.aload_n 1 dX12_readClause_116 rfl rfl ?_
        refine V.iload_n 2 dX12_readClause_117 rfl rfl ?_
        refine V.aload_n 1 dX12_readClause_118 rfl rfl ?_
        refine V.getR (v := 259) fl_X12_46 sh_251 rfl fx_251_21 (by decide) dX12_readClause_119 ?_
        refine V.iconst (v := 3) dX12_readClause_122 rfl ?_
        refine V.aload_n 1 dX12_readClause_123 rfl rfl ?_
        refine V.getI fl_X12_242 sh_251 rfl km_251 dX12_readClause_124 ?_
        refine V.iconst (v := 1) dX12_readClause_127 rfl ?_
        refine V.isub dX12_readClause_128 ?_
        refine V.imul dX12_readClause_129 ?_
        refine V.ldcS sc_1034 rfl rfl dX12_readClause_130 ?_
        obtain ⟨r37, h39, hc38, hF⟩ := bd_s hF
        refine V.callVv mf_X12_readItems ml_X12_250 sh_251 (s_X12_readItems io_259 ⟨by decide, by decide⟩ hc38) (by decide) rfl rfl (Nat.le_of_ble_eq_true rfl) dX12_readClause_132 ?_
        refine V.goto (tgt := 168) dX12_readClause_135 rfl ?_
        cases hF
        exact V.vret dX12_readClause_168
    · replace hF := ip c hF
      refine V.aload_n 1 dX12_readClause_80 rfl rfl ?_
      refine V.iconst (v := 1) dX12_readClause_81 rfl ?_
      refine V.putI fl_X12_239 rfl (tyX12_ok 31 (by decide)) rfl rfl sh_251 rfl km_251 dX12_readClause_82 ?_
      refine V.aload_n 1 dX12_readClause_85 rfl rfl ?_
      refine V.iload_n 2 dX12_readClause_86 rfl rfl ?_
      refine V.aload_n 1 dX12_readClause_87 rfl rfl ?_
      refine V.getR (v := 257) fl_X12_40 sh_251 rfl fx_251_19 (by decide) dX12_readClause_88 ?_
      refine V.iconst (v := 0) dX12_readClause_91 rfl ?_
      refine V.ldcS sc_1033 rfl rfl dX12_readClause_92 ?_
      obtain ⟨r40, h42, hc41, hF⟩ := bd_s hF
      refine V.callVv mf_X12_readItems ml_X12_250 sh_251 (s_X12_readItems io_257 ⟨by decide, by decide⟩ hc41) (by decide) rfl rfl (Nat.le_of_ble_eq_true rfl) dX12_readClause_94 ?_
      refine V.goto (tgt := 168) dX12_readClause_97 rfl ?_
      cases hF
      exact V.vret dX12_readClause_168
  · replace hF := iq c hF
    refine V.aload_n 1 dX12_readClause_58 rfl rfl ?_
    obtain ⟨r43, h45, hc44, hF⟩ := bd_s hF
    refine V.callVi mf_X12_fails ml_X12_131 sh_251 (s_X12_fails hc44) (by decide) rfl rfl (Nat.le_of_ble_eq_true rfl) dX12_readClause_59 ?_
    refine V.pop dX12_readClause_62 rfl ?_
    cases hF
    exact V.vret dX12_readClause_63
def X12_readClause_48 (n : Nat) (x1 : Int32) (h : Mm) : Option (Unit × Mm) := (X12_readClause_53 n x1 true h)
set_option maxRecDepth 100000 in
set_option maxHeartbeats 4000000 in
theorem v_X12_readClause_48 {X : WX} {G : GX} {o : Mm} {n : Nat} {rv : Unit} {hz : Mm} {x1 : Int32} {h : Mm} (hF : X12_readClause_48 n x1 h = some (rv, hz)) : V X G RX12 cX12_readClause 3 (none) 7 0 0 (QR X G false o none hz) false o 48 [(0, .ref (xa X 251)), (1, .int x1)] [] h := by
  unfold X12_readClause_48 at hF
  refine V.iconst (v := 1) dX12_readClause_48 rfl ?_
  refine V.goto (tgt := 53) dX12_readClause_49 rfl ?_
  exact (v_X12_readClause_53 hF)
def X12_readClause_52 (n : Nat) (x1 : Int32) (h : Mm) : Option (Unit × Mm) := (X12_readClause_53 n x1 false h)
set_option maxRecDepth 100000 in
set_option maxHeartbeats 4000000 in
theorem v_X12_readClause_52 {X : WX} {G : GX} {o : Mm} {n : Nat} {rv : Unit} {hz : Mm} {x1 : Int32} {h : Mm} (hF : X12_readClause_52 n x1 h = some (rv, hz)) : V X G RX12 cX12_readClause 3 (none) 7 0 0 (QR X G false o none hz) false o 52 [(0, .ref (xa X 251)), (1, .int x1)] [] h := by
  unfold X12_readClause_52 at hF
  refine V.iconst (v := 0) dX12_readClause_52 rfl ?_
  exact (v_X12_readClause_53 hF)
def X12_readClause_33 (n : Nat) (x1 : Int32) (h : Mm) : Option (Unit × Mm) := (if x1 = (104 : Int32) then (if (6 : Int32) ≤ (h.1 251 29) then (X12_readClause_52 n x1 h) else (X12_readClause_48 n x1 h)) else (X12_readClause_52 n x1 h))
set_option maxRecDepth 100000 in
set_option maxHeartbeats 4000000 in
theorem v_X12_readClause_33 {X : WX} {G : GX} {o : Mm} {n : Nat} {rv : Unit} {hz : Mm} {x1 : Int32} {h : Mm} (hF : X12_readClause_33 n x1 h = some (rv, hz)) : V X G RX12 cX12_readClause 3 (none) 7 0 0 (QR X G false o none hz) false o 33 [(0, .ref (xa X 251)), (1, .int x1)] [] h := by
  unfold X12_readClause_33 at hF
  refine V.iload_n 1 dX12_readClause_33 rfl rfl ?_
  refine V.bipush (v := 104) dX12_readClause_34 (by decide) ?_
  refine V.icmp_ne (tgt := 52) dX12_readClause_36 rfl (fun c => ?_) (fun c => ?_)
  · replace hF := iq c hF
    exact (v_X12_readClause_52 hF)
  · replace hF := ip c hF
    refine V.aload_n 0 dX12_readClause_39 rfl rfl ?_
    refine V.getI fl_X12_245 sh_251 rfl km_251 dX12_readClause_40 ?_
    refine V.bipush (v := 6) dX12_readClause_43 (by decide) ?_
    refine V.icmp_ge (tgt := 52) dX12_readClause_45 rfl (fun c => ?_) (fun c => ?_)
    · replace hF := ip c hF
      exact (v_X12_readClause_52 hF)
    · replace hF := iq c hF
      exact (v_X12_readClause_48 hF)
def X12_readClause_18 (n : Nat) (x1 : Int32) (h : Mm) : Option (Unit × Mm) := (if x1 = (98 : Int32) then (if (h.1 251 28) < (6 : Int32) then (X12_readClause_48 n x1 h) else (X12_readClause_33 n x1 h)) else (X12_readClause_33 n x1 h))
set_option maxRecDepth 100000 in
set_option maxHeartbeats 4000000 in
theorem v_X12_readClause_18 {X : WX} {G : GX} {o : Mm} {n : Nat} {rv : Unit} {hz : Mm} {x1 : Int32} {h : Mm} (hF : X12_readClause_18 n x1 h = some (rv, hz)) : V X G RX12 cX12_readClause 3 (none) 7 0 0 (QR X G false o none hz) false o 18 [(0, .ref (xa X 251)), (1, .int x1)] [] h := by
  unfold X12_readClause_18 at hF
  refine V.iload_n 1 dX12_readClause_18 rfl rfl ?_
  refine V.bipush (v := 98) dX12_readClause_19 (by decide) ?_
  refine V.icmp_ne (tgt := 33) dX12_readClause_21 rfl (fun c => ?_) (fun c => ?_)
  · replace hF := iq c hF
    exact (v_X12_readClause_33 hF)
  · replace hF := ip c hF
    refine V.aload_n 0 dX12_readClause_24 rfl rfl ?_
    refine V.getI fl_X12_242 sh_251 rfl km_251 dX12_readClause_25 ?_
    refine V.bipush (v := 6) dX12_readClause_28 (by decide) ?_
    refine V.icmp_lt (tgt := 48) dX12_readClause_30 rfl (fun c => ?_) (fun c => ?_)
    · replace hF := ip c hF
      exact (v_X12_readClause_48 hF)
    · replace hF := iq c hF
      exact (v_X12_readClause_33 hF)
def X12_readClause (n : Nat) (h : Mm) : Option (Unit × Mm) := (bd (X12_look n h) (fun r46 h48 => (if r46 = (115 : Int32) then (if (h48.1 251 31) = 0 then (X12_readClause_48 n r46 h48) else (X12_readClause_18 n r46 h48)) else (X12_readClause_18 n r46 h48))))
set_option maxRecDepth 100000 in
set_option maxHeartbeats 4000000 in
theorem s_X12_readClause {X : WX} {o : Mm} {n : Nat} {rv : Unit} {hz : Mm} {h : Mm} (hF : X12_readClause n h = some (rv, hz)) : Sat X yX12_readClause cX12_readClause 3 (none) 7 [.ref (xa X 251)] false o h none hz := by
  unfold X12_readClause at hF
  refine Sat.mk (own := RX12) rfl (by decide +kernel) (Nat.le_of_ble_eq_true rfl) (fun G => ?_)
  refine V.sub (lv2 := [(0, _)]) [0] rfl ?_
  refine V.aload_n 0 dX12_readClause_0 rfl rfl ?_
  obtain ⟨r46, h48, hc47, hF⟩ := bd_s hF
  refine V.callVi mf_X12_look ml_X12_135 sh_251 (s_X12_look hc47) (by decide) rfl rfl (Nat.le_of_ble_eq_true rfl) dX12_readClause_1 ?_
  refine V.istore_n [(1, _), (0, _)] dX12_readClause_4 rfl (by decide) rfl ?_
  refine V.iload_n 0 dX12_readClause_5 rfl rfl ?_
  refine V.bipush (v := 115) dX12_readClause_6 (by decide) ?_
  refine V.icmp_ne (tgt := 18) dX12_readClause_8 rfl (fun c => ?_) (fun c => ?_)
  · replace hF := iq c hF
    exact V.sub [1, 0] rfl (v_X12_readClause_18 hF)
  · replace hF := ip c hF
    refine V.aload_n 1 dX12_readClause_11 rfl rfl ?_
    refine V.getI fl_X12_239 sh_251 rfl km_251 dX12_readClause_12 ?_
    refine V.if_eq (tgt := 48) dX12_readClause_15 rfl (fun c => ?_) (fun c => ?_)
    · replace hF := ip c hF
      exact V.sub [1, 0] rfl (v_X12_readClause_48 hF)
    · replace hF := iq c hF
      exact V.sub [1, 0] rfl (v_X12_readClause_18 hF)
/-! MonsterCotModel.readLanding -/
theorem dX12_readLanding_0 : decode cX12_readLanding 0 = .ok (.aload_n 0, 1) := by decide +kernel
theorem dX12_readLanding_1 : decode cX12_readLanding 1 = .ok (.aload_n 0, 1) := by decide +kernel
theorem dX12_readLanding_2 : decode cX12_readLanding 2 = .ok (.getfield 9, 3) := by decide +kernel
theorem dX12_readLanding_5 : decode cX12_readLanding 5 = .ok (.iconst 0, 1) := by decide +kernel
theorem dX12_readLanding_6 : decode cX12_readLanding 6 = .ok (.aload_n 0, 1) := by decide +kernel
theorem dX12_readLanding_7 : decode cX12_readLanding 7 = .ok (.getfield 106, 3) := by decide +kernel
theorem dX12_readLanding_10 : decode cX12_readLanding 10 = .ok (.invokevirtual 204, 3) := by decide +kernel
theorem dX12_readLanding_13 : decode cX12_readLanding 13 = .ok (.aload_n 0, 1) := by decide +kernel
theorem dX12_readLanding_14 : decode cX12_readLanding 14 = .ok (.iconst 0, 1) := by decide +kernel
theorem dX12_readLanding_15 : decode cX12_readLanding 15 = .ok (.putfield 242, 3) := by decide +kernel
theorem dX12_readLanding_18 : decode cX12_readLanding 18 = .ok (.aload_n 0, 1) := by decide +kernel
theorem dX12_readLanding_19 : decode cX12_readLanding 19 = .ok (.iconst 0, 1) := by decide +kernel
theorem dX12_readLanding_20 : decode cX12_readLanding 20 = .ok (.putfield 245, 3) := by decide +kernel
theorem dX12_readLanding_23 : decode cX12_readLanding 23 = .ok (.aload_n 0, 1) := by decide +kernel
theorem dX12_readLanding_24 : decode cX12_readLanding 24 = .ok (.iconst 0, 1) := by decide +kernel
theorem dX12_readLanding_25 : decode cX12_readLanding 25 = .ok (.putfield 239, 3) := by decide +kernel
theorem dX12_readLanding_28 : decode cX12_readLanding 28 = .ok (.iconst 0, 1) := by decide +kernel
theorem dX12_readLanding_29 : decode cX12_readLanding 29 = .ok (.istore_n 1, 1) := by decide +kernel
theorem dX12_readLanding_30 : decode cX12_readLanding 30 = .ok (.iload_n 1, 1) := by decide +kernel
theorem dX12_readLanding_31 : decode cX12_readLanding 31 = .ok (.iconst 3, 1) := by decide +kernel
theorem dX12_readLanding_32 : decode cX12_readLanding 32 = .ok (.if_icmp .ge 21, 3) := by decide +kernel
theorem dX12_readLanding_35 : decode cX12_readLanding 35 = .ok (.aload_n 0, 1) := by decide +kernel
theorem dX12_readLanding_36 : decode cX12_readLanding 36 = .ok (.getfield 40, 3) := by decide +kernel
theorem dX12_readLanding_39 : decode cX12_readLanding 39 = .ok (.iload_n 1, 1) := by decide +kernel
theorem dX12_readLanding_40 : decode cX12_readLanding 40 = .ok (.bipush 115, 2) := by decide +kernel
theorem dX12_readLanding_42 : decode cX12_readLanding 42 = .ok (.iload_n 1, 1) := by decide +kernel
theorem dX12_readLanding_43 : decode cX12_readLanding 43 = .ok (.invokestatic 218, 3) := by decide +kernel
theorem dX12_readLanding_46 : decode cX12_readLanding 46 = .ok (.iastore, 1) := by decide +kernel
theorem dX12_readLanding_47 : decode cX12_readLanding 47 = .ok (.iinc 1 1, 3) := by decide +kernel
theorem dX12_readLanding_50 : decode cX12_readLanding 50 = .ok (.goto (-20), 3) := by decide +kernel
theorem dX12_readLanding_53 : decode cX12_readLanding 53 = .ok (.iconst 1, 1) := by decide +kernel
theorem dX12_readLanding_54 : decode cX12_readLanding 54 = .ok (.istore_n 1, 1) := by decide +kernel
theorem dX12_readLanding_55 : decode cX12_readLanding 55 = .ok (.iload_n 1, 1) := by decide +kernel
theorem dX12_readLanding_56 : decode cX12_readLanding 56 = .ok (.ifCond .eq 55, 3) := by decide +kernel
theorem dX12_readLanding_59 : decode cX12_readLanding 59 = .ok (.aload_n 0, 1) := by decide +kernel
theorem dX12_readLanding_60 : decode cX12_readLanding 60 = .ok (.getfield 125, 3) := by decide +kernel
theorem dX12_readLanding_63 : decode cX12_readLanding 63 = .ok (.iconst (-1), 1) := by decide +kernel
theorem dX12_readLanding_64 : decode cX12_readLanding 64 = .ok (.if_icmp .ne 47, 3) := by decide +kernel
theorem dX12_readLanding_67 : decode cX12_readLanding 67 = .ok (.aload_n 0, 1) := by decide +kernel
theorem dX12_readLanding_68 : decode cX12_readLanding 68 = .ok (.invokevirtual 258, 3) := by decide +kernel
theorem dX12_readLanding_71 : decode cX12_readLanding 71 = .ok (.aload_n 0, 1) := by decide +kernel
theorem dX12_readLanding_72 : decode cX12_readLanding 72 = .ok (.getfield 125, 3) := by decide +kernel
theorem dX12_readLanding_75 : decode cX12_readLanding 75 = .ok (.iconst (-1), 1) := by decide +kernel
theorem dX12_readLanding_76 : decode cX12_readLanding 76 = .ok (.if_icmp .ne 16, 3) := by decide +kernel
theorem dX12_readLanding_79 : decode cX12_readLanding 79 = .ok (.aload_n 0, 1) := by decide +kernel
theorem dX12_readLanding_80 : decode cX12_readLanding 80 = .ok (.invokevirtual 135, 3) := by decide +kernel
theorem dX12_readLanding_83 : decode cX12_readLanding 83 = .ok (.bipush 59, 2) := by decide +kernel
theorem dX12_readLanding_85 : decode cX12_readLanding 85 = .ok (.if_icmp .ne 7, 3) := by decide +kernel
theorem dX12_readLanding_88 : decode cX12_readLanding 88 = .ok (.iconst 1, 1) := by decide +kernel
theorem dX12_readLanding_89 : decode cX12_readLanding 89 = .ok (.goto 4, 3) := by decide +kernel
theorem dX12_readLanding_92 : decode cX12_readLanding 92 = .ok (.iconst 0, 1) := by decide +kernel
theorem dX12_readLanding_93 : decode cX12_readLanding 93 = .ok (.istore_n 1, 1) := by decide +kernel
theorem dX12_readLanding_94 : decode cX12_readLanding 94 = .ok (.iload_n 1, 1) := by decide +kernel
theorem dX12_readLanding_95 : decode cX12_readLanding 95 = .ok (.ifCond .eq (-40), 3) := by decide +kernel
theorem dX12_readLanding_98 : decode cX12_readLanding 98 = .ok (.aload_n 0, 1) := by decide +kernel
theorem dX12_readLanding_99 : decode cX12_readLanding 99 = .ok (.dup, 1) := by decide +kernel
theorem dX12_readLanding_100 : decode cX12_readLanding 100 = .ok (.getfield 116, 3) := by decide +kernel
theorem dX12_readLanding_103 : decode cX12_readLanding 103 = .ok (.iconst 1, 1) := by decide +kernel
theorem dX12_readLanding_104 : decode cX12_readLanding 104 = .ok (.iadd, 1) := by decide +kernel
theorem dX12_readLanding_105 : decode cX12_readLanding 105 = .ok (.putfield 116, 3) := by decide +kernel
theorem dX12_readLanding_108 : decode cX12_readLanding 108 = .ok (.goto (-53), 3) := by decide +kernel
theorem dX12_readLanding_111 : decode cX12_readLanding 111 = .ok (.aload_n 0, 1) := by decide +kernel
theorem dX12_readLanding_112 : decode cX12_readLanding 112 = .ok (.getfield 125, 3) := by decide +kernel
theorem dX12_readLanding_115 : decode cX12_readLanding 115 = .ok (.iconst (-1), 1) := by decide +kernel
theorem dX12_readLanding_116 : decode cX12_readLanding 116 = .ok (.if_icmp .ne 30, 3) := by decide +kernel
theorem dX12_readLanding_119 : decode cX12_readLanding 119 = .ok (.aload_n 0, 1) := by decide +kernel
theorem dX12_readLanding_120 : decode cX12_readLanding 120 = .ok (.invokevirtual 135, 3) := by decide +kernel
theorem dX12_readLanding_123 : decode cX12_readLanding 123 = .ok (.iconst (-1), 1) := by decide +kernel
theorem dX12_readLanding_124 : decode cX12_readLanding 124 = .ok (.if_icmp .ne 17, 3) := by decide +kernel
theorem dX12_readLanding_127 : decode cX12_readLanding 127 = .ok (.aload_n 0, 1) := by decide +kernel
theorem dX12_readLanding_128 : decode cX12_readLanding 128 = .ok (.getfield 242, 3) := by decide +kernel
theorem dX12_readLanding_131 : decode cX12_readLanding 131 = .ok (.ifCond .eq 10, 3) := by decide +kernel
theorem dX12_readLanding_134 : decode cX12_readLanding 134 = .ok (.aload_n 0, 1) := by decide +kernel
theorem dX12_readLanding_135 : decode cX12_readLanding 135 = .ok (.getfield 245, 3) := by decide +kernel
theorem dX12_readLanding_138 : decode cX12_readLanding 138 = .ok (.ifCond .ne 8, 3) := by decide +kernel
theorem dX12_readLanding_141 : decode cX12_readLanding 141 = .ok (.aload_n 0, 1) := by decide +kernel
theorem dX12_readLanding_142 : decode cX12_readLanding 142 = .ok (.invokevirtual 131, 3) := by decide +kernel
theorem dX12_readLanding_145 : decode cX12_readLanding 145 = .ok (.pop, 1) := by decide +kernel
theorem dX12_readLanding_146 : decode cX12_readLanding 146 = .ok (.return_, 1) := by decide +kernel
def X12_readLanding_93 (n : Nat) (K55 : Bool → Mm → Option (Unit × Mm)) (s0 : Bool) (h : Mm) : Option (Unit × Mm) := (if s0 = true then (K55 s0 (wI h 251 10 ((h.1 251 10) + (1 : Int32)))) else (K55 s0 h))
set_option maxRecDepth 100000 in
set_option maxHeartbeats 4000000 in
theorem v_X12_readLanding_93 {X : WX} {G : GX} {o : Mm} {n : Nat} {K55 : Bool → Mm → Option (Unit × Mm)} {rv : Unit} {hz : Mm} (hK55 : ∀ (x1 : Bool) (h : Mm), K55 x1 h = some (rv, hz) → V X G RX12 cX12_readLanding 2 (none) 8 0 0 (QR X G false o none hz) false o 55 [(0, .ref (xa X 251)), (1, .int (b2i x1))] [] h) {s0 : Bool} {h : Mm} (hF : X12_readLanding_93 n K55 s0 h = some (rv, hz)) : V X G RX12 cX12_readLanding 2 (none) 8 0 0 (QR X G false o none hz) false o 93 [(0, .ref (xa X 251))] [.int (b2i s0)] h := by
  unfold X12_readLanding_93 at hF
  refine V.istore_n [(1, _), (0, _)] dX12_readLanding_93 rfl (by decide) rfl ?_
  refine V.iload_n 0 dX12_readLanding_94 rfl rfl ?_
  refine V.ifz_eq (tgt := 55) dX12_readLanding_95 rfl (fun c => ?_) (fun c => ?_)
  · replace hF := iq c hF
    exact V.sub [1, 0] rfl (hK55 _ _ hF)
  · replace hF := ip c hF
    refine V.aload_n 1 dX12_readLanding_98 rfl rfl ?_
    refine V.dup dX12_readLanding_99 rfl ?_
    refine V.getI fl_X12_116 sh_251 rfl km_251 dX12_readLanding_100 ?_
    refine V.iconst (v := 1) dX12_readLanding_103 rfl ?_
    refine V.iadd dX12_readLanding_104 ?_
    refine V.putI fl_X12_116 rfl (tyX12_ok 10 (by decide)) rfl rfl sh_251 rfl km_251 dX12_readLanding_105 ?_
    refine V.goto (tgt := 55) dX12_readLanding_108 rfl ?_
    exact V.sub [1, 0] rfl (hK55 _ _ hF)
def X12_readLanding_92 (n : Nat) (K55 : Bool → Mm → Option (Unit × Mm)) (h : Mm) : Option (Unit × Mm) := (X12_readLanding_93 n K55 false h)
set_option maxRecDepth 100000 in
set_option maxHeartbeats 4000000 in
theorem v_X12_readLanding_92 {X : WX} {G : GX} {o : Mm} {n : Nat} {K55 : Bool → Mm → Option (Unit × Mm)} {rv : Unit} {hz : Mm} (hK55 : ∀ (x1 : Bool) (h : Mm), K55 x1 h = some (rv, hz) → V X G RX12 cX12_readLanding 2 (none) 8 0 0 (QR X G false o none hz) false o 55 [(0, .ref (xa X 251)), (1, .int (b2i x1))] [] h) {h : Mm} (hF : X12_readLanding_92 n K55 h = some (rv, hz)) : V X G RX12 cX12_readLanding 2 (none) 8 0 0 (QR X G false o none hz) false o 92 [(0, .ref (xa X 251))] [] h := by
  unfold X12_readLanding_92 at hF
  refine V.iconst (v := 0) dX12_readLanding_92 rfl ?_
  exact (v_X12_readLanding_93 hK55 hF)
def X12_readLanding_141 (n : Nat) (h : Mm) : Option (Unit × Mm) := (bd (X12_fails h) (fun r48 h50 => (some ((), h50))))
set_option maxRecDepth 100000 in
set_option maxHeartbeats 4000000 in
theorem v_X12_readLanding_141 {X : WX} {G : GX} {o : Mm} {n : Nat} {rv : Unit} {hz : Mm} {h : Mm} (hF : X12_readLanding_141 n h = some (rv, hz)) : V X G RX12 cX12_readLanding 2 (none) 8 0 0 (QR X G false o none hz) false o 141 [(0, .ref (xa X 251))] [] h := by
  unfold X12_readLanding_141 at hF
  refine V.aload_n 0 dX12_readLanding_141 rfl rfl ?_
  obtain ⟨r48, h50, hc49, hF⟩ := bd_s hF
  refine V.callVi mf_X12_fails ml_X12_131 sh_251 (s_X12_fails hc49) (by decide) rfl rfl (Nat.le_of_ble_eq_true rfl) dX12_readLanding_142 ?_
  refine V.pop dX12_readLanding_145 rfl ?_
  cases hF
  exact V.vret dX12_readLanding_146
def X12_readLanding_111 (n : Nat) (h : Mm) : Option (Unit × Mm) := (if (h.1 251 11) = (-1 : Int32) then (bd (X12_look n h) (fun r51 h53 => (if r51 = (-1 : Int32) then (if (h53.1 251 28) = 0 then (X12_readLanding_141 n h53) else (if (h53.1 251 29) = 0 then (X12_readLanding_141 n h53) else (some ((), h53)))) else (X12_readLanding_141 n h53)))) else (some ((), h)))
set_option maxRecDepth 100000 in
set_option maxHeartbeats 4000000 in
theorem v_X12_readLanding_111 {X : WX} {G : GX} {o : Mm} {n : Nat} {rv : Unit} {hz : Mm} {h : Mm} (hF : X12_readLanding_111 n h = some (rv, hz)) : V X G RX12 cX12_readLanding 2 (none) 8 0 0 (QR X G false o none hz) false o 111 [(0, .ref (xa X 251))] [] h := by
  unfold X12_readLanding_111 at hF
  refine V.aload_n 0 dX12_readLanding_111 rfl rfl ?_
  refine V.getI fl_X12_125 sh_251 rfl km_251 dX12_readLanding_112 ?_
  refine V.iconst (v := -1) dX12_readLanding_115 rfl ?_
  refine V.icmp_ne (tgt := 146) dX12_readLanding_116 rfl (fun c => ?_) (fun c => ?_)
  · replace hF := iq c hF
    cases hF
    exact V.vret dX12_readLanding_146
  · replace hF := ip c hF
    refine V.aload_n 0 dX12_readLanding_119 rfl rfl ?_
    obtain ⟨r51, h53, hc52, hF⟩ := bd_s hF
    refine V.callVi mf_X12_look ml_X12_135 sh_251 (s_X12_look hc52) (by decide) rfl rfl (Nat.le_of_ble_eq_true rfl) dX12_readLanding_120 ?_
    refine V.iconst (v := -1) dX12_readLanding_123 rfl ?_
    refine V.icmp_ne (tgt := 141) dX12_readLanding_124 rfl (fun c => ?_) (fun c => ?_)
    · replace hF := iq c hF
      exact (v_X12_readLanding_141 hF)
    · replace hF := ip c hF
      refine V.aload_n 0 dX12_readLanding_127 rfl rfl ?_
      refine V.getI fl_X12_242 sh_251 rfl km_251 dX12_readLanding_128 ?_
      refine V.if_eq (tgt := 141) dX12_readLanding_131 rfl (fun c => ?_) (fun c => ?_)
      · replace hF := ip c hF
        exact (v_X12_readLanding_141 hF)
      · replace hF := iq c hF
        refine V.aload_n 0 dX12_readLanding_134 rfl rfl ?_
        refine V.getI fl_X12_245 sh_251 rfl km_251 dX12_readLanding_135 ?_
        refine V.if_ne (tgt := 146) dX12_readLanding_138 rfl (fun c => ?_) (fun c => ?_)
        · replace hF := iq c hF
          cases hF
          exact V.vret dX12_readLanding_146
        · replace hF := ip c hF
          exact (v_X12_readLanding_141 hF)
def X12_readLanding_55 (n : Nat) : Nat → Bool → Mm → Option (Unit × Mm)
  | 0, _, _ => none
  | f + 1, x1, h => (if x1 = true then (if (h.1 251 11) = (-1 : Int32) then (bd (X12_readClause n h) (fun _ h56 => (if (h56.1 251 11) = (-1 : Int32) then (bd (X12_look n h56) (fun r57 h59 => (if r57 = (59 : Int32) then (X12_readLanding_93 n (X12_readLanding_55 n f) true h59) else (X12_readLanding_92 n (X12_readLanding_55 n f) h59)))) else (X12_readLanding_92 n (X12_readLanding_55 n f) h56)))) else (X12_readLanding_111 n h)) else (X12_readLanding_111 n h))
set_option maxRecDepth 100000 in
set_option maxHeartbeats 4000000 in
theorem v_X12_readLanding_55 {X : WX} {G : GX} {o : Mm} {n : Nat} {rv : Unit} {hz : Mm} : ∀ (f : Nat) (x1 : Bool) (h : Mm), X12_readLanding_55 n f x1 h = some (rv, hz) → V X G RX12 cX12_readLanding 2 (none) 8 0 0 (QR X G false o none hz) false o 55 [(0, .ref (xa X 251)), (1, .int (b2i x1))] [] h := by
  intro f
  induction f with
  | zero => intro x1 h hF; exact nomatch (show (none : Option (Unit × Mm)) = some (rv, hz) from hF)
  | succ f ih =>
    intro x1 h hF
    unfold X12_readLanding_55 at hF
    refine V.iload_n 1 dX12_readLanding_55 rfl rfl ?_
    refine V.ifz_eq (tgt := 111) dX12_readLanding_56 rfl (fun c => ?_) (fun c => ?_)
    · replace hF := iq c hF
      exact V.sub [0] rfl (v_X12_readLanding_111 hF)
    · replace hF := ip c hF
      refine V.aload_n 0 dX12_readLanding_59 rfl rfl ?_
      refine V.getI fl_X12_125 sh_251 rfl km_251 dX12_readLanding_60 ?_
      refine V.iconst (v := -1) dX12_readLanding_63 rfl ?_
      refine V.icmp_ne (tgt := 111) dX12_readLanding_64 rfl (fun c => ?_) (fun c => ?_)
      · replace hF := iq c hF
        exact V.sub [0] rfl (v_X12_readLanding_111 hF)
      · replace hF := ip c hF
        refine V.aload_n 0 dX12_readLanding_67 rfl rfl ?_
        obtain ⟨r54, h56, hc55, hF⟩ := bd_s hF
        refine V.callVv mf_X12_readClause ml_X12_258 sh_251 (s_X12_readClause hc55) (by decide) rfl rfl (Nat.le_of_ble_eq_true rfl) dX12_readLanding_68 ?_
        refine V.aload_n 0 dX12_readLanding_71 rfl rfl ?_
        refine V.getI fl_X12_125 sh_251 rfl km_251 dX12_readLanding_72 ?_
        refine V.iconst (v := -1) dX12_readLanding_75 rfl ?_
        refine V.icmp_ne (tgt := 92) dX12_readLanding_76 rfl (fun c => ?_) (fun c => ?_)
        · replace hF := iq c hF
          exact V.sub [0] rfl (v_X12_readLanding_92 ih hF)
        · replace hF := ip c hF
          refine V.aload_n 0 dX12_readLanding_79 rfl rfl ?_
          obtain ⟨r57, h59, hc58, hF⟩ := bd_s hF
          refine V.callVi mf_X12_look ml_X12_135 sh_251 (s_X12_look hc58) (by decide) rfl rfl (Nat.le_of_ble_eq_true rfl) dX12_readLanding_80 ?_
          refine V.bipush (v := 59) dX12_readLanding_83 (by decide) ?_
          refine V.icmp_ne (tgt := 92) dX12_readLanding_85 rfl (fun c => ?_) (fun c => ?_)
          · replace hF := iq c hF
            exact V.sub [0] rfl (v_X12_readLanding_92 ih hF)
          · replace hF := ip c hF
            refine V.iconst (v := 1) dX12_readLanding_88 rfl ?_
            refine V.goto (tgt := 93) dX12_readLanding_89 rfl ?_
            exact V.sub [0] rfl (v_X12_readLanding_93 ih hF)
def X12_readLanding_30 (n : Nat) : Nat → Int32 → Mm → Option (Unit × Mm)
  | 0, _, _ => none
  | f + 1, x1, h => (if (3 : Int32) ≤ x1 then (X12_readLanding_55 n n true h) else (bp (X12_usual (115 : Int32) x1 h) (fun r60 => (if inB x1 (aln 257) then ((X12_readLanding_30 n f) (x1 + (1)) (wI h 257 x1.toNatClampNeg r60)) else none))))
set_option maxRecDepth 100000 in
set_option maxHeartbeats 4000000 in
theorem v_X12_readLanding_30 {X : WX} {G : GX} {o : Mm} {n : Nat} {rv : Unit} {hz : Mm} : ∀ (f : Nat) (x1 : Int32) (h : Mm), X12_readLanding_30 n f x1 h = some (rv, hz) → V X G RX12 cX12_readLanding 2 (none) 8 0 0 (QR X G false o none hz) false o 30 [(0, .ref (xa X 251)), (1, .int x1)] [] h := by
  intro f
  induction f with
  | zero => intro x1 h hF; exact nomatch (show (none : Option (Unit × Mm)) = some (rv, hz) from hF)
  | succ f ih =>
    intro x1 h hF
    unfold X12_readLanding_30 at hF
    refine V.iload_n 1 dX12_readLanding_30 rfl rfl ?_
    refine V.iconst (v := 3) dX12_readLanding_31 rfl ?_
    refine V.icmp_ge (tgt := 53) dX12_readLanding_32 rfl (fun c => ?_) (fun c => ?_)
    · replace hF := ip c hF
      refine V.iconst (v := 1) dX12_readLanding_53 rfl ?_
      refine V.istore_n [(1, _), (0, _)] dX12_readLanding_54 rfl (by decide) rfl ?_
      exact V.sub [1, 0] rfl (v_X12_readLanding_55 n _ _ hF)
    · replace hF := iq c hF
      refine V.aload_n 0 dX12_readLanding_35 rfl rfl ?_
      refine V.getR (v := 257) fl_X12_40 sh_251 rfl fx_251_19 (by decide) dX12_readLanding_36 ?_
      refine V.iload_n 1 dX12_readLanding_39 rfl rfl ?_
      refine V.bipush (v := 115) dX12_readLanding_40 (by decide) ?_
      refine V.iload_n 1 dX12_readLanding_42 rfl rfl ?_
      obtain ⟨r60, hc61, hF⟩ := bp_s hF
      refine V.callSi mf_X12_usual ml_X12_218 (s_X12_usual hc61) (by decide) rfl rfl (Nat.le_of_ble_eq_true rfl) dX12_readLanding_43 ?_
      obtain ⟨hk, hF⟩ := ck hF
      refine V.iast io_257 hk dX12_readLanding_46 ?_
      refine V.iinc (v := (x1 + (1))) 1 [(1, _), (0, _)] dX12_readLanding_47 rfl rfl (by decide) rfl ?_
      refine V.goto (tgt := 30) dX12_readLanding_50 rfl ?_
      exact V.sub [1, 0] rfl (ih _ _ hF)
def X12_readLanding (n : Nat) (h : Mm) : Option (Unit × Mm) := (bd (X12_starts 252 (0 : Int32) (h.1 251 6) h) (fun _ h64 => (X12_readLanding_30 n n (0 : Int32) (wI (wI (wI h64 251 28 (0 : Int32)) 251 29 (0 : Int32)) 251 31 (0 : Int32)))))
set_option maxRecDepth 100000 in
set_option maxHeartbeats 4000000 in
theorem s_X12_readLanding {X : WX} {o : Mm} {n : Nat} {rv : Unit} {hz : Mm} {h : Mm} (hF : X12_readLanding n h = some (rv, hz)) : Sat X yX12_readLanding cX12_readLanding 2 (none) 8 [.ref (xa X 251)] false o h none hz := by
  unfold X12_readLanding at hF
  refine Sat.mk (own := RX12) rfl (by decide +kernel) (Nat.le_of_ble_eq_true rfl) (fun G => ?_)
  refine V.sub (lv2 := [(0, _)]) [0] rfl ?_
  refine V.aload_n 0 dX12_readLanding_0 rfl rfl ?_
  refine V.aload_n 0 dX12_readLanding_1 rfl rfl ?_
  refine V.getR (v := 252) fl_X12_9 sh_251 rfl fx_251_1 (by decide) dX12_readLanding_2 ?_
  refine V.iconst (v := 0) dX12_readLanding_5 rfl ?_
  refine V.aload_n 0 dX12_readLanding_6 rfl rfl ?_
  refine V.getI fl_X12_106 sh_251 rfl km_251 dX12_readLanding_7 ?_
  obtain ⟨r62, h64, hc63, hF⟩ := bd_s hF
  refine V.callVv mf_X12_starts ml_X12_204 sh_251 (s_X12_starts io_252 hc63) (by decide) rfl rfl (Nat.le_of_ble_eq_true rfl) dX12_readLanding_10 ?_
  refine V.aload_n 0 dX12_readLanding_13 rfl rfl ?_
  refine V.iconst (v := 0) dX12_readLanding_14 rfl ?_
  refine V.putI fl_X12_242 rfl (tyX12_ok 28 (by decide)) rfl rfl sh_251 rfl km_251 dX12_readLanding_15 ?_
  refine V.aload_n 0 dX12_readLanding_18 rfl rfl ?_
  refine V.iconst (v := 0) dX12_readLanding_19 rfl ?_
  refine V.putI fl_X12_245 rfl (tyX12_ok 29 (by decide)) rfl rfl sh_251 rfl km_251 dX12_readLanding_20 ?_
  refine V.aload_n 0 dX12_readLanding_23 rfl rfl ?_
  refine V.iconst (v := 0) dX12_readLanding_24 rfl ?_
  refine V.putI fl_X12_239 rfl (tyX12_ok 31 (by decide)) rfl rfl sh_251 rfl km_251 dX12_readLanding_25 ?_
  refine V.iconst (v := 0) dX12_readLanding_28 rfl ?_
  refine V.istore_n [(1, _), (0, _)] dX12_readLanding_29 rfl (by decide) rfl ?_
  exact V.sub [1, 0] rfl (v_X12_readLanding_30 n _ _ hF)
/-! MonsterCotModel.digit -/
theorem dX12_digit_0 : decode cX12_digit 0 = .ok (.aload_n 0, 1) := by decide +kernel
theorem dX12_digit_1 : decode cX12_digit 1 = .ok (.invokevirtual 135, 3) := by decide +kernel
theorem dX12_digit_4 : decode cX12_digit 4 = .ok (.istore_n 1, 1) := by decide +kernel
theorem dX12_digit_5 : decode cX12_digit 5 = .ok (.aload_n 0, 1) := by decide +kernel
theorem dX12_digit_6 : decode cX12_digit 6 = .ok (.invokevirtual 165, 3) := by decide +kernel
theorem dX12_digit_9 : decode cX12_digit 9 = .ok (.ifCond .ne 10, 3) := by decide +kernel
theorem dX12_digit_12 : decode cX12_digit 12 = .ok (.aload_n 0, 1) := by decide +kernel
theorem dX12_digit_13 : decode cX12_digit 13 = .ok (.invokevirtual 131, 3) := by decide +kernel
theorem dX12_digit_16 : decode cX12_digit 16 = .ok (.pop, 1) := by decide +kernel
theorem dX12_digit_17 : decode cX12_digit 17 = .ok (.iconst 0, 1) := by decide +kernel
theorem dX12_digit_18 : decode cX12_digit 18 = .ok (.ireturn, 1) := by decide +kernel
theorem dX12_digit_19 : decode cX12_digit 19 = .ok (.aload_n 0, 1) := by decide +kernel
theorem dX12_digit_20 : decode cX12_digit 20 = .ok (.dup, 1) := by decide +kernel
theorem dX12_digit_21 : decode cX12_digit 21 = .ok (.getfield 116, 3) := by decide +kernel
theorem dX12_digit_24 : decode cX12_digit 24 = .ok (.iconst 1, 1) := by decide +kernel
theorem dX12_digit_25 : decode cX12_digit 25 = .ok (.iadd, 1) := by decide +kernel
theorem dX12_digit_26 : decode cX12_digit 26 = .ok (.putfield 116, 3) := by decide +kernel
theorem dX12_digit_29 : decode cX12_digit 29 = .ok (.iload_n 1, 1) := by decide +kernel
theorem dX12_digit_30 : decode cX12_digit 30 = .ok (.bipush 48, 2) := by decide +kernel
theorem dX12_digit_32 : decode cX12_digit 32 = .ok (.isub, 1) := by decide +kernel
theorem dX12_digit_33 : decode cX12_digit 33 = .ok (.ireturn, 1) := by decide +kernel
def X12_digit (n : Nat) (h : Mm) : Option (Int32 × Mm) := (bd (X12_look n h) (fun r9 h11 => (bp (X12_isDigit h11) (fun r12 => (if r12 = true then (some ((r9 - (48 : Int32)), (wI h11 251 10 ((h11.1 251 10) + (1 : Int32))))) else (bd (X12_fails h11) (fun r14 h16 => (some ((0 : Int32), h16)))))))))
set_option maxRecDepth 100000 in
set_option maxHeartbeats 4000000 in
theorem s_X12_digit {X : WX} {o : Mm} {n : Nat} {rv : Int32} {hz : Mm} {h : Mm} (hF : X12_digit n h = some (rv, hz)) : Sat X yX12_digit cX12_digit 2 (some .int) 2 [.ref (xa X 251)] false o h (some (.int rv)) hz := by
  unfold X12_digit at hF
  refine Sat.mk (own := RX12) rfl (by decide +kernel) (Nat.le_of_ble_eq_true rfl) (fun G => ?_)
  refine V.sub (lv2 := [(0, _)]) [0] rfl ?_
  refine V.aload_n 0 dX12_digit_0 rfl rfl ?_
  obtain ⟨r9, h11, hc10, hF⟩ := bd_s hF
  refine V.callVi mf_X12_look ml_X12_135 sh_251 (s_X12_look hc10) (by decide) rfl rfl (Nat.le_of_ble_eq_true rfl) dX12_digit_1 ?_
  refine V.istore_n [(1, _), (0, _)] dX12_digit_4 rfl (by decide) rfl ?_
  refine V.aload_n 1 dX12_digit_5 rfl rfl ?_
  obtain ⟨r12, hc13, hF⟩ := bp_s hF
  refine V.callVi mf_X12_isDigit ml_X12_165 sh_251 (s_X12_isDigit hc13) (by decide) rfl rfl (Nat.le_of_ble_eq_true rfl) dX12_digit_6 ?_
  refine V.ifz_ne (tgt := 19) dX12_digit_9 rfl (fun c => ?_) (fun c => ?_)
  · replace hF := ip c hF
    refine V.aload_n 1 dX12_digit_19 rfl rfl ?_
    refine V.dup dX12_digit_20 rfl ?_
    refine V.getI fl_X12_116 sh_251 rfl km_251 dX12_digit_21 ?_
    refine V.iconst (v := 1) dX12_digit_24 rfl ?_
    refine V.iadd dX12_digit_25 ?_
    refine V.putI fl_X12_116 rfl (tyX12_ok 10 (by decide)) rfl rfl sh_251 rfl km_251 dX12_digit_26 ?_
    refine V.iload_n 0 dX12_digit_29 rfl rfl ?_
    refine V.bipush (v := 48) dX12_digit_30 (by decide) ?_
    refine V.isub dX12_digit_32 ?_
    cases hF
    exact V.iret dX12_digit_33
  · replace hF := iq c hF
    refine V.aload_n 1 dX12_digit_12 rfl rfl ?_
    obtain ⟨r14, h16, hc15, hF⟩ := bd_s hF
    refine V.callVi mf_X12_fails ml_X12_131 sh_251 (s_X12_fails hc15) (by decide) rfl rfl (Nat.le_of_ble_eq_true rfl) dX12_digit_13 ?_
    refine V.pop dX12_digit_16 rfl ?_
    refine V.iconst (v := 0) dX12_digit_17 rfl ?_
    cases hF
    exact V.iret dX12_digit_18
/-! MonsterCotModel.readStep -/
theorem dX12_readStep_0 : decode cX12_readStep 0 = .ok (.ldc_w 261, 3) := by decide +kernel
theorem dX12_readStep_3 : decode cX12_readStep 3 = .ok (.aload_n 0, 1) := by decide +kernel
theorem dX12_readStep_4 : decode cX12_readStep 4 = .ok (.invokevirtual 135, 3) := by decide +kernel
theorem dX12_readStep_7 : decode cX12_readStep 7 = .ok (.invokestatic 222, 3) := by decide +kernel
theorem dX12_readStep_10 : decode cX12_readStep 10 = .ok (.istore_n 2, 1) := by decide +kernel
theorem dX12_readStep_11 : decode cX12_readStep 11 = .ok (.iload_n 2, 1) := by decide +kernel
theorem dX12_readStep_12 : decode cX12_readStep 12 = .ok (.iconst (-1), 1) := by decide +kernel
theorem dX12_readStep_13 : decode cX12_readStep 13 = .ok (.if_icmp .ne 9, 3) := by decide +kernel
theorem dX12_readStep_16 : decode cX12_readStep 16 = .ok (.aload_n 0, 1) := by decide +kernel
theorem dX12_readStep_17 : decode cX12_readStep 17 = .ok (.invokevirtual 131, 3) := by decide +kernel
theorem dX12_readStep_20 : decode cX12_readStep 20 = .ok (.pop, 1) := by decide +kernel
theorem dX12_readStep_21 : decode cX12_readStep 21 = .ok (.return_, 1) := by decide +kernel
theorem dX12_readStep_22 : decode cX12_readStep 22 = .ok (.aload_n 0, 1) := by decide +kernel
theorem dX12_readStep_23 : decode cX12_readStep 23 = .ok (.dup, 1) := by decide +kernel
theorem dX12_readStep_24 : decode cX12_readStep 24 = .ok (.getfield 116, 3) := by decide +kernel
theorem dX12_readStep_27 : decode cX12_readStep 27 = .ok (.iconst 1, 1) := by decide +kernel
theorem dX12_readStep_28 : decode cX12_readStep 28 = .ok (.iadd, 1) := by decide +kernel
theorem dX12_readStep_29 : decode cX12_readStep 29 = .ok (.putfield 116, 3) := by decide +kernel
theorem dX12_readStep_32 : decode cX12_readStep 32 = .ok (.aload_n 0, 1) := by decide +kernel
theorem dX12_readStep_33 : decode cX12_readStep 33 = .ok (.getfield 55, 3) := by decide +kernel
theorem dX12_readStep_36 : decode cX12_readStep 36 = .ok (.iload_n 1, 1) := by decide +kernel
theorem dX12_readStep_37 : decode cX12_readStep 37 = .ok (.iload_n 2, 1) := by decide +kernel
theorem dX12_readStep_38 : decode cX12_readStep 38 = .ok (.iastore, 1) := by decide +kernel
theorem dX12_readStep_39 : decode cX12_readStep 39 = .ok (.aload_n 0, 1) := by decide +kernel
theorem dX12_readStep_40 : decode cX12_readStep 40 = .ok (.getfield 55, 3) := by decide +kernel
theorem dX12_readStep_43 : decode cX12_readStep 43 = .ok (.iload_n 1, 1) := by decide +kernel
theorem dX12_readStep_44 : decode cX12_readStep 44 = .ok (.iconst 1, 1) := by decide +kernel
theorem dX12_readStep_45 : decode cX12_readStep 45 = .ok (.iadd, 1) := by decide +kernel
theorem dX12_readStep_46 : decode cX12_readStep 46 = .ok (.iconst (-1), 1) := by decide +kernel
theorem dX12_readStep_47 : decode cX12_readStep 47 = .ok (.iastore, 1) := by decide +kernel
theorem dX12_readStep_48 : decode cX12_readStep 48 = .ok (.aload_n 0, 1) := by decide +kernel
theorem dX12_readStep_49 : decode cX12_readStep 49 = .ok (.getfield 55, 3) := by decide +kernel
theorem dX12_readStep_52 : decode cX12_readStep 52 = .ok (.iload_n 1, 1) := by decide +kernel
theorem dX12_readStep_53 : decode cX12_readStep 53 = .ok (.iconst 2, 1) := by decide +kernel
theorem dX12_readStep_54 : decode cX12_readStep 54 = .ok (.iadd, 1) := by decide +kernel
theorem dX12_readStep_55 : decode cX12_readStep 55 = .ok (.iconst (-1), 1) := by decide +kernel
theorem dX12_readStep_56 : decode cX12_readStep 56 = .ok (.iastore, 1) := by decide +kernel
theorem dX12_readStep_57 : decode cX12_readStep 57 = .ok (.iload_n 2, 1) := by decide +kernel
theorem dX12_readStep_58 : decode cX12_readStep 58 = .ok (.iconst 2, 1) := by decide +kernel
theorem dX12_readStep_59 : decode cX12_readStep 59 = .ok (.if_icmp .lt 8, 3) := by decide +kernel
theorem dX12_readStep_62 : decode cX12_readStep 62 = .ok (.iload_n 2, 1) := by decide +kernel
theorem dX12_readStep_63 : decode cX12_readStep 63 = .ok (.iconst 4, 1) := by decide +kernel
theorem dX12_readStep_64 : decode cX12_readStep 64 = .ok (.if_icmp .ne 15, 3) := by decide +kernel
theorem dX12_readStep_67 : decode cX12_readStep 67 = .ok (.aload_n 0, 1) := by decide +kernel
theorem dX12_readStep_68 : decode cX12_readStep 68 = .ok (.getfield 55, 3) := by decide +kernel
theorem dX12_readStep_71 : decode cX12_readStep 71 = .ok (.iload_n 1, 1) := by decide +kernel
theorem dX12_readStep_72 : decode cX12_readStep 72 = .ok (.iconst 1, 1) := by decide +kernel
theorem dX12_readStep_73 : decode cX12_readStep 73 = .ok (.iadd, 1) := by decide +kernel
theorem dX12_readStep_74 : decode cX12_readStep 74 = .ok (.aload_n 0, 1) := by decide +kernel
theorem dX12_readStep_75 : decode cX12_readStep 75 = .ok (.invokevirtual 263, 3) := by decide +kernel
theorem dX12_readStep_78 : decode cX12_readStep 78 = .ok (.iastore, 1) := by decide +kernel
theorem dX12_readStep_79 : decode cX12_readStep 79 = .ok (.aload_n 0, 1) := by decide +kernel
theorem dX12_readStep_80 : decode cX12_readStep 80 = .ok (.getfield 125, 3) := by decide +kernel
theorem dX12_readStep_83 : decode cX12_readStep 83 = .ok (.iconst (-1), 1) := by decide +kernel
theorem dX12_readStep_84 : decode cX12_readStep 84 = .ok (.if_icmp .ne 20, 3) := by decide +kernel
theorem dX12_readStep_87 : decode cX12_readStep 87 = .ok (.iload_n 2, 1) := by decide +kernel
theorem dX12_readStep_88 : decode cX12_readStep 88 = .ok (.iconst 2, 1) := by decide +kernel
theorem dX12_readStep_89 : decode cX12_readStep 89 = .ok (.if_icmp .ge 15, 3) := by decide +kernel
theorem dX12_readStep_92 : decode cX12_readStep 92 = .ok (.aload_n 0, 1) := by decide +kernel
theorem dX12_readStep_93 : decode cX12_readStep 93 = .ok (.getfield 55, 3) := by decide +kernel
theorem dX12_readStep_96 : decode cX12_readStep 96 = .ok (.iload_n 1, 1) := by decide +kernel
theorem dX12_readStep_97 : decode cX12_readStep 97 = .ok (.iconst 2, 1) := by decide +kernel
theorem dX12_readStep_98 : decode cX12_readStep 98 = .ok (.iadd, 1) := by decide +kernel
theorem dX12_readStep_99 : decode cX12_readStep 99 = .ok (.aload_n 0, 1) := by decide +kernel
theorem dX12_readStep_100 : decode cX12_readStep 100 = .ok (.invokevirtual 263, 3) := by decide +kernel
theorem dX12_readStep_103 : decode cX12_readStep 103 = .ok (.iastore, 1) := by decide +kernel
theorem dX12_readStep_104 : decode cX12_readStep 104 = .ok (.return_, 1) := by decide +kernel
def X12_readStep_79 (n : Nat) (x1 : Int32) (x2 : Int32) (h : Mm) : Option (Unit × Mm) := (if (h.1 251 11) = (-1 : Int32) then (if (2 : Int32) ≤ x2 then (some ((), h)) else (bd (X12_digit n h) (fun r29 h31 => (if inB (x1 + (2 : Int32)) (aln 262) then (some ((), (wI h31 262 (x1 + (2 : Int32)).toNatClampNeg r29))) else none)))) else (some ((), h)))
set_option maxRecDepth 100000 in
set_option maxHeartbeats 4000000 in
theorem v_X12_readStep_79 {X : WX} {G : GX} {o : Mm} {n : Nat} {rv : Unit} {hz : Mm} {x1 : Int32} {x2 : Int32} {h : Mm} (hF : X12_readStep_79 n x1 x2 h = some (rv, hz)) : V X G RX12 cX12_readStep 3 (none) 6 0 0 (QR X G false o none hz) false o 79 [(0, .ref (xa X 251)), (1, .int x1), (2, .int x2)] [] h := by
  unfold X12_readStep_79 at hF
  refine V.aload_n 0 dX12_readStep_79 rfl rfl ?_
  refine V.getI fl_X12_125 sh_251 rfl km_251 dX12_readStep_80 ?_
  refine V.iconst (v := -1) dX12_readStep_83 rfl ?_
  refine V.icmp_ne (tgt := 104) dX12_readStep_84 rfl (fun c => ?_) (fun c => ?_)
  · replace hF := iq c hF
    cases hF
    exact V.vret dX12_readStep_104
  · replace hF := ip c hF
    refine V.iload_n 2 dX12_readStep_87 rfl rfl ?_
    refine V.iconst (v := 2) dX12_readStep_88 rfl ?_
    refine V.icmp_ge (tgt := 104) dX12_readStep_89 rfl (fun c => ?_) (fun c => ?_)
    · replace hF := ip c hF
      cases hF
      exact V.vret dX12_readStep_104
    · replace hF := iq c hF
      refine V.aload_n 0 dX12_readStep_92 rfl rfl ?_
      refine V.getR (v := 262) fl_X12_55 sh_251 rfl fx_251_24 (by decide) dX12_readStep_93 ?_
      refine V.iload_n 1 dX12_readStep_96 rfl rfl ?_
      refine V.iconst (v := 2) dX12_readStep_97 rfl ?_
      refine V.iadd dX12_readStep_98 ?_
      refine V.aload_n 0 dX12_readStep_99 rfl rfl ?_
      obtain ⟨r29, h31, hc30, hF⟩ := bd_s hF
      refine V.callVi mf_X12_digit ml_X12_263 sh_251 (s_X12_digit hc30) (by decide) rfl rfl (Nat.le_of_ble_eq_true rfl) dX12_readStep_100 ?_
      obtain ⟨hk, hF⟩ := ck hF
      refine V.iast io_262 hk dX12_readStep_103 ?_
      cases hF
      exact V.vret dX12_readStep_104
def X12_readStep_67 (n : Nat) (x1 : Int32) (x2 : Int32) (h : Mm) : Option (Unit × Mm) := (bd (X12_digit n h) (fun r32 h34 => (if inB (x1 + (1 : Int32)) (aln 262) then (X12_readStep_79 n x1 x2 (wI h34 262 (x1 + (1 : Int32)).toNatClampNeg r32)) else none)))
set_option maxRecDepth 100000 in
set_option maxHeartbeats 4000000 in
theorem v_X12_readStep_67 {X : WX} {G : GX} {o : Mm} {n : Nat} {rv : Unit} {hz : Mm} {x1 : Int32} {x2 : Int32} {h : Mm} (hF : X12_readStep_67 n x1 x2 h = some (rv, hz)) : V X G RX12 cX12_readStep 3 (none) 6 0 0 (QR X G false o none hz) false o 67 [(0, .ref (xa X 251)), (1, .int x1), (2, .int x2)] [] h := by
  unfold X12_readStep_67 at hF
  refine V.aload_n 0 dX12_readStep_67 rfl rfl ?_
  refine V.getR (v := 262) fl_X12_55 sh_251 rfl fx_251_24 (by decide) dX12_readStep_68 ?_
  refine V.iload_n 1 dX12_readStep_71 rfl rfl ?_
  refine V.iconst (v := 1) dX12_readStep_72 rfl ?_
  refine V.iadd dX12_readStep_73 ?_
  refine V.aload_n 0 dX12_readStep_74 rfl rfl ?_
  obtain ⟨r32, h34, hc33, hF⟩ := bd_s hF
  refine V.callVi mf_X12_digit ml_X12_263 sh_251 (s_X12_digit hc33) (by decide) rfl rfl (Nat.le_of_ble_eq_true rfl) dX12_readStep_75 ?_
  obtain ⟨hk, hF⟩ := ck hF
  refine V.iast io_262 hk dX12_readStep_78 ?_
  exact (v_X12_readStep_79 hF)
def X12_readStep (n : Nat) (x1 : Int32) (h : Mm) : Option (Unit × Mm) := (bd (X12_look n h) (fun r35 h37 => (bp (X12_spotOf n 1036 r35 h37) (fun r38 => (if r38 = (-1 : Int32) then (bd (X12_fails h37) (fun r40 h42 => (some ((), h42)))) else (if inB x1 (aln 262) then (if inB (x1 + (1 : Int32)) (aln 262) then (if inB (x1 + (2 : Int32)) (aln 262) then (if r38 < (2 : Int32) then (X12_readStep_67 n x1 r38 (wI (wI (wI (wI h37 251 10 ((h37.1 251 10) + (1 : Int32))) 262 x1.toNatClampNeg r38) 262 (x1 + (1 : Int32)).toNatClampNeg (-1 : Int32)) 262 (x1 + (2 : Int32)).toNatClampNeg (-1 : Int32))) else (if r38 = (4 : Int32) then (X12_readStep_67 n x1 r38 (wI (wI (wI (wI h37 251 10 ((h37.1 251 10) + (1 : Int32))) 262 x1.toNatClampNeg r38) 262 (x1 + (1 : Int32)).toNatClampNeg (-1 : Int32)) 262 (x1 + (2 : Int32)).toNatClampNeg (-1 : Int32))) else (X12_readStep_79 n x1 r38 (wI (wI (wI (wI h37 251 10 ((h37.1 251 10) + (1 : Int32))) 262 x1.toNatClampNeg r38) 262 (x1 + (1 : Int32)).toNatClampNeg (-1 : Int32)) 262 (x1 + (2 : Int32)).toNatClampNeg (-1 : Int32))))) else none) else none) else none))))))
set_option maxRecDepth 100000 in
set_option maxHeartbeats 4000000 in
theorem s_X12_readStep {X : WX} {o : Mm} {n : Nat} {x1 : Int32} {rv : Unit} {hz : Mm} {h : Mm} (hF : X12_readStep n x1 h = some (rv, hz)) : Sat X yX12_readStep cX12_readStep 3 (none) 6 [.ref (xa X 251), .int x1] false o h none hz := by
  unfold X12_readStep at hF
  refine Sat.mk (own := RX12) rfl (by decide +kernel) (Nat.le_of_ble_eq_true rfl) (fun G => ?_)
  refine V.sub (lv2 := [(0, _), (1, _)]) [0, 1] rfl ?_
  refine V.ldcSw sc_1036 rfl rfl dX12_readStep_0 ?_
  refine V.aload_n 0 dX12_readStep_3 rfl rfl ?_
  obtain ⟨r35, h37, hc36, hF⟩ := bd_s hF
  refine V.callVi mf_X12_look ml_X12_135 sh_251 (s_X12_look hc36) (by decide) rfl rfl (Nat.le_of_ble_eq_true rfl) dX12_readStep_4 ?_
  obtain ⟨r38, hc39, hF⟩ := bp_s hF
  refine V.callSi mf_X12_spotOf ml_X12_222 (s_X12_spotOf ⟨by decide, by decide⟩ hc39) (by decide) rfl rfl (Nat.le_of_ble_eq_true rfl) dX12_readStep_7 ?_
  refine V.istore_n [(2, _), (0, _), (1, _)] dX12_readStep_10 rfl (by decide) rfl ?_
  refine V.iload_n 0 dX12_readStep_11 rfl rfl ?_
  refine V.iconst (v := -1) dX12_readStep_12 rfl ?_
  refine V.icmp_ne (tgt := 22) dX12_readStep_13 rfl (fun c => ?_) (fun c => ?_)
  · replace hF := iq c hF
    refine V.aload_n 1 dX12_readStep_22 rfl rfl ?_
    refine V.dup dX12_readStep_23 rfl ?_
    refine V.getI fl_X12_116 sh_251 rfl km_251 dX12_readStep_24 ?_
    refine V.iconst (v := 1) dX12_readStep_27 rfl ?_
    refine V.iadd dX12_readStep_28 ?_
    refine V.putI fl_X12_116 rfl (tyX12_ok 10 (by decide)) rfl rfl sh_251 rfl km_251 dX12_readStep_29 ?_
    refine V.aload_n 1 dX12_readStep_32 rfl rfl ?_
    refine V.getR (v := 262) fl_X12_55 sh_251 rfl fx_251_24 (by decide) dX12_readStep_33 ?_
    refine V.iload_n 2 dX12_readStep_36 rfl rfl ?_
    refine V.iload_n 0 dX12_readStep_37 rfl rfl ?_
    obtain ⟨hk, hF⟩ := ck hF
    refine V.iast io_262 hk dX12_readStep_38 ?_
    refine V.aload_n 1 dX12_readStep_39 rfl rfl ?_
    refine V.getR (v := 262) fl_X12_55 sh_251 rfl fx_251_24 (by decide) dX12_readStep_40 ?_
    refine V.iload_n 2 dX12_readStep_43 rfl rfl ?_
    refine V.iconst (v := 1) dX12_readStep_44 rfl ?_
    refine V.iadd dX12_readStep_45 ?_
    refine V.iconst (v := -1) dX12_readStep_46 rfl ?_
    obtain ⟨hk, hF⟩ := ck hF
    refine V.iast io_262 hk dX12_readStep_47 ?_
    refine V.aload_n 1 dX12_readStep_48 rfl rfl ?_
    refine V.getR (v := 262) fl_X12_55 sh_251 rfl fx_251_24 (by decide) dX12_readStep_49 ?_
    refine V.iload_n 2 dX12_readStep_52 rfl rfl ?_
    refine V.iconst (v := 2) dX12_readStep_53 rfl ?_
    refine V.iadd dX12_readStep_54 ?_
    refine V.iconst (v := -1) dX12_readStep_55 rfl ?_
    obtain ⟨hk, hF⟩ := ck hF
    refine V.iast io_262 hk dX12_readStep_56 ?_
    refine V.iload_n 0 dX12_readStep_57 rfl rfl ?_
    refine V.iconst (v := 2) dX12_readStep_58 rfl ?_
    refine V.icmp_lt (tgt := 67) dX12_readStep_59 rfl (fun c => ?_) (fun c => ?_)
    · replace hF := ip c hF
      exact V.sub [1, 2, 0] rfl (v_X12_readStep_67 hF)
    · replace hF := iq c hF
      refine V.iload_n 0 dX12_readStep_62 rfl rfl ?_
      refine V.iconst (v := 4) dX12_readStep_63 rfl ?_
      refine V.icmp_ne (tgt := 79) dX12_readStep_64 rfl (fun c => ?_) (fun c => ?_)
      · replace hF := iq c hF
        exact V.sub [1, 2, 0] rfl (v_X12_readStep_79 hF)
      · replace hF := ip c hF
        exact V.sub [1, 2, 0] rfl (v_X12_readStep_67 hF)
  · replace hF := ip c hF
    refine V.aload_n 1 dX12_readStep_16 rfl rfl ?_
    obtain ⟨r40, h42, hc41, hF⟩ := bd_s hF
    refine V.callVi mf_X12_fails ml_X12_131 sh_251 (s_X12_fails hc41) (by decide) rfl rfl (Nat.le_of_ble_eq_true rfl) dX12_readStep_17 ?_
    refine V.pop dX12_readStep_20 rfl ?_
    cases hF
    exact V.vret dX12_readStep_21
/-! MonsterCotModel.readWeek -/
theorem dX12_readWeek_0 : decode cX12_readWeek 0 = .ok (.aload_n 0, 1) := by decide +kernel
theorem dX12_readWeek_1 : decode cX12_readWeek 1 = .ok (.aload_n 0, 1) := by decide +kernel
theorem dX12_readWeek_2 : decode cX12_readWeek 2 = .ok (.getfield 9, 3) := by decide +kernel
theorem dX12_readWeek_5 : decode cX12_readWeek 5 = .ok (.iconst 0, 1) := by decide +kernel
theorem dX12_readWeek_6 : decode cX12_readWeek 6 = .ok (.aload_n 0, 1) := by decide +kernel
theorem dX12_readWeek_7 : decode cX12_readWeek 7 = .ok (.getfield 106, 3) := by decide +kernel
theorem dX12_readWeek_10 : decode cX12_readWeek 10 = .ok (.invokevirtual 204, 3) := by decide +kernel
theorem dX12_readWeek_13 : decode cX12_readWeek 13 = .ok (.iconst 0, 1) := by decide +kernel
theorem dX12_readWeek_14 : decode cX12_readWeek 14 = .ok (.istore_n 1, 1) := by decide +kernel
theorem dX12_readWeek_15 : decode cX12_readWeek 15 = .ok (.iconst 1, 1) := by decide +kernel
theorem dX12_readWeek_16 : decode cX12_readWeek 16 = .ok (.istore_n 2, 1) := by decide +kernel
theorem dX12_readWeek_17 : decode cX12_readWeek 17 = .ok (.iload_n 2, 1) := by decide +kernel
theorem dX12_readWeek_18 : decode cX12_readWeek 18 = .ok (.ifCond .eq 73, 3) := by decide +kernel
theorem dX12_readWeek_21 : decode cX12_readWeek 21 = .ok (.aload_n 0, 1) := by decide +kernel
theorem dX12_readWeek_22 : decode cX12_readWeek 22 = .ok (.iconst 3, 1) := by decide +kernel
theorem dX12_readWeek_23 : decode cX12_readWeek 23 = .ok (.bipush 64, 2) := by decide +kernel
theorem dX12_readWeek_25 : decode cX12_readWeek 25 = .ok (.iload_n 1, 1) := by decide +kernel
theorem dX12_readWeek_26 : decode cX12_readWeek 26 = .ok (.iadd, 1) := by decide +kernel
theorem dX12_readWeek_27 : decode cX12_readWeek 27 = .ok (.imul, 1) := by decide +kernel
theorem dX12_readWeek_28 : decode cX12_readWeek 28 = .ok (.invokevirtual 266, 3) := by decide +kernel
theorem dX12_readWeek_31 : decode cX12_readWeek 31 = .ok (.aload_n 0, 1) := by decide +kernel
theorem dX12_readWeek_32 : decode cX12_readWeek 32 = .ok (.getfield 125, 3) := by decide +kernel
theorem dX12_readWeek_35 : decode cX12_readWeek 35 = .ok (.iconst (-1), 1) := by decide +kernel
theorem dX12_readWeek_36 : decode cX12_readWeek 36 = .ok (.if_icmp .eq 4, 3) := by decide +kernel
theorem dX12_readWeek_39 : decode cX12_readWeek 39 = .ok (.return_, 1) := by decide +kernel
theorem dX12_readWeek_40 : decode cX12_readWeek 40 = .ok (.iinc 1 1, 3) := by decide +kernel
theorem dX12_readWeek_43 : decode cX12_readWeek 43 = .ok (.aload_n 0, 1) := by decide +kernel
theorem dX12_readWeek_44 : decode cX12_readWeek 44 = .ok (.invokevirtual 135, 3) := by decide +kernel
theorem dX12_readWeek_47 : decode cX12_readWeek 47 = .ok (.bipush 59, 2) := by decide +kernel
theorem dX12_readWeek_49 : decode cX12_readWeek 49 = .ok (.if_icmp .ne 7, 3) := by decide +kernel
theorem dX12_readWeek_52 : decode cX12_readWeek 52 = .ok (.iconst 1, 1) := by decide +kernel
theorem dX12_readWeek_53 : decode cX12_readWeek 53 = .ok (.goto 4, 3) := by decide +kernel
theorem dX12_readWeek_56 : decode cX12_readWeek 56 = .ok (.iconst 0, 1) := by decide +kernel
theorem dX12_readWeek_57 : decode cX12_readWeek 57 = .ok (.istore_n 2, 1) := by decide +kernel
theorem dX12_readWeek_58 : decode cX12_readWeek 58 = .ok (.iload_n 2, 1) := by decide +kernel
theorem dX12_readWeek_59 : decode cX12_readWeek 59 = .ok (.ifCond .eq 15, 3) := by decide +kernel
theorem dX12_readWeek_62 : decode cX12_readWeek 62 = .ok (.iload_n 1, 1) := by decide +kernel
theorem dX12_readWeek_63 : decode cX12_readWeek 63 = .ok (.bipush 16, 2) := by decide +kernel
theorem dX12_readWeek_65 : decode cX12_readWeek 65 = .ok (.if_icmp .ne 9, 3) := by decide +kernel
theorem dX12_readWeek_68 : decode cX12_readWeek 68 = .ok (.aload_n 0, 1) := by decide +kernel
theorem dX12_readWeek_69 : decode cX12_readWeek 69 = .ok (.invokevirtual 131, 3) := by decide +kernel
theorem dX12_readWeek_72 : decode cX12_readWeek 72 = .ok (.pop, 1) := by decide +kernel
theorem dX12_readWeek_73 : decode cX12_readWeek 73 = .ok (.return_, 1) := by decide +kernel
theorem dX12_readWeek_74 : decode cX12_readWeek 74 = .ok (.iload_n 2, 1) := by decide +kernel
theorem dX12_readWeek_75 : decode cX12_readWeek 75 = .ok (.ifCond .eq (-58), 3) := by decide +kernel
theorem dX12_readWeek_78 : decode cX12_readWeek 78 = .ok (.aload_n 0, 1) := by decide +kernel
theorem dX12_readWeek_79 : decode cX12_readWeek 79 = .ok (.dup, 1) := by decide +kernel
theorem dX12_readWeek_80 : decode cX12_readWeek 80 = .ok (.getfield 116, 3) := by decide +kernel
theorem dX12_readWeek_83 : decode cX12_readWeek 83 = .ok (.iconst 1, 1) := by decide +kernel
theorem dX12_readWeek_84 : decode cX12_readWeek 84 = .ok (.iadd, 1) := by decide +kernel
theorem dX12_readWeek_85 : decode cX12_readWeek 85 = .ok (.putfield 116, 3) := by decide +kernel
theorem dX12_readWeek_88 : decode cX12_readWeek 88 = .ok (.goto (-71), 3) := by decide +kernel
theorem dX12_readWeek_91 : decode cX12_readWeek 91 = .ok (.aload_n 0, 1) := by decide +kernel
theorem dX12_readWeek_92 : decode cX12_readWeek 92 = .ok (.getfield 58, 3) := by decide +kernel
theorem dX12_readWeek_95 : decode cX12_readWeek 95 = .ok (.iconst 4, 1) := by decide +kernel
theorem dX12_readWeek_96 : decode cX12_readWeek 96 = .ok (.iload_n 1, 1) := by decide +kernel
theorem dX12_readWeek_97 : decode cX12_readWeek 97 = .ok (.iastore, 1) := by decide +kernel
theorem dX12_readWeek_98 : decode cX12_readWeek 98 = .ok (.aload_n 0, 1) := by decide +kernel
theorem dX12_readWeek_99 : decode cX12_readWeek 99 = .ok (.invokevirtual 135, 3) := by decide +kernel
theorem dX12_readWeek_102 : decode cX12_readWeek 102 = .ok (.iconst (-1), 1) := by decide +kernel
theorem dX12_readWeek_103 : decode cX12_readWeek 103 = .ok (.if_icmp .eq 8, 3) := by decide +kernel
theorem dX12_readWeek_106 : decode cX12_readWeek 106 = .ok (.aload_n 0, 1) := by decide +kernel
theorem dX12_readWeek_107 : decode cX12_readWeek 107 = .ok (.invokevirtual 131, 3) := by decide +kernel
theorem dX12_readWeek_110 : decode cX12_readWeek 110 = .ok (.pop, 1) := by decide +kernel
theorem dX12_readWeek_111 : decode cX12_readWeek 111 = .ok (.return_, 1) := by decide +kernel
def X12_readWeek_74 (n : Nat) (K17 : Int32 → Bool → Mm → Option (Unit × Mm)) (x1 : Int32) (x2 : Bool) (h : Mm) : Option (Unit × Mm) := (if x2 = true then (K17 x1 x2 (wI h 251 10 ((h.1 251 10) + (1 : Int32)))) else (K17 x1 x2 h))
set_option maxRecDepth 100000 in
set_option maxHeartbeats 4000000 in
theorem v_X12_readWeek_74 {X : WX} {G : GX} {o : Mm} {n : Nat} {K17 : Int32 → Bool → Mm → Option (Unit × Mm)} {rv : Unit} {hz : Mm} (hK17 : ∀ (x1 : Int32) (x2 : Bool) (h : Mm), K17 x1 x2 h = some (rv, hz) → V X G RX12 cX12_readWeek 3 (none) 7 0 0 (QR X G false o none hz) false o 17 [(0, .ref (xa X 251)), (1, .int x1), (2, .int (b2i x2))] [] h) {x1 : Int32} {x2 : Bool} {h : Mm} (hF : X12_readWeek_74 n K17 x1 x2 h = some (rv, hz)) : V X G RX12 cX12_readWeek 3 (none) 7 0 0 (QR X G false o none hz) false o 74 [(0, .ref (xa X 251)), (1, .int x1), (2, .int (b2i x2))] [] h := by
  unfold X12_readWeek_74 at hF
  refine V.iload_n 2 dX12_readWeek_74 rfl rfl ?_
  refine V.ifz_eq (tgt := 17) dX12_readWeek_75 rfl (fun c => ?_) (fun c => ?_)
  · replace hF := iq c hF
    exact hK17 _ _ _ hF
  · replace hF := ip c hF
    refine V.aload_n 0 dX12_readWeek_78 rfl rfl ?_
    refine V.dup dX12_readWeek_79 rfl ?_
    refine V.getI fl_X12_116 sh_251 rfl km_251 dX12_readWeek_80 ?_
    refine V.iconst (v := 1) dX12_readWeek_83 rfl ?_
    refine V.iadd dX12_readWeek_84 ?_
    refine V.putI fl_X12_116 rfl (tyX12_ok 10 (by decide)) rfl rfl sh_251 rfl km_251 dX12_readWeek_85 ?_
    refine V.goto (tgt := 17) dX12_readWeek_88 rfl ?_
    exact hK17 _ _ _ hF
def X12_readWeek_57 (n : Nat) (K17 : Int32 → Bool → Mm → Option (Unit × Mm)) (x1 : Int32) (s0 : Bool) (h : Mm) : Option (Unit × Mm) := (if s0 = true then (if x1 = (16 : Int32) then (bd (X12_fails h) (fun r70 h72 => (some ((), h72)))) else (X12_readWeek_74 n K17 x1 s0 h)) else (X12_readWeek_74 n K17 x1 s0 h))
set_option maxRecDepth 100000 in
set_option maxHeartbeats 4000000 in
theorem v_X12_readWeek_57 {X : WX} {G : GX} {o : Mm} {n : Nat} {K17 : Int32 → Bool → Mm → Option (Unit × Mm)} {rv : Unit} {hz : Mm} (hK17 : ∀ (x1 : Int32) (x2 : Bool) (h : Mm), K17 x1 x2 h = some (rv, hz) → V X G RX12 cX12_readWeek 3 (none) 7 0 0 (QR X G false o none hz) false o 17 [(0, .ref (xa X 251)), (1, .int x1), (2, .int (b2i x2))] [] h) {x1 : Int32} {s0 : Bool} {h : Mm} (hF : X12_readWeek_57 n K17 x1 s0 h = some (rv, hz)) : V X G RX12 cX12_readWeek 3 (none) 7 0 0 (QR X G false o none hz) false o 57 [(0, .ref (xa X 251)), (1, .int x1)] [.int (b2i s0)] h := by
  unfold X12_readWeek_57 at hF
  refine V.istore_n [(2, _), (0, _), (1, _)] dX12_readWeek_57 rfl (by decide) rfl ?_
  refine V.iload_n 0 dX12_readWeek_58 rfl rfl ?_
  refine V.ifz_eq (tgt := 74) dX12_readWeek_59 rfl (fun c => ?_) (fun c => ?_)
  · replace hF := iq c hF
    exact V.sub [1, 2, 0] rfl (v_X12_readWeek_74 hK17 hF)
  · replace hF := ip c hF
    refine V.iload_n 2 dX12_readWeek_62 rfl rfl ?_
    refine V.bipush (v := 16) dX12_readWeek_63 (by decide) ?_
    refine V.icmp_ne (tgt := 74) dX12_readWeek_65 rfl (fun c => ?_) (fun c => ?_)
    · replace hF := iq c hF
      exact V.sub [1, 2, 0] rfl (v_X12_readWeek_74 hK17 hF)
    · replace hF := ip c hF
      refine V.aload_n 1 dX12_readWeek_68 rfl rfl ?_
      obtain ⟨r70, h72, hc71, hF⟩ := bd_s hF
      refine V.callVi mf_X12_fails ml_X12_131 sh_251 (s_X12_fails hc71) (by decide) rfl rfl (Nat.le_of_ble_eq_true rfl) dX12_readWeek_69 ?_
      refine V.pop dX12_readWeek_72 rfl ?_
      cases hF
      exact V.vret dX12_readWeek_73
def X12_readWeek_17 (n : Nat) : Nat → Int32 → Bool → Mm → Option (Unit × Mm)
  | 0, _, _, _ => none
  | f + 1, x1, x2, h => (if x2 = true then (bd (X12_readStep n ((3 : Int32) * ((64 : Int32) + x1)) h) (fun _ h81 => (if (h81.1 251 11) = (-1 : Int32) then (bd (X12_look n h81) (fun r82 h84 => (if r82 = (59 : Int32) then (X12_readWeek_57 n (X12_readWeek_17 n f) (x1 + (1)) true h84) else (X12_readWeek_57 n (X12_readWeek_17 n f) (x1 + (1)) false h84)))) else (some ((), h81))))) else (if inB (4 : Int32) (aln 263) then (bd (X12_look n (wI h 263 (4 : Int32).toNatClampNeg x1)) (fun r73 h75 => (if r73 = (-1 : Int32) then (some ((), h75)) else (bd (X12_fails h75) (fun r76 h78 => (some ((), h78))))))) else none))
set_option maxRecDepth 100000 in
set_option maxHeartbeats 4000000 in
theorem v_X12_readWeek_17 {X : WX} {G : GX} {o : Mm} {n : Nat} {rv : Unit} {hz : Mm} : ∀ (f : Nat) (x1 : Int32) (x2 : Bool) (h : Mm), X12_readWeek_17 n f x1 x2 h = some (rv, hz) → V X G RX12 cX12_readWeek 3 (none) 7 0 0 (QR X G false o none hz) false o 17 [(0, .ref (xa X 251)), (1, .int x1), (2, .int (b2i x2))] [] h := by
  intro f
  induction f with
  | zero => intro x1 x2 h hF; exact nomatch (show (none : Option (Unit × Mm)) = some (rv, hz) from hF)
  | succ f ih =>
    intro x1 x2 h hF
    unfold X12_readWeek_17 at hF
    refine V.iload_n 2 dX12_readWeek_17 rfl rfl ?_
    refine V.ifz_eq (tgt := 91) dX12_readWeek_18 rfl (fun c => ?_) (fun c => ?_)
    · replace hF := iq c hF
      refine V.aload_n 0 dX12_readWeek_91 rfl rfl ?_
      refine V.getR (v := 263) fl_X12_58 sh_251 rfl fx_251_25 (by decide) dX12_readWeek_92 ?_
      refine V.iconst (v := 4) dX12_readWeek_95 rfl ?_
      refine V.iload_n 1 dX12_readWeek_96 rfl rfl ?_
      obtain ⟨hk, hF⟩ := ck hF
      refine V.iast io_263 hk dX12_readWeek_97 ?_
      refine V.aload_n 0 dX12_readWeek_98 rfl rfl ?_
      obtain ⟨r73, h75, hc74, hF⟩ := bd_s hF
      refine V.callVi mf_X12_look ml_X12_135 sh_251 (s_X12_look hc74) (by decide) rfl rfl (Nat.le_of_ble_eq_true rfl) dX12_readWeek_99 ?_
      refine V.iconst (v := -1) dX12_readWeek_102 rfl ?_
      refine V.icmp_eq (tgt := 111) dX12_readWeek_103 rfl (fun c => ?_) (fun c => ?_)
      · replace hF := ip c hF
        cases hF
        exact V.vret dX12_readWeek_111
      · replace hF := iq c hF
        refine V.aload_n 0 dX12_readWeek_106 rfl rfl ?_
        obtain ⟨r76, h78, hc77, hF⟩ := bd_s hF
        refine V.callVi mf_X12_fails ml_X12_131 sh_251 (s_X12_fails hc77) (by decide) rfl rfl (Nat.le_of_ble_eq_true rfl) dX12_readWeek_107 ?_
        refine V.pop dX12_readWeek_110 rfl ?_
        cases hF
        exact V.vret dX12_readWeek_111
    · replace hF := ip c hF
      refine V.aload_n 0 dX12_readWeek_21 rfl rfl ?_
      refine V.iconst (v := 3) dX12_readWeek_22 rfl ?_
      refine V.bipush (v := 64) dX12_readWeek_23 (by decide) ?_
      refine V.iload_n 1 dX12_readWeek_25 rfl rfl ?_
      refine V.iadd dX12_readWeek_26 ?_
      refine V.imul dX12_readWeek_27 ?_
      obtain ⟨r79, h81, hc80, hF⟩ := bd_s hF
      refine V.callVv mf_X12_readStep ml_X12_266 sh_251 (s_X12_readStep hc80) (by decide) rfl rfl (Nat.le_of_ble_eq_true rfl) dX12_readWeek_28 ?_
      refine V.aload_n 0 dX12_readWeek_31 rfl rfl ?_
      refine V.getI fl_X12_125 sh_251 rfl km_251 dX12_readWeek_32 ?_
      refine V.iconst (v := -1) dX12_readWeek_35 rfl ?_
      refine V.icmp_eq (tgt := 40) dX12_readWeek_36 rfl (fun c => ?_) (fun c => ?_)
      · replace hF := ip c hF
        refine V.iinc (v := (x1 + (1))) 1 [(1, _), (0, _), (2, _)] dX12_readWeek_40 rfl rfl (by decide) rfl ?_
        refine V.aload_n 1 dX12_readWeek_43 rfl rfl ?_
        obtain ⟨r82, h84, hc83, hF⟩ := bd_s hF
        refine V.callVi mf_X12_look ml_X12_135 sh_251 (s_X12_look hc83) (by decide) rfl rfl (Nat.le_of_ble_eq_true rfl) dX12_readWeek_44 ?_
        refine V.bipush (v := 59) dX12_readWeek_47 (by decide) ?_
        refine V.icmp_ne (tgt := 56) dX12_readWeek_49 rfl (fun c => ?_) (fun c => ?_)
        · replace hF := iq c hF
          refine V.iconst (v := 0) dX12_readWeek_56 rfl ?_
          exact V.sub [1, 0] rfl (v_X12_readWeek_57 ih hF)
        · replace hF := ip c hF
          refine V.iconst (v := 1) dX12_readWeek_52 rfl ?_
          refine V.goto (tgt := 57) dX12_readWeek_53 rfl ?_
          exact V.sub [1, 0] rfl (v_X12_readWeek_57 ih hF)
      · replace hF := iq c hF
        cases hF
        exact V.vret dX12_readWeek_39
def X12_readWeek (n : Nat) (h : Mm) : Option (Unit × Mm) := (bd (X12_starts 252 (0 : Int32) (h.1 251 6) h) (fun _ h87 => (X12_readWeek_17 n n (0 : Int32) true h87)))
set_option maxRecDepth 100000 in
set_option maxHeartbeats 4000000 in
theorem s_X12_readWeek {X : WX} {o : Mm} {n : Nat} {rv : Unit} {hz : Mm} {h : Mm} (hF : X12_readWeek n h = some (rv, hz)) : Sat X yX12_readWeek cX12_readWeek 3 (none) 7 [.ref (xa X 251)] false o h none hz := by
  unfold X12_readWeek at hF
  refine Sat.mk (own := RX12) rfl (by decide +kernel) (Nat.le_of_ble_eq_true rfl) (fun G => ?_)
  refine V.sub (lv2 := [(0, _)]) [0] rfl ?_
  refine V.aload_n 0 dX12_readWeek_0 rfl rfl ?_
  refine V.aload_n 0 dX12_readWeek_1 rfl rfl ?_
  refine V.getR (v := 252) fl_X12_9 sh_251 rfl fx_251_1 (by decide) dX12_readWeek_2 ?_
  refine V.iconst (v := 0) dX12_readWeek_5 rfl ?_
  refine V.aload_n 0 dX12_readWeek_6 rfl rfl ?_
  refine V.getI fl_X12_106 sh_251 rfl km_251 dX12_readWeek_7 ?_
  obtain ⟨r85, h87, hc86, hF⟩ := bd_s hF
  refine V.callVv mf_X12_starts ml_X12_204 sh_251 (s_X12_starts io_252 hc86) (by decide) rfl rfl (Nat.le_of_ble_eq_true rfl) dX12_readWeek_10 ?_
  refine V.iconst (v := 0) dX12_readWeek_13 rfl ?_
  refine V.istore_n [(1, _), (0, _)] dX12_readWeek_14 rfl (by decide) rfl ?_
  refine V.iconst (v := 1) dX12_readWeek_15 rfl ?_
  refine V.istore_n [(2, _), (1, _), (0, _)] dX12_readWeek_16 rfl (by decide) rfl ?_
  exact V.sub [2, 1, 0] rfl (v_X12_readWeek_17 n _ _ _ hF)
/-! MonsterCotModel.fault -/
theorem dX12_fault_0 : decode cX12_fault 0 = .ok (.aload_n 0, 1) := by decide +kernel
theorem dX12_fault_1 : decode cX12_fault 1 = .ok (.iconst 0, 1) := by decide +kernel
theorem dX12_fault_2 : decode cX12_fault 2 = .ok (.putfield 93, 3) := by decide +kernel
theorem dX12_fault_5 : decode cX12_fault 5 = .ok (.iload_n 1, 1) := by decide +kernel
theorem dX12_fault_6 : decode cX12_fault 6 = .ok (.i2l, 1) := by decide +kernel
theorem dX12_fault_7 : decode cX12_fault 7 = .ok (.lconst 0, 1) := by decide +kernel
theorem dX12_fault_8 : decode cX12_fault 8 = .ok (.ldc2_w 269, 3) := by decide +kernel
theorem dX12_fault_11 : decode cX12_fault 11 = .ok (.invokestatic 214, 3) := by decide +kernel
theorem dX12_fault_14 : decode cX12_fault 14 = .ok (.ifCond .ne 6, 3) := by decide +kernel
theorem dX12_fault_17 : decode cX12_fault 17 = .ok (.bipush (-2), 2) := by decide +kernel
theorem dX12_fault_19 : decode cX12_fault 19 = .ok (.ireturn, 1) := by decide +kernel
theorem dX12_fault_20 : decode cX12_fault 20 = .ok (.iload_n 1, 1) := by decide +kernel
theorem dX12_fault_21 : decode cX12_fault 21 = .ok (.ifCond .ne 7, 3) := by decide +kernel
theorem dX12_fault_24 : decode cX12_fault 24 = .ok (.aload_n 0, 1) := by decide +kernel
theorem dX12_fault_25 : decode cX12_fault 25 = .ok (.invokevirtual 271, 3) := by decide +kernel
theorem dX12_fault_28 : decode cX12_fault 28 = .ok (.iload_n 1, 1) := by decide +kernel
theorem dX12_fault_29 : decode cX12_fault 29 = .ok (.iconst 1, 1) := by decide +kernel
theorem dX12_fault_30 : decode cX12_fault 30 = .ok (.if_icmp .ne 16, 3) := by decide +kernel
theorem dX12_fault_33 : decode cX12_fault 33 = .ok (.aload_n 0, 1) := by decide +kernel
theorem dX12_fault_34 : decode cX12_fault 34 = .ok (.aload_n 0, 1) := by decide +kernel
theorem dX12_fault_35 : decode cX12_fault 35 = .ok (.getfield 9, 3) := by decide +kernel
theorem dX12_fault_38 : decode cX12_fault 38 = .ok (.iconst 0, 1) := by decide +kernel
theorem dX12_fault_39 : decode cX12_fault 39 = .ok (.aload_n 0, 1) := by decide +kernel
theorem dX12_fault_40 : decode cX12_fault 40 = .ok (.getfield 106, 3) := by decide +kernel
theorem dX12_fault_43 : decode cX12_fault 43 = .ok (.invokevirtual 274, 3) := by decide +kernel
theorem dX12_fault_46 : decode cX12_fault 46 = .ok (.iload_n 1, 1) := by decide +kernel
theorem dX12_fault_47 : decode cX12_fault 47 = .ok (.iconst 2, 1) := by decide +kernel
theorem dX12_fault_48 : decode cX12_fault 48 = .ok (.if_icmp .ne 7, 3) := by decide +kernel
theorem dX12_fault_51 : decode cX12_fault 51 = .ok (.aload_n 0, 1) := by decide +kernel
theorem dX12_fault_52 : decode cX12_fault 52 = .ok (.invokevirtual 277, 3) := by decide +kernel
theorem dX12_fault_55 : decode cX12_fault 55 = .ok (.aload_n 0, 1) := by decide +kernel
theorem dX12_fault_56 : decode cX12_fault 56 = .ok (.getfield 125, 3) := by decide +kernel
theorem dX12_fault_59 : decode cX12_fault 59 = .ok (.ireturn, 1) := by decide +kernel
def X12_fault_55 (n : Nat) (h : Mm) : Option (Int32 × Mm) := (some ((h.1 251 11), h))
set_option maxRecDepth 100000 in
set_option maxHeartbeats 4000000 in
theorem v_X12_fault_55 {X : WX} {G : GX} {o : Mm} {n : Nat} {rv : Int32} {hz : Mm} {h : Mm} (hF : X12_fault_55 n h = some (rv, hz)) : V X G RX12 cX12_fault 2 (some .int) 89 0 0 (QR X G false o (some (.int rv)) hz) false o 55 [(0, .ref (xa X 251))] [] h := by
  unfold X12_fault_55 at hF
  refine V.aload_n 0 dX12_fault_55 rfl rfl ?_
  refine V.getI fl_X12_125 sh_251 rfl km_251 dX12_fault_56 ?_
  cases hF
  exact V.iret dX12_fault_59
def X12_fault_46 (n : Nat) (x1 : Int32) (h : Mm) : Option (Int32 × Mm) := (if x1 = (2 : Int32) then (bd (X12_readWeek n h) (fun _ h33 => (X12_fault_55 n h33))) else (X12_fault_55 n h))
set_option maxRecDepth 100000 in
set_option maxHeartbeats 4000000 in
theorem v_X12_fault_46 {X : WX} {G : GX} {o : Mm} {n : Nat} {rv : Int32} {hz : Mm} {x1 : Int32} {h : Mm} (hF : X12_fault_46 n x1 h = some (rv, hz)) : V X G RX12 cX12_fault 2 (some .int) 89 0 0 (QR X G false o (some (.int rv)) hz) false o 46 [(0, .ref (xa X 251)), (1, .int x1)] [] h := by
  unfold X12_fault_46 at hF
  refine V.iload_n 1 dX12_fault_46 rfl rfl ?_
  refine V.iconst (v := 2) dX12_fault_47 rfl ?_
  refine V.icmp_ne (tgt := 55) dX12_fault_48 rfl (fun c => ?_) (fun c => ?_)
  · replace hF := iq c hF
    exact V.sub [0] rfl (v_X12_fault_55 hF)
  · replace hF := ip c hF
    refine V.aload_n 0 dX12_fault_51 rfl rfl ?_
    obtain ⟨r31, h33, hc32, hF⟩ := bd_s hF
    refine V.callVv mf_X12_readWeek ml_X12_277 sh_251 (s_X12_readWeek hc32) (by decide) rfl rfl (Nat.le_of_ble_eq_true rfl) dX12_fault_52 ?_
    exact V.sub [0] rfl (v_X12_fault_55 hF)
def X12_fault_28 (n : Nat) (x1 : Int32) (h : Mm) : Option (Int32 × Mm) := (if x1 = (1 : Int32) then (bd (X12_goThrough n 252 (0 : Int32) (h.1 251 6) h) (fun _ h36 => (X12_fault_46 n x1 h36))) else (X12_fault_46 n x1 h))
set_option maxRecDepth 100000 in
set_option maxHeartbeats 4000000 in
theorem v_X12_fault_28 {X : WX} {G : GX} {o : Mm} {n : Nat} {rv : Int32} {hz : Mm} {x1 : Int32} {h : Mm} (hF : X12_fault_28 n x1 h = some (rv, hz)) : V X G RX12 cX12_fault 2 (some .int) 89 0 0 (QR X G false o (some (.int rv)) hz) false o 28 [(0, .ref (xa X 251)), (1, .int x1)] [] h := by
  unfold X12_fault_28 at hF
  refine V.iload_n 1 dX12_fault_28 rfl rfl ?_
  refine V.iconst (v := 1) dX12_fault_29 rfl ?_
  refine V.icmp_ne (tgt := 46) dX12_fault_30 rfl (fun c => ?_) (fun c => ?_)
  · replace hF := iq c hF
    exact (v_X12_fault_46 hF)
  · replace hF := ip c hF
    refine V.aload_n 0 dX12_fault_33 rfl rfl ?_
    refine V.aload_n 0 dX12_fault_34 rfl rfl ?_
    refine V.getR (v := 252) fl_X12_9 sh_251 rfl fx_251_1 (by decide) dX12_fault_35 ?_
    refine V.iconst (v := 0) dX12_fault_38 rfl ?_
    refine V.aload_n 0 dX12_fault_39 rfl rfl ?_
    refine V.getI fl_X12_106 sh_251 rfl km_251 dX12_fault_40 ?_
    obtain ⟨r34, h36, hc35, hF⟩ := bd_s hF
    refine V.callVv mf_X12_goThrough ml_X12_274 sh_251 (s_X12_goThrough io_252 hc35) (by decide) rfl rfl (Nat.le_of_ble_eq_true rfl) dX12_fault_43 ?_
    exact (v_X12_fault_46 hF)
def X12_fault (n : Nat) (x1 : Int32) (h : Mm) : Option (Int32 × Mm) := (bp (X12_isIn x1.toInt64 (0 : Int64) (2 : Int64) (wI h 251 0 (0 : Int32))) (fun r37 => (if r37 = true then (if x1 = 0 then (bd (X12_readLanding n (wI h 251 0 (0 : Int32))) (fun _ h41 => (X12_fault_28 n x1 h41))) else (X12_fault_28 n x1 (wI h 251 0 (0 : Int32)))) else (some ((-2 : Int32), (wI h 251 0 (0 : Int32)))))))
set_option maxRecDepth 100000 in
set_option maxHeartbeats 4000000 in
theorem s_X12_fault {X : WX} {o : Mm} {n : Nat} {x1 : Int32} {rv : Int32} {hz : Mm} {h : Mm} (hF : X12_fault n x1 h = some (rv, hz)) : Sat X yX12_fault cX12_fault 2 (some .int) 89 [.ref (xa X 251), .int x1] false o h (some (.int rv)) hz := by
  unfold X12_fault at hF
  refine Sat.mk (own := RX12) rfl (by decide +kernel) (Nat.le_of_ble_eq_true rfl) (fun G => ?_)
  refine V.sub (lv2 := [(0, _), (1, _)]) [0, 1] rfl ?_
  refine V.aload_n 0 dX12_fault_0 rfl rfl ?_
  refine V.iconst (v := 0) dX12_fault_1 rfl ?_
  refine V.putI fl_X12_93 rfl (tyX12_ok 0 (by decide)) rfl rfl sh_251 rfl km_251 dX12_fault_2 ?_
  refine V.iload_n 1 dX12_fault_5 rfl rfl ?_
  refine V.i2l dX12_fault_6 ?_
  refine V.lconst (v := 0) dX12_fault_7 rfl ?_
  refine V.ldc2 (v := 2) dX12_fault_8 kc_X12_269 ?_
  obtain ⟨r37, hc38, hF⟩ := bp_s hF
  refine V.callSi mf_X12_isIn ml_X12_214 (s_X12_isIn hc38) (by decide) rfl rfl (Nat.le_of_ble_eq_true rfl) dX12_fault_11 ?_
  refine V.ifz_ne (tgt := 20) dX12_fault_14 rfl (fun c => ?_) (fun c => ?_)
  · replace hF := ip c hF
    refine V.iload_n 1 dX12_fault_20 rfl rfl ?_
    refine V.if_ne (tgt := 28) dX12_fault_21 rfl (fun c => ?_) (fun c => ?_)
    · replace hF := iq c hF
      exact (v_X12_fault_28 hF)
    · replace hF := ip c hF
      refine V.aload_n 0 dX12_fault_24 rfl rfl ?_
      obtain ⟨r39, h41, hc40, hF⟩ := bd_s hF
      refine V.callVv mf_X12_readLanding ml_X12_271 sh_251 (s_X12_readLanding hc40) (by decide) rfl rfl (Nat.le_of_ble_eq_true rfl) dX12_fault_25 ?_
      exact (v_X12_fault_28 hF)
  · replace hF := iq c hF
    refine V.bipush (v := -2) dX12_fault_17 (by decide) ?_
    cases hF
    exact V.iret dX12_fault_19
/-! MonsterCotModel.text -/
theorem dX12_text_0 : decode cX12_text 0 = .ok (.aload_n 0, 1) := by decide +kernel
theorem dX12_text_1 : decode cX12_text 1 = .ok (.iconst 0, 1) := by decide +kernel
theorem dX12_text_2 : decode cX12_text 2 = .ok (.putfield 93, 3) := by decide +kernel
theorem dX12_text_5 : decode cX12_text 5 = .ok (.iload_n 1, 1) := by decide +kernel
theorem dX12_text_6 : decode cX12_text 6 = .ok (.i2l, 1) := by decide +kernel
theorem dX12_text_7 : decode cX12_text 7 = .ok (.lconst 0, 1) := by decide +kernel
theorem dX12_text_8 : decode cX12_text 8 = .ok (.ldc2_w 269, 3) := by decide +kernel
theorem dX12_text_11 : decode cX12_text 11 = .ok (.invokestatic 214, 3) := by decide +kernel
theorem dX12_text_14 : decode cX12_text 14 = .ok (.ifCond .eq 38, 3) := by decide +kernel
theorem dX12_text_17 : decode cX12_text 17 = .ok (.iload_n 1, 1) := by decide +kernel
theorem dX12_text_18 : decode cX12_text 18 = .ok (.iconst 1, 1) := by decide +kernel
theorem dX12_text_19 : decode cX12_text 19 = .ok (.if_icmp .ne 11, 3) := by decide +kernel
theorem dX12_text_22 : decode cX12_text 22 = .ok (.aload_n 0, 1) := by decide +kernel
theorem dX12_text_23 : decode cX12_text 23 = .ok (.getfield 280, 3) := by decide +kernel
theorem dX12_text_26 : decode cX12_text 26 = .ok (.iconst 4, 1) := by decide +kernel
theorem dX12_text_27 : decode cX12_text 27 = .ok (.if_icmp .eq 25, 3) := by decide +kernel
theorem dX12_text_30 : decode cX12_text 30 = .ok (.iload_n 1, 1) := by decide +kernel
theorem dX12_text_31 : decode cX12_text 31 = .ok (.iconst 2, 1) := by decide +kernel
theorem dX12_text_32 : decode cX12_text 32 = .ok (.if_icmp .ne 11, 3) := by decide +kernel
theorem dX12_text_35 : decode cX12_text 35 = .ok (.aload_n 0, 1) := by decide +kernel
theorem dX12_text_36 : decode cX12_text 36 = .ok (.getfield 283, 3) := by decide +kernel
theorem dX12_text_39 : decode cX12_text 39 = .ok (.iconst 4, 1) := by decide +kernel
theorem dX12_text_40 : decode cX12_text 40 = .ok (.if_icmp .eq 12, 3) := by decide +kernel
theorem dX12_text_43 : decode cX12_text 43 = .ok (.aload_n 0, 1) := by decide +kernel
theorem dX12_text_44 : decode cX12_text 44 = .ok (.iload_n 1, 1) := by decide +kernel
theorem dX12_text_45 : decode cX12_text 45 = .ok (.invokevirtual 286, 3) := by decide +kernel
theorem dX12_text_48 : decode cX12_text 48 = .ok (.iconst (-1), 1) := by decide +kernel
theorem dX12_text_49 : decode cX12_text 49 = .ok (.if_icmp .eq 5, 3) := by decide +kernel
theorem dX12_text_52 : decode cX12_text 52 = .ok (.iconst (-1), 1) := by decide +kernel
theorem dX12_text_53 : decode cX12_text 53 = .ok (.ireturn, 1) := by decide +kernel
theorem dX12_text_54 : decode cX12_text 54 = .ok (.aload_n 0, 1) := by decide +kernel
theorem dX12_text_55 : decode cX12_text 55 = .ok (.getfield 106, 3) := by decide +kernel
theorem dX12_text_58 : decode cX12_text 58 = .ok (.istore_n 2, 1) := by decide +kernel
theorem dX12_text_59 : decode cX12_text 59 = .ok (.aload_n 0, 1) := by decide +kernel
theorem dX12_text_60 : decode cX12_text 60 = .ok (.iconst 0, 1) := by decide +kernel
theorem dX12_text_61 : decode cX12_text 61 = .ok (.putfield 106, 3) := by decide +kernel
theorem dX12_text_64 : decode cX12_text 64 = .ok (.iload_n 1, 1) := by decide +kernel
theorem dX12_text_65 : decode cX12_text 65 = .ok (.iconst 1, 1) := by decide +kernel
theorem dX12_text_66 : decode cX12_text 66 = .ok (.if_icmp .ne 64, 3) := by decide +kernel
theorem dX12_text_69 : decode cX12_text 69 = .ok (.iconst 0, 1) := by decide +kernel
theorem dX12_text_70 : decode cX12_text 70 = .ok (.istore_n 3, 1) := by decide +kernel
theorem dX12_text_71 : decode cX12_text 71 = .ok (.iload_n 3, 1) := by decide +kernel
theorem dX12_text_72 : decode cX12_text 72 = .ok (.iload_n 2, 1) := by decide +kernel
theorem dX12_text_73 : decode cX12_text 73 = .ok (.if_icmp .ge 30, 3) := by decide +kernel
theorem dX12_text_76 : decode cX12_text 76 = .ok (.aload_n 0, 1) := by decide +kernel
theorem dX12_text_77 : decode cX12_text 77 = .ok (.getfield 13, 3) := by decide +kernel
theorem dX12_text_80 : decode cX12_text 80 = .ok (.sipush 240, 3) := by decide +kernel
theorem dX12_text_83 : decode cX12_text 83 = .ok (.aload_n 0, 1) := by decide +kernel
theorem dX12_text_84 : decode cX12_text 84 = .ok (.getfield 280, 3) := by decide +kernel
theorem dX12_text_87 : decode cX12_text 87 = .ok (.imul, 1) := by decide +kernel
theorem dX12_text_88 : decode cX12_text 88 = .ok (.iload_n 3, 1) := by decide +kernel
theorem dX12_text_89 : decode cX12_text 89 = .ok (.iadd, 1) := by decide +kernel
theorem dX12_text_90 : decode cX12_text 90 = .ok (.aload_n 0, 1) := by decide +kernel
theorem dX12_text_91 : decode cX12_text 91 = .ok (.getfield 9, 3) := by decide +kernel
theorem dX12_text_94 : decode cX12_text 94 = .ok (.iload_n 3, 1) := by decide +kernel
theorem dX12_text_95 : decode cX12_text 95 = .ok (.baload, 1) := by decide +kernel
theorem dX12_text_96 : decode cX12_text 96 = .ok (.bastore, 1) := by decide +kernel
theorem dX12_text_97 : decode cX12_text 97 = .ok (.iinc 3 1, 3) := by decide +kernel
theorem dX12_text_100 : decode cX12_text 100 = .ok (.goto (-29), 3) := by decide +kernel
theorem dX12_text_103 : decode cX12_text 103 = .ok (.aload_n 0, 1) := by decide +kernel
theorem dX12_text_104 : decode cX12_text 104 = .ok (.getfield 16, 3) := by decide +kernel
theorem dX12_text_107 : decode cX12_text 107 = .ok (.aload_n 0, 1) := by decide +kernel
theorem dX12_text_108 : decode cX12_text 108 = .ok (.getfield 280, 3) := by decide +kernel
theorem dX12_text_111 : decode cX12_text 111 = .ok (.iload_n 2, 1) := by decide +kernel
theorem dX12_text_112 : decode cX12_text 112 = .ok (.iastore, 1) := by decide +kernel
theorem dX12_text_113 : decode cX12_text 113 = .ok (.aload_n 0, 1) := by decide +kernel
theorem dX12_text_114 : decode cX12_text 114 = .ok (.dup, 1) := by decide +kernel
theorem dX12_text_115 : decode cX12_text 115 = .ok (.getfield 280, 3) := by decide +kernel
theorem dX12_text_118 : decode cX12_text 118 = .ok (.iconst 1, 1) := by decide +kernel
theorem dX12_text_119 : decode cX12_text 119 = .ok (.iadd, 1) := by decide +kernel
theorem dX12_text_120 : decode cX12_text 120 = .ok (.putfield 280, 3) := by decide +kernel
theorem dX12_text_123 : decode cX12_text 123 = .ok (.aload_n 0, 1) := by decide +kernel
theorem dX12_text_124 : decode cX12_text 124 = .ok (.getfield 280, 3) := by decide +kernel
theorem dX12_text_127 : decode cX12_text 127 = .ok (.iconst 1, 1) := by decide +kernel
theorem dX12_text_128 : decode cX12_text 128 = .ok (.isub, 1) := by decide +kernel
theorem dX12_text_129 : decode cX12_text 129 = .ok (.ireturn, 1) := by decide +kernel
theorem dX12_text_130 : decode cX12_text 130 = .ok (.iload_n 1, 1) := by decide +kernel
theorem dX12_text_131 : decode cX12_text 131 = .ok (.iconst 2, 1) := by decide +kernel
theorem dX12_text_132 : decode cX12_text 132 = .ok (.if_icmp .ne 73, 3) := by decide +kernel
theorem dX12_text_135 : decode cX12_text 135 = .ok (.iconst 0, 1) := by decide +kernel
theorem dX12_text_136 : decode cX12_text 136 = .ok (.istore_n 3, 1) := by decide +kernel
theorem dX12_text_137 : decode cX12_text 137 = .ok (.iload_n 3, 1) := by decide +kernel
theorem dX12_text_138 : decode cX12_text 138 = .ok (.bipush 48, 2) := by decide +kernel
theorem dX12_text_140 : decode cX12_text 140 = .ok (.if_icmp .ge 33, 3) := by decide +kernel
theorem dX12_text_143 : decode cX12_text 143 = .ok (.aload_n 0, 1) := by decide +kernel
theorem dX12_text_144 : decode cX12_text 144 = .ok (.getfield 55, 3) := by decide +kernel
theorem dX12_text_147 : decode cX12_text 147 = .ok (.bipush 48, 2) := by decide +kernel
theorem dX12_text_149 : decode cX12_text 149 = .ok (.aload_n 0, 1) := by decide +kernel
theorem dX12_text_150 : decode cX12_text 150 = .ok (.getfield 283, 3) := by decide +kernel
theorem dX12_text_153 : decode cX12_text 153 = .ok (.imul, 1) := by decide +kernel
theorem dX12_text_154 : decode cX12_text 154 = .ok (.iload_n 3, 1) := by decide +kernel
theorem dX12_text_155 : decode cX12_text 155 = .ok (.iadd, 1) := by decide +kernel
theorem dX12_text_156 : decode cX12_text 156 = .ok (.aload_n 0, 1) := by decide +kernel
theorem dX12_text_157 : decode cX12_text 157 = .ok (.getfield 55, 3) := by decide +kernel
theorem dX12_text_160 : decode cX12_text 160 = .ok (.sipush 192, 3) := by decide +kernel
theorem dX12_text_163 : decode cX12_text 163 = .ok (.iload_n 3, 1) := by decide +kernel
theorem dX12_text_164 : decode cX12_text 164 = .ok (.iadd, 1) := by decide +kernel
theorem dX12_text_165 : decode cX12_text 165 = .ok (.iaload, 1) := by decide +kernel
theorem dX12_text_166 : decode cX12_text 166 = .ok (.iastore, 1) := by decide +kernel
theorem dX12_text_167 : decode cX12_text 167 = .ok (.iinc 3 1, 3) := by decide +kernel
theorem dX12_text_170 : decode cX12_text 170 = .ok (.goto (-33), 3) := by decide +kernel
theorem dX12_text_173 : decode cX12_text 173 = .ok (.aload_n 0, 1) := by decide +kernel
theorem dX12_text_174 : decode cX12_text 174 = .ok (.getfield 58, 3) := by decide +kernel
theorem dX12_text_177 : decode cX12_text 177 = .ok (.aload_n 0, 1) := by decide +kernel
theorem dX12_text_178 : decode cX12_text 178 = .ok (.getfield 283, 3) := by decide +kernel
theorem dX12_text_181 : decode cX12_text 181 = .ok (.aload_n 0, 1) := by decide +kernel
theorem dX12_text_182 : decode cX12_text 182 = .ok (.getfield 58, 3) := by decide +kernel
theorem dX12_text_185 : decode cX12_text 185 = .ok (.iconst 4, 1) := by decide +kernel
theorem dX12_text_186 : decode cX12_text 186 = .ok (.iaload, 1) := by decide +kernel
theorem dX12_text_187 : decode cX12_text 187 = .ok (.iastore, 1) := by decide +kernel
theorem dX12_text_188 : decode cX12_text 188 = .ok (.aload_n 0, 1) := by decide +kernel
theorem dX12_text_189 : decode cX12_text 189 = .ok (.dup, 1) := by decide +kernel
theorem dX12_text_190 : decode cX12_text 190 = .ok (.getfield 283, 3) := by decide +kernel
theorem dX12_text_193 : decode cX12_text 193 = .ok (.iconst 1, 1) := by decide +kernel
theorem dX12_text_194 : decode cX12_text 194 = .ok (.iadd, 1) := by decide +kernel
theorem dX12_text_195 : decode cX12_text 195 = .ok (.putfield 283, 3) := by decide +kernel
theorem dX12_text_198 : decode cX12_text 198 = .ok (.aload_n 0, 1) := by decide +kernel
theorem dX12_text_199 : decode cX12_text 199 = .ok (.getfield 283, 3) := by decide +kernel
theorem dX12_text_202 : decode cX12_text 202 = .ok (.iconst 1, 1) := by decide +kernel
theorem dX12_text_203 : decode cX12_text 203 = .ok (.isub, 1) := by decide +kernel
theorem dX12_text_204 : decode cX12_text 204 = .ok (.ireturn, 1) := by decide +kernel
theorem dX12_text_205 : decode cX12_text 205 = .ok (.aload_n 0, 1) := by decide +kernel
theorem dX12_text_206 : decode cX12_text 206 = .ok (.aload_n 0, 1) := by decide +kernel
theorem dX12_text_207 : decode cX12_text 207 = .ok (.getfield 242, 3) := by decide +kernel
theorem dX12_text_210 : decode cX12_text 210 = .ok (.putfield 288, 3) := by decide +kernel
theorem dX12_text_213 : decode cX12_text 213 = .ok (.aload_n 0, 1) := by decide +kernel
theorem dX12_text_214 : decode cX12_text 214 = .ok (.aload_n 0, 1) := by decide +kernel
theorem dX12_text_215 : decode cX12_text 215 = .ok (.getfield 245, 3) := by decide +kernel
theorem dX12_text_218 : decode cX12_text 218 = .ok (.putfield 291, 3) := by decide +kernel
theorem dX12_text_221 : decode cX12_text 221 = .ok (.iconst 0, 1) := by decide +kernel
theorem dX12_text_222 : decode cX12_text 222 = .ok (.istore_n 3, 1) := by decide +kernel
theorem dX12_text_223 : decode cX12_text 223 = .ok (.iload_n 3, 1) := by decide +kernel
theorem dX12_text_224 : decode cX12_text 224 = .ok (.iconst 3, 1) := by decide +kernel
theorem dX12_text_225 : decode cX12_text 225 = .ok (.if_icmp .ge 21, 3) := by decide +kernel
theorem dX12_text_228 : decode cX12_text 228 = .ok (.aload_n 0, 1) := by decide +kernel
theorem dX12_text_229 : decode cX12_text 229 = .ok (.getfield 37, 3) := by decide +kernel
theorem dX12_text_232 : decode cX12_text 232 = .ok (.iload_n 3, 1) := by decide +kernel
theorem dX12_text_233 : decode cX12_text 233 = .ok (.aload_n 0, 1) := by decide +kernel
theorem dX12_text_234 : decode cX12_text 234 = .ok (.getfield 40, 3) := by decide +kernel
theorem dX12_text_237 : decode cX12_text 237 = .ok (.iload_n 3, 1) := by decide +kernel
theorem dX12_text_238 : decode cX12_text 238 = .ok (.iaload, 1) := by decide +kernel
theorem dX12_text_239 : decode cX12_text 239 = .ok (.iastore, 1) := by decide +kernel
theorem dX12_text_240 : decode cX12_text 240 = .ok (.iinc 3 1, 3) := by decide +kernel
theorem dX12_text_243 : decode cX12_text 243 = .ok (.goto (-20), 3) := by decide +kernel
theorem dX12_text_246 : decode cX12_text 246 = .ok (.iconst 0, 1) := by decide +kernel
theorem dX12_text_247 : decode cX12_text 247 = .ok (.istore_n 3, 1) := by decide +kernel
theorem dX12_text_248 : decode cX12_text 248 = .ok (.iload_n 3, 1) := by decide +kernel
theorem dX12_text_249 : decode cX12_text 249 = .ok (.bipush 18, 2) := by decide +kernel
theorem dX12_text_251 : decode cX12_text 251 = .ok (.if_icmp .ge 21, 3) := by decide +kernel
theorem dX12_text_254 : decode cX12_text 254 = .ok (.aload_n 0, 1) := by decide +kernel
theorem dX12_text_255 : decode cX12_text 255 = .ok (.getfield 43, 3) := by decide +kernel
theorem dX12_text_258 : decode cX12_text 258 = .ok (.iload_n 3, 1) := by decide +kernel
theorem dX12_text_259 : decode cX12_text 259 = .ok (.aload_n 0, 1) := by decide +kernel
theorem dX12_text_260 : decode cX12_text 260 = .ok (.getfield 46, 3) := by decide +kernel
theorem dX12_text_263 : decode cX12_text 263 = .ok (.iload_n 3, 1) := by decide +kernel
theorem dX12_text_264 : decode cX12_text 264 = .ok (.iaload, 1) := by decide +kernel
theorem dX12_text_265 : decode cX12_text 265 = .ok (.iastore, 1) := by decide +kernel
theorem dX12_text_266 : decode cX12_text 266 = .ok (.iinc 3 1, 3) := by decide +kernel
theorem dX12_text_269 : decode cX12_text 269 = .ok (.goto (-21), 3) := by decide +kernel
theorem dX12_text_272 : decode cX12_text 272 = .ok (.iconst 0, 1) := by decide +kernel
theorem dX12_text_273 : decode cX12_text 273 = .ok (.istore_n 3, 1) := by decide +kernel
theorem dX12_text_274 : decode cX12_text 274 = .ok (.iload_n 3, 1) := by decide +kernel
theorem dX12_text_275 : decode cX12_text 275 = .ok (.bipush 18, 2) := by decide +kernel
theorem dX12_text_277 : decode cX12_text 277 = .ok (.if_icmp .ge 21, 3) := by decide +kernel
theorem dX12_text_280 : decode cX12_text 280 = .ok (.aload_n 0, 1) := by decide +kernel
theorem dX12_text_281 : decode cX12_text 281 = .ok (.getfield 49, 3) := by decide +kernel
theorem dX12_text_284 : decode cX12_text 284 = .ok (.iload_n 3, 1) := by decide +kernel
theorem dX12_text_285 : decode cX12_text 285 = .ok (.aload_n 0, 1) := by decide +kernel
theorem dX12_text_286 : decode cX12_text 286 = .ok (.getfield 52, 3) := by decide +kernel
theorem dX12_text_289 : decode cX12_text 289 = .ok (.iload_n 3, 1) := by decide +kernel
theorem dX12_text_290 : decode cX12_text 290 = .ok (.iaload, 1) := by decide +kernel
theorem dX12_text_291 : decode cX12_text 291 = .ok (.iastore, 1) := by decide +kernel
theorem dX12_text_292 : decode cX12_text 292 = .ok (.iinc 3 1, 3) := by decide +kernel
theorem dX12_text_295 : decode cX12_text 295 = .ok (.goto (-21), 3) := by decide +kernel
theorem dX12_text_298 : decode cX12_text 298 = .ok (.iconst 0, 1) := by decide +kernel
theorem dX12_text_299 : decode cX12_text 299 = .ok (.istore_n 3, 1) := by decide +kernel
theorem dX12_text_300 : decode cX12_text 300 = .ok (.iload_n 3, 1) := by decide +kernel
theorem dX12_text_301 : decode cX12_text 301 = .ok (.sipush 211, 3) := by decide +kernel
theorem dX12_text_304 : decode cX12_text 304 = .ok (.if_icmp .ge 16, 3) := by decide +kernel
theorem dX12_text_307 : decode cX12_text 307 = .ok (.aload_n 0, 1) := by decide +kernel
theorem dX12_text_308 : decode cX12_text 308 = .ok (.getfield 61, 3) := by decide +kernel
theorem dX12_text_311 : decode cX12_text 311 = .ok (.iload_n 3, 1) := by decide +kernel
theorem dX12_text_312 : decode cX12_text 312 = .ok (.iconst 0, 1) := by decide +kernel
theorem dX12_text_313 : decode cX12_text 313 = .ok (.iastore, 1) := by decide +kernel
theorem dX12_text_314 : decode cX12_text 314 = .ok (.iinc 3 1, 3) := by decide +kernel
theorem dX12_text_317 : decode cX12_text 317 = .ok (.goto (-17), 3) := by decide +kernel
theorem dX12_text_320 : decode cX12_text 320 = .ok (.iconst 0, 1) := by decide +kernel
theorem dX12_text_321 : decode cX12_text 321 = .ok (.istore_n 3, 1) := by decide +kernel
theorem dX12_text_322 : decode cX12_text 322 = .ok (.iload_n 3, 1) := by decide +kernel
theorem dX12_text_323 : decode cX12_text 323 = .ok (.aload_n 0, 1) := by decide +kernel
theorem dX12_text_324 : decode cX12_text 324 = .ok (.getfield 291, 3) := by decide +kernel
theorem dX12_text_327 : decode cX12_text 327 = .ok (.if_icmp .ge 29, 3) := by decide +kernel
theorem dX12_text_330 : decode cX12_text 330 = .ok (.aload_n 0, 1) := by decide +kernel
theorem dX12_text_331 : decode cX12_text 331 = .ok (.getfield 61, 3) := by decide +kernel
theorem dX12_text_334 : decode cX12_text 334 = .ok (.iconst 3, 1) := by decide +kernel
theorem dX12_text_335 : decode cX12_text 335 = .ok (.iload_n 3, 1) := by decide +kernel
theorem dX12_text_336 : decode cX12_text 336 = .ok (.imul, 1) := by decide +kernel
theorem dX12_text_337 : decode cX12_text 337 = .ok (.iconst 1, 1) := by decide +kernel
theorem dX12_text_338 : decode cX12_text 338 = .ok (.iadd, 1) := by decide +kernel
theorem dX12_text_339 : decode cX12_text 339 = .ok (.aload_n 0, 1) := by decide +kernel
theorem dX12_text_340 : decode cX12_text 340 = .ok (.getfield 49, 3) := by decide +kernel
theorem dX12_text_343 : decode cX12_text 343 = .ok (.iconst 3, 1) := by decide +kernel
theorem dX12_text_344 : decode cX12_text 344 = .ok (.iload_n 3, 1) := by decide +kernel
theorem dX12_text_345 : decode cX12_text 345 = .ok (.imul, 1) := by decide +kernel
theorem dX12_text_346 : decode cX12_text 346 = .ok (.iconst 2, 1) := by decide +kernel
theorem dX12_text_347 : decode cX12_text 347 = .ok (.iadd, 1) := by decide +kernel
theorem dX12_text_348 : decode cX12_text 348 = .ok (.iaload, 1) := by decide +kernel
theorem dX12_text_349 : decode cX12_text 349 = .ok (.iastore, 1) := by decide +kernel
theorem dX12_text_350 : decode cX12_text 350 = .ok (.iinc 3 1, 3) := by decide +kernel
theorem dX12_text_353 : decode cX12_text 353 = .ok (.goto (-31), 3) := by decide +kernel
theorem dX12_text_356 : decode cX12_text 356 = .ok (.aload_n 0, 1) := by decide +kernel
theorem dX12_text_357 : decode cX12_text 357 = .ok (.getfield 61, 3) := by decide +kernel
theorem dX12_text_360 : decode cX12_text 360 = .ok (.bipush 22, 2) := by decide +kernel
theorem dX12_text_362 : decode cX12_text 362 = .ok (.aload_n 0, 1) := by decide +kernel
theorem dX12_text_363 : decode cX12_text 363 = .ok (.getfield 37, 3) := by decide +kernel
theorem dX12_text_366 : decode cX12_text 366 = .ok (.iconst 0, 1) := by decide +kernel
theorem dX12_text_367 : decode cX12_text 367 = .ok (.iaload, 1) := by decide +kernel
theorem dX12_text_368 : decode cX12_text 368 = .ok (.iastore, 1) := by decide +kernel
theorem dX12_text_369 : decode cX12_text 369 = .ok (.aload_n 0, 1) := by decide +kernel
theorem dX12_text_370 : decode cX12_text 370 = .ok (.iconst 0, 1) := by decide +kernel
theorem dX12_text_371 : decode cX12_text 371 = .ok (.putfield 294, 3) := by decide +kernel
theorem dX12_text_374 : decode cX12_text 374 = .ok (.aload_n 0, 1) := by decide +kernel
theorem dX12_text_375 : decode cX12_text 375 = .ok (.iconst 0, 1) := by decide +kernel
theorem dX12_text_376 : decode cX12_text 376 = .ok (.putfield 297, 3) := by decide +kernel
theorem dX12_text_379 : decode cX12_text 379 = .ok (.aload_n 0, 1) := by decide +kernel
theorem dX12_text_380 : decode cX12_text 380 = .ok (.iconst 0, 1) := by decide +kernel
theorem dX12_text_381 : decode cX12_text 381 = .ok (.putfield 300, 3) := by decide +kernel
theorem dX12_text_384 : decode cX12_text 384 = .ok (.aload_n 0, 1) := by decide +kernel
theorem dX12_text_385 : decode cX12_text 385 = .ok (.getfield 291, 3) := by decide +kernel
theorem dX12_text_388 : decode cX12_text 388 = .ok (.ireturn, 1) := by decide +kernel
def X12_text_71 (n : Nat) : Nat → Int32 → Int32 → Mm → Option (Int32 × Mm)
  | 0, _, _, _ => none
  | f + 1, x2, x3, h => (if x2 ≤ x3 then (if inB (h.1 251 7) (aln 254) then (some ((((wI (wI h 254 (h.1 251 7).toNatClampNeg x2) 251 7 (((wI h 254 (h.1 251 7).toNatClampNeg x2).1 251 7) + (1 : Int32))).1 251 7) - (1 : Int32)), (wI (wI h 254 (h.1 251 7).toNatClampNeg x2) 251 7 (((wI h 254 (h.1 251 7).toNatClampNeg x2).1 251 7) + (1 : Int32))))) else none) else (if inB x3 (aln 252) then (if inB (((240 : Int32) * (h.1 251 7)) + x3) (aln 253) then ((X12_text_71 n f) x2 (x3 + (1)) (wI h 253 (((240 : Int32) * (h.1 251 7)) + x3).toNatClampNeg (vp_nar .byte (h.1 252 x3.toNatClampNeg)))) else none) else none))
set_option maxRecDepth 100000 in
set_option maxHeartbeats 4000000 in
theorem v_X12_text_71 {X : WX} {G : GX} {o : Mm} {n : Nat} {rv : Int32} {hz : Mm} : ∀ (f : Nat) (x2 : Int32) (x3 : Int32) (h : Mm), X12_text_71 n f x2 x3 h = some (rv, hz) → V X G RX12 cX12_text 4 (some .int) 90 0 0 (QR X G false o (some (.int rv)) hz) false o 71 [(0, .ref (xa X 251)), (2, .int x2), (3, .int x3)] [] h := by
  intro f
  induction f with
  | zero => intro x2 x3 h hF; exact nomatch (show (none : Option (Int32 × Mm)) = some (rv, hz) from hF)
  | succ f ih =>
    intro x2 x3 h hF
    unfold X12_text_71 at hF
    refine V.iload_n 2 dX12_text_71 rfl rfl ?_
    refine V.iload_n 1 dX12_text_72 rfl rfl ?_
    refine V.icmp_ge (tgt := 103) dX12_text_73 rfl (fun c => ?_) (fun c => ?_)
    · replace hF := ip c hF
      refine V.aload_n 0 dX12_text_103 rfl rfl ?_
      refine V.getR (v := 254) fl_X12_16 sh_251 rfl fx_251_3 (by decide) dX12_text_104 ?_
      refine V.aload_n 0 dX12_text_107 rfl rfl ?_
      refine V.getI fl_X12_280 sh_251 rfl km_251 dX12_text_108 ?_
      refine V.iload_n 1 dX12_text_111 rfl rfl ?_
      obtain ⟨hk, hF⟩ := ck hF
      refine V.iast io_254 hk dX12_text_112 ?_
      refine V.aload_n 0 dX12_text_113 rfl rfl ?_
      refine V.dup dX12_text_114 rfl ?_
      refine V.getI fl_X12_280 sh_251 rfl km_251 dX12_text_115 ?_
      refine V.iconst (v := 1) dX12_text_118 rfl ?_
      refine V.iadd dX12_text_119 ?_
      refine V.putI fl_X12_280 rfl (tyX12_ok 7 (by decide)) rfl rfl sh_251 rfl km_251 dX12_text_120 ?_
      refine V.aload_n 0 dX12_text_123 rfl rfl ?_
      refine V.getI fl_X12_280 sh_251 rfl km_251 dX12_text_124 ?_
      refine V.iconst (v := 1) dX12_text_127 rfl ?_
      refine V.isub dX12_text_128 ?_
      cases hF
      exact V.iret dX12_text_129
    · replace hF := iq c hF
      refine V.aload_n 0 dX12_text_76 rfl rfl ?_
      refine V.getR (v := 253) fl_X12_13 sh_251 rfl fx_251_2 (by decide) dX12_text_77 ?_
      refine V.sipush (v := 240) dX12_text_80 (by decide) ?_
      refine V.aload_n 0 dX12_text_83 rfl rfl ?_
      refine V.getI fl_X12_280 sh_251 rfl km_251 dX12_text_84 ?_
      refine V.imul dX12_text_87 ?_
      refine V.iload_n 2 dX12_text_88 rfl rfl ?_
      refine V.iadd dX12_text_89 ?_
      refine V.aload_n 0 dX12_text_90 rfl rfl ?_
      refine V.getR (v := 252) fl_X12_9 sh_251 rfl fx_251_1 (by decide) dX12_text_91 ?_
      refine V.iload_n 2 dX12_text_94 rfl rfl ?_
      obtain ⟨hk, hF⟩ := ck hF
      refine V.bald io_252 hk dX12_text_95 ?_
      obtain ⟨hk, hF⟩ := ck hF
      refine V.bast io_253 hk dX12_text_96 ?_
      refine V.iinc (v := (x3 + (1))) 2 [(3, _), (0, _), (2, _)] dX12_text_97 rfl rfl (by decide) rfl ?_
      refine V.goto (tgt := 71) dX12_text_100 rfl ?_
      exact V.sub [1, 2, 0] rfl (ih _ _ _ hF)
def X12_text_137 (n : Nat) : Nat → Int32 → Mm → Option (Int32 × Mm)
  | 0, _, _ => none
  | f + 1, x3, h => (if (48 : Int32) ≤ x3 then (if inB (4 : Int32) (aln 263) then (if inB (h.1 251 30) (aln 263) then (some ((((wI (wI h 263 (h.1 251 30).toNatClampNeg (h.1 263 (4 : Int32).toNatClampNeg)) 251 30 (((wI h 263 (h.1 251 30).toNatClampNeg (h.1 263 (4 : Int32).toNatClampNeg)).1 251 30) + (1 : Int32))).1 251 30) - (1 : Int32)), (wI (wI h 263 (h.1 251 30).toNatClampNeg (h.1 263 (4 : Int32).toNatClampNeg)) 251 30 (((wI h 263 (h.1 251 30).toNatClampNeg (h.1 263 (4 : Int32).toNatClampNeg)).1 251 30) + (1 : Int32))))) else none) else none) else (if inB ((192 : Int32) + x3) (aln 262) then (if inB (((48 : Int32) * (h.1 251 30)) + x3) (aln 262) then ((X12_text_137 n f) (x3 + (1)) (wI h 262 (((48 : Int32) * (h.1 251 30)) + x3).toNatClampNeg (h.1 262 ((192 : Int32) + x3).toNatClampNeg))) else none) else none))
set_option maxRecDepth 100000 in
set_option maxHeartbeats 4000000 in
theorem v_X12_text_137 {X : WX} {G : GX} {o : Mm} {n : Nat} {rv : Int32} {hz : Mm} : ∀ (f : Nat) (x3 : Int32) (h : Mm), X12_text_137 n f x3 h = some (rv, hz) → V X G RX12 cX12_text 4 (some .int) 90 0 0 (QR X G false o (some (.int rv)) hz) false o 137 [(0, .ref (xa X 251)), (3, .int x3)] [] h := by
  intro f
  induction f with
  | zero => intro x3 h hF; exact nomatch (show (none : Option (Int32 × Mm)) = some (rv, hz) from hF)
  | succ f ih =>
    intro x3 h hF
    unfold X12_text_137 at hF
    refine V.iload_n 1 dX12_text_137 rfl rfl ?_
    refine V.bipush (v := 48) dX12_text_138 (by decide) ?_
    refine V.icmp_ge (tgt := 173) dX12_text_140 rfl (fun c => ?_) (fun c => ?_)
    · replace hF := ip c hF
      refine V.aload_n 0 dX12_text_173 rfl rfl ?_
      refine V.getR (v := 263) fl_X12_58 sh_251 rfl fx_251_25 (by decide) dX12_text_174 ?_
      refine V.aload_n 0 dX12_text_177 rfl rfl ?_
      refine V.getI fl_X12_283 sh_251 rfl km_251 dX12_text_178 ?_
      refine V.aload_n 0 dX12_text_181 rfl rfl ?_
      refine V.getR (v := 263) fl_X12_58 sh_251 rfl fx_251_25 (by decide) dX12_text_182 ?_
      refine V.iconst (v := 4) dX12_text_185 rfl ?_
      obtain ⟨hk, hF⟩ := ck hF
      refine V.iald io_263 hk dX12_text_186 ?_
      obtain ⟨hk, hF⟩ := ck hF
      refine V.iast io_263 hk dX12_text_187 ?_
      refine V.aload_n 0 dX12_text_188 rfl rfl ?_
      refine V.dup dX12_text_189 rfl ?_
      refine V.getI fl_X12_283 sh_251 rfl km_251 dX12_text_190 ?_
      refine V.iconst (v := 1) dX12_text_193 rfl ?_
      refine V.iadd dX12_text_194 ?_
      refine V.putI fl_X12_283 rfl (tyX12_ok 30 (by decide)) rfl rfl sh_251 rfl km_251 dX12_text_195 ?_
      refine V.aload_n 0 dX12_text_198 rfl rfl ?_
      refine V.getI fl_X12_283 sh_251 rfl km_251 dX12_text_199 ?_
      refine V.iconst (v := 1) dX12_text_202 rfl ?_
      refine V.isub dX12_text_203 ?_
      cases hF
      exact V.iret dX12_text_204
    · replace hF := iq c hF
      refine V.aload_n 0 dX12_text_143 rfl rfl ?_
      refine V.getR (v := 262) fl_X12_55 sh_251 rfl fx_251_24 (by decide) dX12_text_144 ?_
      refine V.bipush (v := 48) dX12_text_147 (by decide) ?_
      refine V.aload_n 0 dX12_text_149 rfl rfl ?_
      refine V.getI fl_X12_283 sh_251 rfl km_251 dX12_text_150 ?_
      refine V.imul dX12_text_153 ?_
      refine V.iload_n 1 dX12_text_154 rfl rfl ?_
      refine V.iadd dX12_text_155 ?_
      refine V.aload_n 0 dX12_text_156 rfl rfl ?_
      refine V.getR (v := 262) fl_X12_55 sh_251 rfl fx_251_24 (by decide) dX12_text_157 ?_
      refine V.sipush (v := 192) dX12_text_160 (by decide) ?_
      refine V.iload_n 1 dX12_text_163 rfl rfl ?_
      refine V.iadd dX12_text_164 ?_
      obtain ⟨hk, hF⟩ := ck hF
      refine V.iald io_262 hk dX12_text_165 ?_
      obtain ⟨hk, hF⟩ := ck hF
      refine V.iast io_262 hk dX12_text_166 ?_
      refine V.iinc (v := (x3 + (1))) 1 [(3, _), (0, _)] dX12_text_167 rfl rfl (by decide) rfl ?_
      refine V.goto (tgt := 137) dX12_text_170 rfl ?_
      exact V.sub [1, 0] rfl (ih _ _ hF)
def X12_text_322 (n : Nat) : Nat → Int32 → Mm → Option (Int32 × Mm)
  | 0, _, _ => none
  | f + 1, x3, h => (if (h.1 251 27) ≤ x3 then (if inB (0 : Int32) (aln 256) then (if inB (22 : Int32) (aln 264) then (some (((wI (wI (wI (wI h 264 (22 : Int32).toNatClampNeg (h.1 256 (0 : Int32).toNatClampNeg)) 251 47 (0 : Int32)) 251 39 (0 : Int32)) 251 50 (0 : Int32)).1 251 27), (wI (wI (wI (wI h 264 (22 : Int32).toNatClampNeg (h.1 256 (0 : Int32).toNatClampNeg)) 251 47 (0 : Int32)) 251 39 (0 : Int32)) 251 50 (0 : Int32)))) else none) else none) else (if inB (((3 : Int32) * x3) + (2 : Int32)) (aln 260) then (if inB (((3 : Int32) * x3) + (1 : Int32)) (aln 264) then ((X12_text_322 n f) (x3 + (1)) (wI h 264 (((3 : Int32) * x3) + (1 : Int32)).toNatClampNeg (h.1 260 (((3 : Int32) * x3) + (2 : Int32)).toNatClampNeg))) else none) else none))
set_option maxRecDepth 100000 in
set_option maxHeartbeats 4000000 in
theorem v_X12_text_322 {X : WX} {G : GX} {o : Mm} {n : Nat} {rv : Int32} {hz : Mm} : ∀ (f : Nat) (x3 : Int32) (h : Mm), X12_text_322 n f x3 h = some (rv, hz) → V X G RX12 cX12_text 4 (some .int) 90 0 0 (QR X G false o (some (.int rv)) hz) false o 322 [(0, .ref (xa X 251)), (3, .int x3)] [] h := by
  intro f
  induction f with
  | zero => intro x3 h hF; exact nomatch (show (none : Option (Int32 × Mm)) = some (rv, hz) from hF)
  | succ f ih =>
    intro x3 h hF
    unfold X12_text_322 at hF
    refine V.iload_n 1 dX12_text_322 rfl rfl ?_
    refine V.aload_n 0 dX12_text_323 rfl rfl ?_
    refine V.getI fl_X12_291 sh_251 rfl km_251 dX12_text_324 ?_
    refine V.icmp_ge (tgt := 356) dX12_text_327 rfl (fun c => ?_) (fun c => ?_)
    · replace hF := ip c hF
      refine V.aload_n 0 dX12_text_356 rfl rfl ?_
      refine V.getR (v := 264) fl_X12_61 sh_251 rfl fx_251_32 (by decide) dX12_text_357 ?_
      refine V.bipush (v := 22) dX12_text_360 (by decide) ?_
      refine V.aload_n 0 dX12_text_362 rfl rfl ?_
      refine V.getR (v := 256) fl_X12_37 sh_251 rfl fx_251_18 (by decide) dX12_text_363 ?_
      refine V.iconst (v := 0) dX12_text_366 rfl ?_
      obtain ⟨hk, hF⟩ := ck hF
      refine V.iald io_256 hk dX12_text_367 ?_
      obtain ⟨hk, hF⟩ := ck hF
      refine V.iast io_264 hk dX12_text_368 ?_
      refine V.aload_n 0 dX12_text_369 rfl rfl ?_
      refine V.iconst (v := 0) dX12_text_370 rfl ?_
      refine V.putI fl_X12_294 rfl (tyX12_ok 47 (by decide)) rfl rfl sh_251 rfl km_251 dX12_text_371 ?_
      refine V.aload_n 0 dX12_text_374 rfl rfl ?_
      refine V.iconst (v := 0) dX12_text_375 rfl ?_
      refine V.putI fl_X12_297 rfl (tyX12_ok 39 (by decide)) rfl rfl sh_251 rfl km_251 dX12_text_376 ?_
      refine V.aload_n 0 dX12_text_379 rfl rfl ?_
      refine V.iconst (v := 0) dX12_text_380 rfl ?_
      refine V.putI fl_X12_300 rfl (tyX12_ok 50 (by decide)) rfl rfl sh_251 rfl km_251 dX12_text_381 ?_
      refine V.aload_n 0 dX12_text_384 rfl rfl ?_
      refine V.getI fl_X12_291 sh_251 rfl km_251 dX12_text_385 ?_
      cases hF
      exact V.iret dX12_text_388
    · replace hF := iq c hF
      refine V.aload_n 0 dX12_text_330 rfl rfl ?_
      refine V.getR (v := 264) fl_X12_61 sh_251 rfl fx_251_32 (by decide) dX12_text_331 ?_
      refine V.iconst (v := 3) dX12_text_334 rfl ?_
      refine V.iload_n 1 dX12_text_335 rfl rfl ?_
      refine V.imul dX12_text_336 ?_
      refine V.iconst (v := 1) dX12_text_337 rfl ?_
      refine V.iadd dX12_text_338 ?_
      refine V.aload_n 0 dX12_text_339 rfl rfl ?_
      refine V.getR (v := 260) fl_X12_49 sh_251 rfl fx_251_22 (by decide) dX12_text_340 ?_
      refine V.iconst (v := 3) dX12_text_343 rfl ?_
      refine V.iload_n 1 dX12_text_344 rfl rfl ?_
      refine V.imul dX12_text_345 ?_
      refine V.iconst (v := 2) dX12_text_346 rfl ?_
      refine V.iadd dX12_text_347 ?_
      obtain ⟨hk, hF⟩ := ck hF
      refine V.iald io_260 hk dX12_text_348 ?_
      obtain ⟨hk, hF⟩ := ck hF
      refine V.iast io_264 hk dX12_text_349 ?_
      refine V.iinc (v := (x3 + (1))) 1 [(3, _), (0, _)] dX12_text_350 rfl rfl (by decide) rfl ?_
      refine V.goto (tgt := 322) dX12_text_353 rfl ?_
      exact V.sub [1, 0] rfl (ih _ _ hF)
def X12_text_300 (n : Nat) : Nat → Int32 → Mm → Option (Int32 × Mm)
  | 0, _, _ => none
  | f + 1, x3, h => (if (211 : Int32) ≤ x3 then (X12_text_322 n n (0 : Int32) h) else (if inB x3 (aln 264) then ((X12_text_300 n f) (x3 + (1)) (wI h 264 x3.toNatClampNeg (0 : Int32))) else none))
set_option maxRecDepth 100000 in
set_option maxHeartbeats 4000000 in
theorem v_X12_text_300 {X : WX} {G : GX} {o : Mm} {n : Nat} {rv : Int32} {hz : Mm} : ∀ (f : Nat) (x3 : Int32) (h : Mm), X12_text_300 n f x3 h = some (rv, hz) → V X G RX12 cX12_text 4 (some .int) 90 0 0 (QR X G false o (some (.int rv)) hz) false o 300 [(0, .ref (xa X 251)), (3, .int x3)] [] h := by
  intro f
  induction f with
  | zero => intro x3 h hF; exact nomatch (show (none : Option (Int32 × Mm)) = some (rv, hz) from hF)
  | succ f ih =>
    intro x3 h hF
    unfold X12_text_300 at hF
    refine V.iload_n 1 dX12_text_300 rfl rfl ?_
    refine V.sipush (v := 211) dX12_text_301 (by decide) ?_
    refine V.icmp_ge (tgt := 320) dX12_text_304 rfl (fun c => ?_) (fun c => ?_)
    · replace hF := ip c hF
      refine V.iconst (v := 0) dX12_text_320 rfl ?_
      refine V.istore_n [(3, _), (0, _)] dX12_text_321 rfl (by decide) rfl ?_
      exact V.sub [1, 0] rfl (v_X12_text_322 n _ _ hF)
    · replace hF := iq c hF
      refine V.aload_n 0 dX12_text_307 rfl rfl ?_
      refine V.getR (v := 264) fl_X12_61 sh_251 rfl fx_251_32 (by decide) dX12_text_308 ?_
      refine V.iload_n 1 dX12_text_311 rfl rfl ?_
      refine V.iconst (v := 0) dX12_text_312 rfl ?_
      obtain ⟨hk, hF⟩ := ck hF
      refine V.iast io_264 hk dX12_text_313 ?_
      refine V.iinc (v := (x3 + (1))) 1 [(3, _), (0, _)] dX12_text_314 rfl rfl (by decide) rfl ?_
      refine V.goto (tgt := 300) dX12_text_317 rfl ?_
      exact V.sub [1, 0] rfl (ih _ _ hF)
def X12_text_274 (n : Nat) : Nat → Int32 → Mm → Option (Int32 × Mm)
  | 0, _, _ => none
  | f + 1, x3, h => (if (18 : Int32) ≤ x3 then (X12_text_300 n n (0 : Int32) h) else (if inB x3 (aln 261) then (if inB x3 (aln 260) then ((X12_text_274 n f) (x3 + (1)) (wI h 260 x3.toNatClampNeg (h.1 261 x3.toNatClampNeg))) else none) else none))
set_option maxRecDepth 100000 in
set_option maxHeartbeats 4000000 in
theorem v_X12_text_274 {X : WX} {G : GX} {o : Mm} {n : Nat} {rv : Int32} {hz : Mm} : ∀ (f : Nat) (x3 : Int32) (h : Mm), X12_text_274 n f x3 h = some (rv, hz) → V X G RX12 cX12_text 4 (some .int) 90 0 0 (QR X G false o (some (.int rv)) hz) false o 274 [(0, .ref (xa X 251)), (3, .int x3)] [] h := by
  intro f
  induction f with
  | zero => intro x3 h hF; exact nomatch (show (none : Option (Int32 × Mm)) = some (rv, hz) from hF)
  | succ f ih =>
    intro x3 h hF
    unfold X12_text_274 at hF
    refine V.iload_n 1 dX12_text_274 rfl rfl ?_
    refine V.bipush (v := 18) dX12_text_275 (by decide) ?_
    refine V.icmp_ge (tgt := 298) dX12_text_277 rfl (fun c => ?_) (fun c => ?_)
    · replace hF := ip c hF
      refine V.iconst (v := 0) dX12_text_298 rfl ?_
      refine V.istore_n [(3, _), (0, _)] dX12_text_299 rfl (by decide) rfl ?_
      exact V.sub [1, 0] rfl (v_X12_text_300 n _ _ hF)
    · replace hF := iq c hF
      refine V.aload_n 0 dX12_text_280 rfl rfl ?_
      refine V.getR (v := 260) fl_X12_49 sh_251 rfl fx_251_22 (by decide) dX12_text_281 ?_
      refine V.iload_n 1 dX12_text_284 rfl rfl ?_
      refine V.aload_n 0 dX12_text_285 rfl rfl ?_
      refine V.getR (v := 261) fl_X12_52 sh_251 rfl fx_251_23 (by decide) dX12_text_286 ?_
      refine V.iload_n 1 dX12_text_289 rfl rfl ?_
      obtain ⟨hk, hF⟩ := ck hF
      refine V.iald io_261 hk dX12_text_290 ?_
      obtain ⟨hk, hF⟩ := ck hF
      refine V.iast io_260 hk dX12_text_291 ?_
      refine V.iinc (v := (x3 + (1))) 1 [(3, _), (0, _)] dX12_text_292 rfl rfl (by decide) rfl ?_
      refine V.goto (tgt := 274) dX12_text_295 rfl ?_
      exact V.sub [1, 0] rfl (ih _ _ hF)
def X12_text_248 (n : Nat) : Nat → Int32 → Mm → Option (Int32 × Mm)
  | 0, _, _ => none
  | f + 1, x3, h => (if (18 : Int32) ≤ x3 then (X12_text_274 n n (0 : Int32) h) else (if inB x3 (aln 259) then (if inB x3 (aln 258) then ((X12_text_248 n f) (x3 + (1)) (wI h 258 x3.toNatClampNeg (h.1 259 x3.toNatClampNeg))) else none) else none))
set_option maxRecDepth 100000 in
set_option maxHeartbeats 4000000 in
theorem v_X12_text_248 {X : WX} {G : GX} {o : Mm} {n : Nat} {rv : Int32} {hz : Mm} : ∀ (f : Nat) (x3 : Int32) (h : Mm), X12_text_248 n f x3 h = some (rv, hz) → V X G RX12 cX12_text 4 (some .int) 90 0 0 (QR X G false o (some (.int rv)) hz) false o 248 [(0, .ref (xa X 251)), (3, .int x3)] [] h := by
  intro f
  induction f with
  | zero => intro x3 h hF; exact nomatch (show (none : Option (Int32 × Mm)) = some (rv, hz) from hF)
  | succ f ih =>
    intro x3 h hF
    unfold X12_text_248 at hF
    refine V.iload_n 1 dX12_text_248 rfl rfl ?_
    refine V.bipush (v := 18) dX12_text_249 (by decide) ?_
    refine V.icmp_ge (tgt := 272) dX12_text_251 rfl (fun c => ?_) (fun c => ?_)
    · replace hF := ip c hF
      refine V.iconst (v := 0) dX12_text_272 rfl ?_
      refine V.istore_n [(3, _), (0, _)] dX12_text_273 rfl (by decide) rfl ?_
      exact V.sub [1, 0] rfl (v_X12_text_274 n _ _ hF)
    · replace hF := iq c hF
      refine V.aload_n 0 dX12_text_254 rfl rfl ?_
      refine V.getR (v := 258) fl_X12_43 sh_251 rfl fx_251_20 (by decide) dX12_text_255 ?_
      refine V.iload_n 1 dX12_text_258 rfl rfl ?_
      refine V.aload_n 0 dX12_text_259 rfl rfl ?_
      refine V.getR (v := 259) fl_X12_46 sh_251 rfl fx_251_21 (by decide) dX12_text_260 ?_
      refine V.iload_n 1 dX12_text_263 rfl rfl ?_
      obtain ⟨hk, hF⟩ := ck hF
      refine V.iald io_259 hk dX12_text_264 ?_
      obtain ⟨hk, hF⟩ := ck hF
      refine V.iast io_258 hk dX12_text_265 ?_
      refine V.iinc (v := (x3 + (1))) 1 [(3, _), (0, _)] dX12_text_266 rfl rfl (by decide) rfl ?_
      refine V.goto (tgt := 248) dX12_text_269 rfl ?_
      exact V.sub [1, 0] rfl (ih _ _ hF)
def X12_text_223 (n : Nat) : Nat → Int32 → Mm → Option (Int32 × Mm)
  | 0, _, _ => none
  | f + 1, x3, h => (if (3 : Int32) ≤ x3 then (X12_text_248 n n (0 : Int32) h) else (if inB x3 (aln 257) then (if inB x3 (aln 256) then ((X12_text_223 n f) (x3 + (1)) (wI h 256 x3.toNatClampNeg (h.1 257 x3.toNatClampNeg))) else none) else none))
set_option maxRecDepth 100000 in
set_option maxHeartbeats 4000000 in
theorem v_X12_text_223 {X : WX} {G : GX} {o : Mm} {n : Nat} {rv : Int32} {hz : Mm} : ∀ (f : Nat) (x3 : Int32) (h : Mm), X12_text_223 n f x3 h = some (rv, hz) → V X G RX12 cX12_text 4 (some .int) 90 0 0 (QR X G false o (some (.int rv)) hz) false o 223 [(0, .ref (xa X 251)), (3, .int x3)] [] h := by
  intro f
  induction f with
  | zero => intro x3 h hF; exact nomatch (show (none : Option (Int32 × Mm)) = some (rv, hz) from hF)
  | succ f ih =>
    intro x3 h hF
    unfold X12_text_223 at hF
    refine V.iload_n 1 dX12_text_223 rfl rfl ?_
    refine V.iconst (v := 3) dX12_text_224 rfl ?_
    refine V.icmp_ge (tgt := 246) dX12_text_225 rfl (fun c => ?_) (fun c => ?_)
    · replace hF := ip c hF
      refine V.iconst (v := 0) dX12_text_246 rfl ?_
      refine V.istore_n [(3, _), (0, _)] dX12_text_247 rfl (by decide) rfl ?_
      exact V.sub [1, 0] rfl (v_X12_text_248 n _ _ hF)
    · replace hF := iq c hF
      refine V.aload_n 0 dX12_text_228 rfl rfl ?_
      refine V.getR (v := 256) fl_X12_37 sh_251 rfl fx_251_18 (by decide) dX12_text_229 ?_
      refine V.iload_n 1 dX12_text_232 rfl rfl ?_
      refine V.aload_n 0 dX12_text_233 rfl rfl ?_
      refine V.getR (v := 257) fl_X12_40 sh_251 rfl fx_251_19 (by decide) dX12_text_234 ?_
      refine V.iload_n 1 dX12_text_237 rfl rfl ?_
      obtain ⟨hk, hF⟩ := ck hF
      refine V.iald io_257 hk dX12_text_238 ?_
      obtain ⟨hk, hF⟩ := ck hF
      refine V.iast io_256 hk dX12_text_239 ?_
      refine V.iinc (v := (x3 + (1))) 1 [(3, _), (0, _)] dX12_text_240 rfl rfl (by decide) rfl ?_
      refine V.goto (tgt := 223) dX12_text_243 rfl ?_
      exact V.sub [1, 0] rfl (ih _ _ hF)
def X12_text_43 (n : Nat) (x1 : Int32) (h : Mm) : Option (Int32 × Mm) := (bd (X12_fault n x1 h) (fun r38 h40 => (if r38 = (-1 : Int32) then (if x1 = (1 : Int32) then (X12_text_71 n n (h40.1 251 6) (0 : Int32) (wI h40 251 6 (0 : Int32))) else (if x1 = (2 : Int32) then (X12_text_137 n n (0 : Int32) (wI h40 251 6 (0 : Int32))) else (X12_text_223 n n (0 : Int32) (wI (wI (wI h40 251 6 (0 : Int32)) 251 26 ((wI h40 251 6 (0 : Int32)).1 251 28)) 251 27 ((wI (wI h40 251 6 (0 : Int32)) 251 26 ((wI h40 251 6 (0 : Int32)).1 251 28)).1 251 29))))) else (some ((-1 : Int32), h40)))))
set_option maxRecDepth 100000 in
set_option maxHeartbeats 4000000 in
theorem v_X12_text_43 {X : WX} {G : GX} {o : Mm} {n : Nat} {rv : Int32} {hz : Mm} {x1 : Int32} {h : Mm} (hF : X12_text_43 n x1 h = some (rv, hz)) : V X G RX12 cX12_text 4 (some .int) 90 0 0 (QR X G false o (some (.int rv)) hz) false o 43 [(0, .ref (xa X 251)), (1, .int x1)] [] h := by
  unfold X12_text_43 at hF
  refine V.aload_n 0 dX12_text_43 rfl rfl ?_
  refine V.iload_n 1 dX12_text_44 rfl rfl ?_
  obtain ⟨r38, h40, hc39, hF⟩ := bd_s hF
  refine V.callVi mf_X12_fault ml_X12_286 sh_251 (s_X12_fault hc39) (by decide) rfl rfl (Nat.le_of_ble_eq_true rfl) dX12_text_45 ?_
  refine V.iconst (v := -1) dX12_text_48 rfl ?_
  refine V.icmp_eq (tgt := 54) dX12_text_49 rfl (fun c => ?_) (fun c => ?_)
  · replace hF := ip c hF
    refine V.aload_n 0 dX12_text_54 rfl rfl ?_
    refine V.getI fl_X12_106 sh_251 rfl km_251 dX12_text_55 ?_
    refine V.istore_n [(2, _), (0, _), (1, _)] dX12_text_58 rfl (by decide) rfl ?_
    refine V.aload_n 1 dX12_text_59 rfl rfl ?_
    refine V.iconst (v := 0) dX12_text_60 rfl ?_
    refine V.putI fl_X12_106 rfl (tyX12_ok 6 (by decide)) rfl rfl sh_251 rfl km_251 dX12_text_61 ?_
    refine V.iload_n 2 dX12_text_64 rfl rfl ?_
    refine V.iconst (v := 1) dX12_text_65 rfl ?_
    refine V.icmp_ne (tgt := 130) dX12_text_66 rfl (fun c => ?_) (fun c => ?_)
    · replace hF := iq c hF
      refine V.iload_n 2 dX12_text_130 rfl rfl ?_
      refine V.iconst (v := 2) dX12_text_131 rfl ?_
      refine V.icmp_ne (tgt := 205) dX12_text_132 rfl (fun c => ?_) (fun c => ?_)
      · replace hF := iq c hF
        refine V.aload_n 1 dX12_text_205 rfl rfl ?_
        refine V.aload_n 1 dX12_text_206 rfl rfl ?_
        refine V.getI fl_X12_242 sh_251 rfl km_251 dX12_text_207 ?_
        refine V.putI fl_X12_288 rfl (tyX12_ok 26 (by decide)) rfl rfl sh_251 rfl km_251 dX12_text_210 ?_
        refine V.aload_n 1 dX12_text_213 rfl rfl ?_
        refine V.aload_n 1 dX12_text_214 rfl rfl ?_
        refine V.getI fl_X12_245 sh_251 rfl km_251 dX12_text_215 ?_
        refine V.putI fl_X12_291 rfl (tyX12_ok 27 (by decide)) rfl rfl sh_251 rfl km_251 dX12_text_218 ?_
        refine V.iconst (v := 0) dX12_text_221 rfl ?_
        refine V.istore_n [(3, _), (2, _), (0, _), (1, _)] dX12_text_222 rfl (by decide) rfl ?_
        exact V.sub [2, 0] rfl (v_X12_text_223 n _ _ hF)
      · replace hF := ip c hF
        refine V.iconst (v := 0) dX12_text_135 rfl ?_
        refine V.istore_n [(3, _), (2, _), (0, _), (1, _)] dX12_text_136 rfl (by decide) rfl ?_
        exact V.sub [2, 0] rfl (v_X12_text_137 n _ _ hF)
    · replace hF := ip c hF
      refine V.iconst (v := 0) dX12_text_69 rfl ?_
      refine V.istore_n [(3, _), (2, _), (0, _), (1, _)] dX12_text_70 rfl (by decide) rfl ?_
      exact V.sub [2, 1, 0] rfl (v_X12_text_71 n _ _ _ hF)
  · replace hF := iq c hF
    refine V.iconst (v := -1) dX12_text_52 rfl ?_
    cases hF
    exact V.iret dX12_text_53
def X12_text_30 (n : Nat) (x1 : Int32) (h : Mm) : Option (Int32 × Mm) := (if x1 = (2 : Int32) then (if (h.1 251 30) = (4 : Int32) then (some ((-1 : Int32), h)) else (X12_text_43 n x1 h)) else (X12_text_43 n x1 h))
set_option maxRecDepth 100000 in
set_option maxHeartbeats 4000000 in
theorem v_X12_text_30 {X : WX} {G : GX} {o : Mm} {n : Nat} {rv : Int32} {hz : Mm} {x1 : Int32} {h : Mm} (hF : X12_text_30 n x1 h = some (rv, hz)) : V X G RX12 cX12_text 4 (some .int) 90 0 0 (QR X G false o (some (.int rv)) hz) false o 30 [(0, .ref (xa X 251)), (1, .int x1)] [] h := by
  unfold X12_text_30 at hF
  refine V.iload_n 1 dX12_text_30 rfl rfl ?_
  refine V.iconst (v := 2) dX12_text_31 rfl ?_
  refine V.icmp_ne (tgt := 43) dX12_text_32 rfl (fun c => ?_) (fun c => ?_)
  · replace hF := iq c hF
    exact (v_X12_text_43 hF)
  · replace hF := ip c hF
    refine V.aload_n 0 dX12_text_35 rfl rfl ?_
    refine V.getI fl_X12_283 sh_251 rfl km_251 dX12_text_36 ?_
    refine V.iconst (v := 4) dX12_text_39 rfl ?_
    refine V.icmp_eq (tgt := 52) dX12_text_40 rfl (fun c => ?_) (fun c => ?_)
    · replace hF := ip c hF
      refine V.iconst (v := -1) dX12_text_52 rfl ?_
      cases hF
      exact V.iret dX12_text_53
    · replace hF := iq c hF
      exact (v_X12_text_43 hF)
def X12_text (n : Nat) (x1 : Int32) (h : Mm) : Option (Int32 × Mm) := (bp (X12_isIn x1.toInt64 (0 : Int64) (2 : Int64) (wI h 251 0 (0 : Int32))) (fun r41 => (if r41 = true then (if x1 = (1 : Int32) then (if ((wI h 251 0 (0 : Int32)).1 251 7) = (4 : Int32) then (some ((-1 : Int32), (wI h 251 0 (0 : Int32)))) else (X12_text_30 n x1 (wI h 251 0 (0 : Int32)))) else (X12_text_30 n x1 (wI h 251 0 (0 : Int32)))) else (some ((-1 : Int32), (wI h 251 0 (0 : Int32)))))))
set_option maxRecDepth 100000 in
set_option maxHeartbeats 4000000 in
theorem s_X12_text {X : WX} {o : Mm} {n : Nat} {x1 : Int32} {rv : Int32} {hz : Mm} {h : Mm} (hF : X12_text n x1 h = some (rv, hz)) : Sat X yX12_text cX12_text 4 (some .int) 90 [.ref (xa X 251), .int x1] false o h (some (.int rv)) hz := by
  unfold X12_text at hF
  refine Sat.mk (own := RX12) rfl (by decide +kernel) (Nat.le_of_ble_eq_true rfl) (fun G => ?_)
  refine V.sub (lv2 := [(0, _), (1, _)]) [0, 1] rfl ?_
  refine V.aload_n 0 dX12_text_0 rfl rfl ?_
  refine V.iconst (v := 0) dX12_text_1 rfl ?_
  refine V.putI fl_X12_93 rfl (tyX12_ok 0 (by decide)) rfl rfl sh_251 rfl km_251 dX12_text_2 ?_
  refine V.iload_n 1 dX12_text_5 rfl rfl ?_
  refine V.i2l dX12_text_6 ?_
  refine V.lconst (v := 0) dX12_text_7 rfl ?_
  refine V.ldc2 (v := 2) dX12_text_8 kc_X12_269 ?_
  obtain ⟨r41, hc42, hF⟩ := bp_s hF
  refine V.callSi mf_X12_isIn ml_X12_214 (s_X12_isIn hc42) (by decide) rfl rfl (Nat.le_of_ble_eq_true rfl) dX12_text_11 ?_
  refine V.ifz_eq (tgt := 52) dX12_text_14 rfl (fun c => ?_) (fun c => ?_)
  · replace hF := iq c hF
    refine V.iconst (v := -1) dX12_text_52 rfl ?_
    cases hF
    exact V.iret dX12_text_53
  · replace hF := ip c hF
    refine V.iload_n 1 dX12_text_17 rfl rfl ?_
    refine V.iconst (v := 1) dX12_text_18 rfl ?_
    refine V.icmp_ne (tgt := 30) dX12_text_19 rfl (fun c => ?_) (fun c => ?_)
    · replace hF := iq c hF
      exact (v_X12_text_30 hF)
    · replace hF := ip c hF
      refine V.aload_n 0 dX12_text_22 rfl rfl ?_
      refine V.getI fl_X12_280 sh_251 rfl km_251 dX12_text_23 ?_
      refine V.iconst (v := 4) dX12_text_26 rfl ?_
      refine V.icmp_eq (tgt := 52) dX12_text_27 rfl (fun c => ?_) (fun c => ?_)
      · replace hF := ip c hF
        refine V.iconst (v := -1) dX12_text_52 rfl ?_
        cases hF
        exact V.iret dX12_text_53
      · replace hF := iq c hF
        exact (v_X12_text_30 hF)
/-! MonsterCotModel.copy -/
theorem dX12_copy_0 : decode cX12_copy 0 = .ok (.iconst 0, 1) := by decide +kernel
theorem dX12_copy_1 : decode cX12_copy 1 = .ok (.istore_n 2, 1) := by decide +kernel
theorem dX12_copy_2 : decode cX12_copy 2 = .ok (.iload_n 2, 1) := by decide +kernel
theorem dX12_copy_3 : decode cX12_copy 3 = .ok (.bipush 30, 2) := by decide +kernel
theorem dX12_copy_5 : decode cX12_copy 5 = .ok (.if_icmp .ge 15, 3) := by decide +kernel
theorem dX12_copy_8 : decode cX12_copy 8 = .ok (.aload_n 1, 1) := by decide +kernel
theorem dX12_copy_9 : decode cX12_copy 9 = .ok (.iload_n 2, 1) := by decide +kernel
theorem dX12_copy_10 : decode cX12_copy 10 = .ok (.aload_n 0, 1) := by decide +kernel
theorem dX12_copy_11 : decode cX12_copy 11 = .ok (.iload_n 2, 1) := by decide +kernel
theorem dX12_copy_12 : decode cX12_copy 12 = .ok (.iaload, 1) := by decide +kernel
theorem dX12_copy_13 : decode cX12_copy 13 = .ok (.iastore, 1) := by decide +kernel
theorem dX12_copy_14 : decode cX12_copy 14 = .ok (.iinc 2 1, 3) := by decide +kernel
theorem dX12_copy_17 : decode cX12_copy 17 = .ok (.goto (-15), 3) := by decide +kernel
theorem dX12_copy_20 : decode cX12_copy 20 = .ok (.aload_n 1, 1) := by decide +kernel
theorem dX12_copy_21 : decode cX12_copy 21 = .ok (.bipush 30, 2) := by decide +kernel
theorem dX12_copy_23 : decode cX12_copy 23 = .ok (.iconst 0, 1) := by decide +kernel
theorem dX12_copy_24 : decode cX12_copy 24 = .ok (.iastore, 1) := by decide +kernel
theorem dX12_copy_25 : decode cX12_copy 25 = .ok (.return_, 1) := by decide +kernel
def X12_copy_2 (n : Nat) (a0 : Nat) (a1 : Nat) : Nat → Int32 → Mm → Option (Unit × Mm)
  | 0, _, _ => none
  | f + 1, x2, h => (if (30 : Int32) ≤ x2 then (if inB (30 : Int32) (aln a1) then (some ((), (wI h a1 (30 : Int32).toNatClampNeg (0 : Int32)))) else none) else (if inB x2 (aln a0) then (if inB x2 (aln a1) then ((X12_copy_2 n a0 a1 f) (x2 + (1)) (wI h a1 x2.toNatClampNeg (h.1 a0 x2.toNatClampNeg))) else none) else none))
set_option maxRecDepth 100000 in
set_option maxHeartbeats 4000000 in
theorem v_X12_copy_2 {X : WX} {G : GX} {o : Mm} {n : Nat} {a0 : Nat} {a1 : Nat} {rv : Unit} {hz : Mm} (ha0 : isO false 0 a0) (ha1 : isO false 0 a1) : ∀ (f : Nat) (x2 : Int32) (h : Mm), X12_copy_2 n a0 a1 f x2 h = some (rv, hz) → V X G RX12 cX12_copy 3 (none) 1 0 0 (QR X G false o none hz) false o 2 [(0, .ref (xa X a0)), (1, .ref (xa X a1)), (2, .int x2)] [] h := by
  intro f
  induction f with
  | zero => intro x2 h hF; exact nomatch (show (none : Option (Unit × Mm)) = some (rv, hz) from hF)
  | succ f ih =>
    intro x2 h hF
    unfold X12_copy_2 at hF
    refine V.iload_n 2 dX12_copy_2 rfl rfl ?_
    refine V.bipush (v := 30) dX12_copy_3 (by decide) ?_
    refine V.icmp_ge (tgt := 20) dX12_copy_5 rfl (fun c => ?_) (fun c => ?_)
    · replace hF := ip c hF
      refine V.aload_n 1 dX12_copy_20 rfl rfl ?_
      refine V.bipush (v := 30) dX12_copy_21 (by decide) ?_
      refine V.iconst (v := 0) dX12_copy_23 rfl ?_
      obtain ⟨hk, hF⟩ := ck hF
      refine V.iast ha1 hk dX12_copy_24 ?_
      cases hF
      exact V.vret dX12_copy_25
    · replace hF := iq c hF
      refine V.aload_n 1 dX12_copy_8 rfl rfl ?_
      refine V.iload_n 2 dX12_copy_9 rfl rfl ?_
      refine V.aload_n 0 dX12_copy_10 rfl rfl ?_
      refine V.iload_n 2 dX12_copy_11 rfl rfl ?_
      obtain ⟨hk, hF⟩ := ck hF
      refine V.iald ha0 hk dX12_copy_12 ?_
      obtain ⟨hk, hF⟩ := ck hF
      refine V.iast ha1 hk dX12_copy_13 ?_
      refine V.iinc (v := (x2 + (1))) 2 [(2, _), (0, _), (1, _)] dX12_copy_14 rfl rfl (by decide) rfl ?_
      refine V.goto (tgt := 2) dX12_copy_17 rfl ?_
      exact V.sub [1, 2, 0] rfl (ih _ _ hF)
def X12_copy (n : Nat) (a0 : Nat) (a1 : Nat) (h : Mm) : Option (Unit × Mm) := (X12_copy_2 n a0 a1 n (0 : Int32) h)
set_option maxRecDepth 100000 in
set_option maxHeartbeats 4000000 in
theorem s_X12_copy {X : WX} {o : Mm} {n : Nat} {a0 : Nat} {a1 : Nat} {rv : Unit} {hz : Mm} {h : Mm} (ha0 : isO false 0 a0) (ha1 : isO false 0 a1) (hF : X12_copy n a0 a1 h = some (rv, hz)) : Sat X yX12_copy cX12_copy 3 (none) 1 [.ref (xa X a0), .ref (xa X a1)] false o h none hz := by
  unfold X12_copy at hF
  refine Sat.mk (own := RX12) rfl (by decide +kernel) (Nat.le_of_ble_eq_true rfl) (fun G => ?_)
  refine V.sub (lv2 := [(0, _), (1, _)]) [0, 1] rfl ?_
  refine V.iconst (v := 0) dX12_copy_0 rfl ?_
  refine V.istore_n [(2, _), (0, _), (1, _)] dX12_copy_1 rfl (by decide) rfl ?_
  exact V.sub [1, 2, 0] rfl (v_X12_copy_2 ha0 ha1 n _ _ hF)
/-! MonsterCotModel.isBook -/
theorem dX12_isBook_0 : decode cX12_isBook 0 = .ok (.iload_n 1, 1) := by decide +kernel
theorem dX12_isBook_1 : decode cX12_isBook 1 = .ok (.ifCond .lt 15, 3) := by decide +kernel
theorem dX12_isBook_4 : decode cX12_isBook 4 = .ok (.iload_n 1, 1) := by decide +kernel
theorem dX12_isBook_5 : decode cX12_isBook 5 = .ok (.aload_n 0, 1) := by decide +kernel
theorem dX12_isBook_6 : decode cX12_isBook 6 = .ok (.getfield 288, 3) := by decide +kernel
theorem dX12_isBook_9 : decode cX12_isBook 9 = .ok (.if_icmp .ge 7, 3) := by decide +kernel
theorem dX12_isBook_12 : decode cX12_isBook 12 = .ok (.iconst 1, 1) := by decide +kernel
theorem dX12_isBook_13 : decode cX12_isBook 13 = .ok (.goto 4, 3) := by decide +kernel
theorem dX12_isBook_16 : decode cX12_isBook 16 = .ok (.iconst 0, 1) := by decide +kernel
theorem dX12_isBook_17 : decode cX12_isBook 17 = .ok (.ireturn, 1) := by decide +kernel
def X12_isBook (x1 : Int32) (h : Mm) : Option Bool := (if x1 < 0 then (some false) else (if (h.1 251 26) ≤ x1 then (some false) else (some true)))
set_option maxRecDepth 100000 in
set_option maxHeartbeats 4000000 in
theorem s_X12_isBook {X : WX} {o : Mm} {x1 : Int32} {rv : Bool} {h : Mm} (hF : X12_isBook x1 h = some rv) : Sat X yX12_isBook cX12_isBook 2 (some .boolean) 1 [.ref (xa X 251), .int x1] false o h (some (.int (b2i rv))) h := by
  unfold X12_isBook at hF
  refine Sat.mk (own := RX12) rfl (by decide +kernel) (Nat.le_of_ble_eq_true rfl) (fun G => ?_)
  refine V.sub (lv2 := [(0, _), (1, _)]) [0, 1] rfl ?_
  refine V.iload_n 1 dX12_isBook_0 rfl rfl ?_
  refine V.if_lt (tgt := 16) dX12_isBook_1 rfl (fun c => ?_) (fun c => ?_)
  · replace hF := ip c hF
    refine V.iconst (v := 0) dX12_isBook_16 rfl ?_
    cases hF
    exact V.bret dX12_isBook_17
  · replace hF := iq c hF
    refine V.iload_n 1 dX12_isBook_4 rfl rfl ?_
    refine V.aload_n 0 dX12_isBook_5 rfl rfl ?_
    refine V.getI fl_X12_288 sh_251 rfl km_251 dX12_isBook_6 ?_
    refine V.icmp_ge (tgt := 16) dX12_isBook_9 rfl (fun c => ?_) (fun c => ?_)
    · replace hF := ip c hF
      refine V.iconst (v := 0) dX12_isBook_16 rfl ?_
      cases hF
      exact V.bret dX12_isBook_17
    · replace hF := iq c hF
      refine V.iconst (v := 1) dX12_isBook_12 rfl ?_
      refine V.goto (tgt := 17) dX12_isBook_13 rfl ?_
      cases hF
      exact V.bret dX12_isBook_17
/-! MonsterCotModel.isHouse -/
theorem dX12_isHouse_0 : decode cX12_isHouse 0 = .ok (.iload_n 1, 1) := by decide +kernel
theorem dX12_isHouse_1 : decode cX12_isHouse 1 = .ok (.ifCond .lt 15, 3) := by decide +kernel
theorem dX12_isHouse_4 : decode cX12_isHouse 4 = .ok (.iload_n 1, 1) := by decide +kernel
theorem dX12_isHouse_5 : decode cX12_isHouse 5 = .ok (.aload_n 0, 1) := by decide +kernel
theorem dX12_isHouse_6 : decode cX12_isHouse 6 = .ok (.getfield 291, 3) := by decide +kernel
theorem dX12_isHouse_9 : decode cX12_isHouse 9 = .ok (.if_icmp .ge 7, 3) := by decide +kernel
theorem dX12_isHouse_12 : decode cX12_isHouse 12 = .ok (.iconst 1, 1) := by decide +kernel
theorem dX12_isHouse_13 : decode cX12_isHouse 13 = .ok (.goto 4, 3) := by decide +kernel
theorem dX12_isHouse_16 : decode cX12_isHouse 16 = .ok (.iconst 0, 1) := by decide +kernel
theorem dX12_isHouse_17 : decode cX12_isHouse 17 = .ok (.ireturn, 1) := by decide +kernel
def X12_isHouse (x1 : Int32) (h : Mm) : Option Bool := (if x1 < 0 then (some false) else (if (h.1 251 27) ≤ x1 then (some false) else (some true)))
set_option maxRecDepth 100000 in
set_option maxHeartbeats 4000000 in
theorem s_X12_isHouse {X : WX} {o : Mm} {x1 : Int32} {rv : Bool} {h : Mm} (hF : X12_isHouse x1 h = some rv) : Sat X yX12_isHouse cX12_isHouse 2 (some .boolean) 1 [.ref (xa X 251), .int x1] false o h (some (.int (b2i rv))) h := by
  unfold X12_isHouse at hF
  refine Sat.mk (own := RX12) rfl (by decide +kernel) (Nat.le_of_ble_eq_true rfl) (fun G => ?_)
  refine V.sub (lv2 := [(0, _), (1, _)]) [0, 1] rfl ?_
  refine V.iload_n 1 dX12_isHouse_0 rfl rfl ?_
  refine V.if_lt (tgt := 16) dX12_isHouse_1 rfl (fun c => ?_) (fun c => ?_)
  · replace hF := ip c hF
    refine V.iconst (v := 0) dX12_isHouse_16 rfl ?_
    cases hF
    exact V.bret dX12_isHouse_17
  · replace hF := iq c hF
    refine V.iload_n 1 dX12_isHouse_4 rfl rfl ?_
    refine V.aload_n 0 dX12_isHouse_5 rfl rfl ?_
    refine V.getI fl_X12_291 sh_251 rfl km_251 dX12_isHouse_6 ?_
    refine V.icmp_ge (tgt := 16) dX12_isHouse_9 rfl (fun c => ?_) (fun c => ?_)
    · replace hF := ip c hF
      refine V.iconst (v := 0) dX12_isHouse_16 rfl ?_
      cases hF
      exact V.bret dX12_isHouse_17
    · replace hF := iq c hF
      refine V.iconst (v := 1) dX12_isHouse_12 rfl ?_
      refine V.goto (tgt := 17) dX12_isHouse_13 rfl ?_
      cases hF
      exact V.bret dX12_isHouse_17
/-! MonsterCotModel.pagesOf -/
theorem dX12_pagesOf_0 : decode cX12_pagesOf 0 = .ok (.aload_n 0, 1) := by decide +kernel
theorem dX12_pagesOf_1 : decode cX12_pagesOf 1 = .ok (.getfield 43, 3) := by decide +kernel
theorem dX12_pagesOf_4 : decode cX12_pagesOf 4 = .ok (.iconst 3, 1) := by decide +kernel
theorem dX12_pagesOf_5 : decode cX12_pagesOf 5 = .ok (.iload_n 1, 1) := by decide +kernel
theorem dX12_pagesOf_6 : decode cX12_pagesOf 6 = .ok (.imul, 1) := by decide +kernel
theorem dX12_pagesOf_7 : decode cX12_pagesOf 7 = .ok (.iaload, 1) := by decide +kernel
theorem dX12_pagesOf_8 : decode cX12_pagesOf 8 = .ok (.ireturn, 1) := by decide +kernel
def X12_pagesOf (x1 : Int32) (h : Mm) : Option Int32 := (if inB ((3 : Int32) * x1) (aln 258) then (some (h.1 258 ((3 : Int32) * x1).toNatClampNeg)) else none)
set_option maxRecDepth 100000 in
set_option maxHeartbeats 4000000 in
theorem s_X12_pagesOf {X : WX} {o : Mm} {x1 : Int32} {rv : Int32} {h : Mm} (hF : X12_pagesOf x1 h = some rv) : Sat X yX12_pagesOf cX12_pagesOf 2 (some .int) 1 [.ref (xa X 251), .int x1] false o h (some (.int rv)) h := by
  unfold X12_pagesOf at hF
  refine Sat.mk (own := RX12) rfl (by decide +kernel) (Nat.le_of_ble_eq_true rfl) (fun G => ?_)
  refine V.sub (lv2 := [(0, _), (1, _)]) [0, 1] rfl ?_
  refine V.aload_n 0 dX12_pagesOf_0 rfl rfl ?_
  refine V.getR (v := 258) fl_X12_43 sh_251 rfl fx_251_20 (by decide) dX12_pagesOf_1 ?_
  refine V.iconst (v := 3) dX12_pagesOf_4 rfl ?_
  refine V.iload_n 1 dX12_pagesOf_5 rfl rfl ?_
  refine V.imul dX12_pagesOf_6 ?_
  obtain ⟨hk, hF⟩ := ck hF
  refine V.iald io_258 hk dX12_pagesOf_7 ?_
  cases hF
  exact V.iret dX12_pagesOf_8
/-! MonsterCotModel.kindOf -/
theorem dX12_kindOf_0 : decode cX12_kindOf 0 = .ok (.aload_n 0, 1) := by decide +kernel
theorem dX12_kindOf_1 : decode cX12_kindOf 1 = .ok (.getfield 43, 3) := by decide +kernel
theorem dX12_kindOf_4 : decode cX12_kindOf 4 = .ok (.iconst 3, 1) := by decide +kernel
theorem dX12_kindOf_5 : decode cX12_kindOf 5 = .ok (.iload_n 1, 1) := by decide +kernel
theorem dX12_kindOf_6 : decode cX12_kindOf 6 = .ok (.imul, 1) := by decide +kernel
theorem dX12_kindOf_7 : decode cX12_kindOf 7 = .ok (.iconst 2, 1) := by decide +kernel
theorem dX12_kindOf_8 : decode cX12_kindOf 8 = .ok (.iadd, 1) := by decide +kernel
theorem dX12_kindOf_9 : decode cX12_kindOf 9 = .ok (.iaload, 1) := by decide +kernel
theorem dX12_kindOf_10 : decode cX12_kindOf 10 = .ok (.ireturn, 1) := by decide +kernel
def X12_kindOf (x1 : Int32) (h : Mm) : Option Int32 := (if inB (((3 : Int32) * x1) + (2 : Int32)) (aln 258) then (some (h.1 258 (((3 : Int32) * x1) + (2 : Int32)).toNatClampNeg)) else none)
set_option maxRecDepth 100000 in
set_option maxHeartbeats 4000000 in
theorem s_X12_kindOf {X : WX} {o : Mm} {x1 : Int32} {rv : Int32} {h : Mm} (hF : X12_kindOf x1 h = some rv) : Sat X yX12_kindOf cX12_kindOf 2 (some .int) 1 [.ref (xa X 251), .int x1] false o h (some (.int rv)) h := by
  unfold X12_kindOf at hF
  refine Sat.mk (own := RX12) rfl (by decide +kernel) (Nat.le_of_ble_eq_true rfl) (fun G => ?_)
  refine V.sub (lv2 := [(0, _), (1, _)]) [0, 1] rfl ?_
  refine V.aload_n 0 dX12_kindOf_0 rfl rfl ?_
  refine V.getR (v := 258) fl_X12_43 sh_251 rfl fx_251_20 (by decide) dX12_kindOf_1 ?_
  refine V.iconst (v := 3) dX12_kindOf_4 rfl ?_
  refine V.iload_n 1 dX12_kindOf_5 rfl rfl ?_
  refine V.imul dX12_kindOf_6 ?_
  refine V.iconst (v := 2) dX12_kindOf_7 rfl ?_
  refine V.iadd dX12_kindOf_8 ?_
  obtain ⟨hk, hF⟩ := ck hF
  refine V.iald io_258 hk dX12_kindOf_9 ?_
  cases hF
  exact V.iret dX12_kindOf_10
/-! MonsterCotModel.strength -/
theorem dX12_strength_0 : decode cX12_strength 0 = .ok (.aload_n 0, 1) := by decide +kernel
theorem dX12_strength_1 : decode cX12_strength 1 = .ok (.getfield 49, 3) := by decide +kernel
theorem dX12_strength_4 : decode cX12_strength 4 = .ok (.iconst 3, 1) := by decide +kernel
theorem dX12_strength_5 : decode cX12_strength 5 = .ok (.iload_n 1, 1) := by decide +kernel
theorem dX12_strength_6 : decode cX12_strength 6 = .ok (.imul, 1) := by decide +kernel
theorem dX12_strength_7 : decode cX12_strength 7 = .ok (.iconst 1, 1) := by decide +kernel
theorem dX12_strength_8 : decode cX12_strength 8 = .ok (.iadd, 1) := by decide +kernel
theorem dX12_strength_9 : decode cX12_strength 9 = .ok (.iaload, 1) := by decide +kernel
theorem dX12_strength_10 : decode cX12_strength 10 = .ok (.ireturn, 1) := by decide +kernel
def X12_strength (x1 : Int32) (h : Mm) : Option Int32 := (if inB (((3 : Int32) * x1) + (1 : Int32)) (aln 260) then (some (h.1 260 (((3 : Int32) * x1) + (1 : Int32)).toNatClampNeg)) else none)
set_option maxRecDepth 100000 in
set_option maxHeartbeats 4000000 in
theorem s_X12_strength {X : WX} {o : Mm} {x1 : Int32} {rv : Int32} {h : Mm} (hF : X12_strength x1 h = some rv) : Sat X yX12_strength cX12_strength 2 (some .int) 1 [.ref (xa X 251), .int x1] false o h (some (.int rv)) h := by
  unfold X12_strength at hF
  refine Sat.mk (own := RX12) rfl (by decide +kernel) (Nat.le_of_ble_eq_true rfl) (fun G => ?_)
  refine V.sub (lv2 := [(0, _), (1, _)]) [0, 1] rfl ?_
  refine V.aload_n 0 dX12_strength_0 rfl rfl ?_
  refine V.getR (v := 260) fl_X12_49 sh_251 rfl fx_251_22 (by decide) dX12_strength_1 ?_
  refine V.iconst (v := 3) dX12_strength_4 rfl ?_
  refine V.iload_n 1 dX12_strength_5 rfl rfl ?_
  refine V.imul dX12_strength_6 ?_
  refine V.iconst (v := 1) dX12_strength_7 rfl ?_
  refine V.iadd dX12_strength_8 ?_
  obtain ⟨hk, hF⟩ := ck hF
  refine V.iald io_260 hk dX12_strength_9 ?_
  cases hF
  exact V.iret dX12_strength_10
/-! MonsterCotModel.pageWorth -/
theorem dX12_pageWorth_0 : decode cX12_pageWorth 0 = .ok (.aload_n 0, 1) := by decide +kernel
theorem dX12_pageWorth_1 : decode cX12_pageWorth 1 = .ok (.getfield 67, 3) := by decide +kernel
theorem dX12_pageWorth_4 : decode cX12_pageWorth 4 = .ok (.iconst (-1), 1) := by decide +kernel
theorem dX12_pageWorth_5 : decode cX12_pageWorth 5 = .ok (.if_icmp .ne 20, 3) := by decide +kernel
theorem dX12_pageWorth_8 : decode cX12_pageWorth 8 = .ok (.aload_n 0, 1) := by decide +kernel
theorem dX12_pageWorth_9 : decode cX12_pageWorth 9 = .ok (.getfield 43, 3) := by decide +kernel
theorem dX12_pageWorth_12 : decode cX12_pageWorth 12 = .ok (.iconst 3, 1) := by decide +kernel
theorem dX12_pageWorth_13 : decode cX12_pageWorth 13 = .ok (.iload_n 1, 1) := by decide +kernel
theorem dX12_pageWorth_14 : decode cX12_pageWorth 14 = .ok (.imul, 1) := by decide +kernel
theorem dX12_pageWorth_15 : decode cX12_pageWorth 15 = .ok (.iconst 1, 1) := by decide +kernel
theorem dX12_pageWorth_16 : decode cX12_pageWorth 16 = .ok (.iadd, 1) := by decide +kernel
theorem dX12_pageWorth_17 : decode cX12_pageWorth 17 = .ok (.iaload, 1) := by decide +kernel
theorem dX12_pageWorth_18 : decode cX12_pageWorth 18 = .ok (.iload_n 2, 1) := by decide +kernel
theorem dX12_pageWorth_19 : decode cX12_pageWorth 19 = .ok (.iconst 3, 1) := by decide +kernel
theorem dX12_pageWorth_20 : decode cX12_pageWorth 20 = .ok (.idiv, 1) := by decide +kernel
theorem dX12_pageWorth_21 : decode cX12_pageWorth 21 = .ok (.iadd, 1) := by decide +kernel
theorem dX12_pageWorth_22 : decode cX12_pageWorth 22 = .ok (.iload_n 3, 1) := by decide +kernel
theorem dX12_pageWorth_23 : decode cX12_pageWorth 23 = .ok (.isub, 1) := by decide +kernel
theorem dX12_pageWorth_24 : decode cX12_pageWorth 24 = .ok (.ireturn, 1) := by decide +kernel
theorem dX12_pageWorth_25 : decode cX12_pageWorth 25 = .ok (.lconst 1, 1) := by decide +kernel
theorem dX12_pageWorth_26 : decode cX12_pageWorth 26 = .ok (.aload_n 0, 1) := by decide +kernel
theorem dX12_pageWorth_27 : decode cX12_pageWorth 27 = .ok (.getfield 67, 3) := by decide +kernel
theorem dX12_pageWorth_30 : decode cX12_pageWorth 30 = .ok (.i2l, 1) := by decide +kernel
theorem dX12_pageWorth_31 : decode cX12_pageWorth 31 = .ok (.ladd, 1) := by decide +kernel
theorem dX12_pageWorth_32 : decode cX12_pageWorth 32 = .ok (.lstore 7, 2) := by decide +kernel
theorem dX12_pageWorth_34 : decode cX12_pageWorth 34 = .ok (.ldc2_w 303, 3) := by decide +kernel
theorem dX12_pageWorth_37 : decode cX12_pageWorth 37 = .ok (.lload 7, 2) := by decide +kernel
theorem dX12_pageWorth_39 : decode cX12_pageWorth 39 = .ok (.lmul, 1) := by decide +kernel
theorem dX12_pageWorth_40 : decode cX12_pageWorth 40 = .ok (.aload_n 0, 1) := by decide +kernel
theorem dX12_pageWorth_41 : decode cX12_pageWorth 41 = .ok (.getfield 43, 3) := by decide +kernel
theorem dX12_pageWorth_44 : decode cX12_pageWorth 44 = .ok (.iconst 3, 1) := by decide +kernel
theorem dX12_pageWorth_45 : decode cX12_pageWorth 45 = .ok (.iload_n 1, 1) := by decide +kernel
theorem dX12_pageWorth_46 : decode cX12_pageWorth 46 = .ok (.imul, 1) := by decide +kernel
theorem dX12_pageWorth_47 : decode cX12_pageWorth 47 = .ok (.iconst 1, 1) := by decide +kernel
theorem dX12_pageWorth_48 : decode cX12_pageWorth 48 = .ok (.iadd, 1) := by decide +kernel
theorem dX12_pageWorth_49 : decode cX12_pageWorth 49 = .ok (.iaload, 1) := by decide +kernel
theorem dX12_pageWorth_50 : decode cX12_pageWorth 50 = .ok (.i2l, 1) := by decide +kernel
theorem dX12_pageWorth_51 : decode cX12_pageWorth 51 = .ok (.ladd, 1) := by decide +kernel
theorem dX12_pageWorth_52 : decode cX12_pageWorth 52 = .ok (.lstore 7, 2) := by decide +kernel
theorem dX12_pageWorth_54 : decode cX12_pageWorth 54 = .ok (.ldc2_w 303, 3) := by decide +kernel
theorem dX12_pageWorth_57 : decode cX12_pageWorth 57 = .ok (.lload 7, 2) := by decide +kernel
theorem dX12_pageWorth_59 : decode cX12_pageWorth 59 = .ok (.lmul, 1) := by decide +kernel
theorem dX12_pageWorth_60 : decode cX12_pageWorth 60 = .ok (.iload_n 2, 1) := by decide +kernel
theorem dX12_pageWorth_61 : decode cX12_pageWorth 61 = .ok (.i2l, 1) := by decide +kernel
theorem dX12_pageWorth_62 : decode cX12_pageWorth 62 = .ok (.ladd, 1) := by decide +kernel
theorem dX12_pageWorth_63 : decode cX12_pageWorth 63 = .ok (.lstore 7, 2) := by decide +kernel
theorem dX12_pageWorth_65 : decode cX12_pageWorth 65 = .ok (.ldc2_w 303, 3) := by decide +kernel
theorem dX12_pageWorth_68 : decode cX12_pageWorth 68 = .ok (.lload 7, 2) := by decide +kernel
theorem dX12_pageWorth_70 : decode cX12_pageWorth 70 = .ok (.lmul, 1) := by decide +kernel
theorem dX12_pageWorth_71 : decode cX12_pageWorth 71 = .ok (.iload_n 3, 1) := by decide +kernel
theorem dX12_pageWorth_72 : decode cX12_pageWorth 72 = .ok (.i2l, 1) := by decide +kernel
theorem dX12_pageWorth_73 : decode cX12_pageWorth 73 = .ok (.ladd, 1) := by decide +kernel
theorem dX12_pageWorth_74 : decode cX12_pageWorth 74 = .ok (.lstore 7, 2) := by decide +kernel
theorem dX12_pageWorth_76 : decode cX12_pageWorth 76 = .ok (.ldc2_w 303, 3) := by decide +kernel
theorem dX12_pageWorth_79 : decode cX12_pageWorth 79 = .ok (.lload 7, 2) := by decide +kernel
theorem dX12_pageWorth_81 : decode cX12_pageWorth 81 = .ok (.lmul, 1) := by decide +kernel
theorem dX12_pageWorth_82 : decode cX12_pageWorth 82 = .ok (.iload 4, 2) := by decide +kernel
theorem dX12_pageWorth_84 : decode cX12_pageWorth 84 = .ok (.i2l, 1) := by decide +kernel
theorem dX12_pageWorth_85 : decode cX12_pageWorth 85 = .ok (.ladd, 1) := by decide +kernel
theorem dX12_pageWorth_86 : decode cX12_pageWorth 86 = .ok (.lstore 7, 2) := by decide +kernel
theorem dX12_pageWorth_88 : decode cX12_pageWorth 88 = .ok (.ldc2_w 305, 3) := by decide +kernel
theorem dX12_pageWorth_91 : decode cX12_pageWorth 91 = .ok (.lload 7, 2) := by decide +kernel
theorem dX12_pageWorth_93 : decode cX12_pageWorth 93 = .ok (.lmul, 1) := by decide +kernel
theorem dX12_pageWorth_94 : decode cX12_pageWorth 94 = .ok (.iload 6, 2) := by decide +kernel
theorem dX12_pageWorth_96 : decode cX12_pageWorth 96 = .ok (.i2l, 1) := by decide +kernel
theorem dX12_pageWorth_97 : decode cX12_pageWorth 97 = .ok (.ladd, 1) := by decide +kernel
theorem dX12_pageWorth_98 : decode cX12_pageWorth 98 = .ok (.lstore 7, 2) := by decide +kernel
theorem dX12_pageWorth_100 : decode cX12_pageWorth 100 = .ok (.ldc2_w 307, 3) := by decide +kernel
theorem dX12_pageWorth_103 : decode cX12_pageWorth 103 = .ok (.lload 7, 2) := by decide +kernel
theorem dX12_pageWorth_105 : decode cX12_pageWorth 105 = .ok (.lmul, 1) := by decide +kernel
theorem dX12_pageWorth_106 : decode cX12_pageWorth 106 = .ok (.iload 5, 2) := by decide +kernel
theorem dX12_pageWorth_108 : decode cX12_pageWorth 108 = .ok (.i2l, 1) := by decide +kernel
theorem dX12_pageWorth_109 : decode cX12_pageWorth 109 = .ok (.ladd, 1) := by decide +kernel
theorem dX12_pageWorth_110 : decode cX12_pageWorth 110 = .ok (.lstore 7, 2) := by decide +kernel
theorem dX12_pageWorth_112 : decode cX12_pageWorth 112 = .ok (.lload 7, 2) := by decide +kernel
theorem dX12_pageWorth_114 : decode cX12_pageWorth 114 = .ok (.ldc2_w 309, 3) := by decide +kernel
theorem dX12_pageWorth_117 : decode cX12_pageWorth 117 = .ok (.lrem, 1) := by decide +kernel
theorem dX12_pageWorth_118 : decode cX12_pageWorth 118 = .ok (.l2i, 1) := by decide +kernel
theorem dX12_pageWorth_119 : decode cX12_pageWorth 119 = .ok (.istore 9, 2) := by decide +kernel
theorem dX12_pageWorth_121 : decode cX12_pageWorth 121 = .ok (.aload_n 0, 1) := by decide +kernel
theorem dX12_pageWorth_122 : decode cX12_pageWorth 122 = .ok (.getfield 71, 3) := by decide +kernel
theorem dX12_pageWorth_125 : decode cX12_pageWorth 125 = .ok (.iload 9, 2) := by decide +kernel
theorem dX12_pageWorth_127 : decode cX12_pageWorth 127 = .ok (.laload, 1) := by decide +kernel
theorem dX12_pageWorth_128 : decode cX12_pageWorth 128 = .ok (.lload 7, 2) := by decide +kernel
theorem dX12_pageWorth_130 : decode cX12_pageWorth 130 = .ok (.lcmp, 1) := by decide +kernel
theorem dX12_pageWorth_131 : decode cX12_pageWorth 131 = .ok (.ifCond .ne 11, 3) := by decide +kernel
theorem dX12_pageWorth_134 : decode cX12_pageWorth 134 = .ok (.aload_n 0, 1) := by decide +kernel
theorem dX12_pageWorth_135 : decode cX12_pageWorth 135 = .ok (.getfield 75, 3) := by decide +kernel
theorem dX12_pageWorth_138 : decode cX12_pageWorth 138 = .ok (.iload 9, 2) := by decide +kernel
theorem dX12_pageWorth_140 : decode cX12_pageWorth 140 = .ok (.iaload, 1) := by decide +kernel
theorem dX12_pageWorth_141 : decode cX12_pageWorth 141 = .ok (.ireturn, 1) := by decide +kernel
theorem dX12_pageWorth_142 : decode cX12_pageWorth 142 = .ok (.aload_n 0, 1) := by decide +kernel
theorem dX12_pageWorth_143 : decode cX12_pageWorth 143 = .ok (.getfield 20, 3) := by decide +kernel
theorem dX12_pageWorth_146 : decode cX12_pageWorth 146 = .ok (.bipush 99, 2) := by decide +kernel
theorem dX12_pageWorth_148 : decode cX12_pageWorth 148 = .ok (.aload_n 0, 1) := by decide +kernel
theorem dX12_pageWorth_149 : decode cX12_pageWorth 149 = .ok (.getfield 43, 3) := by decide +kernel
theorem dX12_pageWorth_152 : decode cX12_pageWorth 152 = .ok (.iconst 3, 1) := by decide +kernel
theorem dX12_pageWorth_153 : decode cX12_pageWorth 153 = .ok (.iload_n 1, 1) := by decide +kernel
theorem dX12_pageWorth_154 : decode cX12_pageWorth 154 = .ok (.imul, 1) := by decide +kernel
theorem dX12_pageWorth_155 : decode cX12_pageWorth 155 = .ok (.iconst 1, 1) := by decide +kernel
theorem dX12_pageWorth_156 : decode cX12_pageWorth 156 = .ok (.iadd, 1) := by decide +kernel
theorem dX12_pageWorth_157 : decode cX12_pageWorth 157 = .ok (.iaload, 1) := by decide +kernel
theorem dX12_pageWorth_158 : decode cX12_pageWorth 158 = .ok (.iastore, 1) := by decide +kernel
theorem dX12_pageWorth_159 : decode cX12_pageWorth 159 = .ok (.aload_n 0, 1) := by decide +kernel
theorem dX12_pageWorth_160 : decode cX12_pageWorth 160 = .ok (.getfield 20, 3) := by decide +kernel
theorem dX12_pageWorth_163 : decode cX12_pageWorth 163 = .ok (.bipush 118, 2) := by decide +kernel
theorem dX12_pageWorth_165 : decode cX12_pageWorth 165 = .ok (.iload_n 2, 1) := by decide +kernel
theorem dX12_pageWorth_166 : decode cX12_pageWorth 166 = .ok (.iastore, 1) := by decide +kernel
theorem dX12_pageWorth_167 : decode cX12_pageWorth 167 = .ok (.aload_n 0, 1) := by decide +kernel
theorem dX12_pageWorth_168 : decode cX12_pageWorth 168 = .ok (.getfield 20, 3) := by decide +kernel
theorem dX12_pageWorth_171 : decode cX12_pageWorth 171 = .ok (.bipush 98, 2) := by decide +kernel
theorem dX12_pageWorth_173 : decode cX12_pageWorth 173 = .ok (.iload_n 3, 1) := by decide +kernel
theorem dX12_pageWorth_174 : decode cX12_pageWorth 174 = .ok (.iastore, 1) := by decide +kernel
theorem dX12_pageWorth_175 : decode cX12_pageWorth 175 = .ok (.aload_n 0, 1) := by decide +kernel
theorem dX12_pageWorth_176 : decode cX12_pageWorth 176 = .ok (.getfield 20, 3) := by decide +kernel
theorem dX12_pageWorth_179 : decode cX12_pageWorth 179 = .ok (.bipush 112, 2) := by decide +kernel
theorem dX12_pageWorth_181 : decode cX12_pageWorth 181 = .ok (.iload 4, 2) := by decide +kernel
theorem dX12_pageWorth_183 : decode cX12_pageWorth 183 = .ok (.iastore, 1) := by decide +kernel
theorem dX12_pageWorth_184 : decode cX12_pageWorth 184 = .ok (.aload_n 0, 1) := by decide +kernel
theorem dX12_pageWorth_185 : decode cX12_pageWorth 185 = .ok (.getfield 20, 3) := by decide +kernel
theorem dX12_pageWorth_188 : decode cX12_pageWorth 188 = .ok (.bipush 110, 2) := by decide +kernel
theorem dX12_pageWorth_190 : decode cX12_pageWorth 190 = .ok (.iload 5, 2) := by decide +kernel
theorem dX12_pageWorth_192 : decode cX12_pageWorth 192 = .ok (.iastore, 1) := by decide +kernel
theorem dX12_pageWorth_193 : decode cX12_pageWorth 193 = .ok (.aload_n 0, 1) := by decide +kernel
theorem dX12_pageWorth_194 : decode cX12_pageWorth 194 = .ok (.getfield 20, 3) := by decide +kernel
theorem dX12_pageWorth_197 : decode cX12_pageWorth 197 = .ok (.bipush 116, 2) := by decide +kernel
theorem dX12_pageWorth_199 : decode cX12_pageWorth 199 = .ok (.iload 6, 2) := by decide +kernel
theorem dX12_pageWorth_201 : decode cX12_pageWorth 201 = .ok (.iastore, 1) := by decide +kernel
theorem dX12_pageWorth_202 : decode cX12_pageWorth 202 = .ok (.aload_n 0, 1) := by decide +kernel
theorem dX12_pageWorth_203 : decode cX12_pageWorth 203 = .ok (.aload_n 0, 1) := by decide +kernel
theorem dX12_pageWorth_204 : decode cX12_pageWorth 204 = .ok (.getfield 13, 3) := by decide +kernel
theorem dX12_pageWorth_207 : decode cX12_pageWorth 207 = .ok (.sipush 240, 3) := by decide +kernel
theorem dX12_pageWorth_210 : decode cX12_pageWorth 210 = .ok (.aload_n 0, 1) := by decide +kernel
theorem dX12_pageWorth_211 : decode cX12_pageWorth 211 = .ok (.getfield 67, 3) := by decide +kernel
theorem dX12_pageWorth_214 : decode cX12_pageWorth 214 = .ok (.imul, 1) := by decide +kernel
theorem dX12_pageWorth_215 : decode cX12_pageWorth 215 = .ok (.aload_n 0, 1) := by decide +kernel
theorem dX12_pageWorth_216 : decode cX12_pageWorth 216 = .ok (.getfield 16, 3) := by decide +kernel
theorem dX12_pageWorth_219 : decode cX12_pageWorth 219 = .ok (.aload_n 0, 1) := by decide +kernel
theorem dX12_pageWorth_220 : decode cX12_pageWorth 220 = .ok (.getfield 67, 3) := by decide +kernel
theorem dX12_pageWorth_223 : decode cX12_pageWorth 223 = .ok (.iaload, 1) := by decide +kernel
theorem dX12_pageWorth_224 : decode cX12_pageWorth 224 = .ok (.invokevirtual 274, 3) := by decide +kernel
theorem dX12_pageWorth_227 : decode cX12_pageWorth 227 = .ok (.aload_n 0, 1) := by decide +kernel
theorem dX12_pageWorth_228 : decode cX12_pageWorth 228 = .ok (.getfield 71, 3) := by decide +kernel
theorem dX12_pageWorth_231 : decode cX12_pageWorth 231 = .ok (.iload 9, 2) := by decide +kernel
theorem dX12_pageWorth_233 : decode cX12_pageWorth 233 = .ok (.lload 7, 2) := by decide +kernel
theorem dX12_pageWorth_235 : decode cX12_pageWorth 235 = .ok (.lastore, 1) := by decide +kernel
theorem dX12_pageWorth_236 : decode cX12_pageWorth 236 = .ok (.aload_n 0, 1) := by decide +kernel
theorem dX12_pageWorth_237 : decode cX12_pageWorth 237 = .ok (.getfield 75, 3) := by decide +kernel
theorem dX12_pageWorth_240 : decode cX12_pageWorth 240 = .ok (.iload 9, 2) := by decide +kernel
theorem dX12_pageWorth_242 : decode cX12_pageWorth 242 = .ok (.aload_n 0, 1) := by decide +kernel
theorem dX12_pageWorth_243 : decode cX12_pageWorth 243 = .ok (.getfield 201, 3) := by decide +kernel
theorem dX12_pageWorth_246 : decode cX12_pageWorth 246 = .ok (.iastore, 1) := by decide +kernel
theorem dX12_pageWorth_247 : decode cX12_pageWorth 247 = .ok (.aload_n 0, 1) := by decide +kernel
theorem dX12_pageWorth_248 : decode cX12_pageWorth 248 = .ok (.getfield 201, 3) := by decide +kernel
theorem dX12_pageWorth_251 : decode cX12_pageWorth 251 = .ok (.ireturn, 1) := by decide +kernel
def X12_pageWorth (n : Nat) (x1 : Int32) (x2 : Int32) (x3 : Int32) (x4 : Int32) (x5 : Int32) (x6 : Int32) (h : Mm) : Option (Int32 × Mm) := (if (h.1 251 34) = (-1 : Int32) then (if inB (((3 : Int32) * x1) + (1 : Int32)) (aln 258) then (some ((((h.1 258 (((3 : Int32) * x1) + (1 : Int32)).toNatClampNeg) + (x2 / (3 : Int32))) - x3), h)) else none) else (if inB (((3 : Int32) * x1) + (1 : Int32)) (aln 258) then (if inB ((((100000 : Int64) * (((100 : Int64) * (((10 : Int64) * (((10 : Int64) * (((10 : Int64) * (((10 : Int64) * ((1 : Int64) + (h.1 251 34).toInt64)) + (h.1 258 (((3 : Int32) * x1) + (1 : Int32)).toNatClampNeg).toInt64)) + x2.toInt64)) + x3.toInt64)) + x4.toInt64)) + x6.toInt64)) + x5.toInt64) - (((100000 : Int64) * (((100 : Int64) * (((10 : Int64) * (((10 : Int64) * (((10 : Int64) * (((10 : Int64) * ((1 : Int64) + (h.1 251 34).toInt64)) + (h.1 258 (((3 : Int32) * x1) + (1 : Int32)).toNatClampNeg).toInt64)) + x2.toInt64)) + x3.toInt64)) + x4.toInt64)) + x6.toInt64)) + x5.toInt64) / (8191 : Int64) * (8191 : Int64)).toInt32 (aln 266) then (if (lg_cmp (h.2 266 ((((100000 : Int64) * (((100 : Int64) * (((10 : Int64) * (((10 : Int64) * (((10 : Int64) * (((10 : Int64) * ((1 : Int64) + (h.1 251 34).toInt64)) + (h.1 258 (((3 : Int32) * x1) + (1 : Int32)).toNatClampNeg).toInt64)) + x2.toInt64)) + x3.toInt64)) + x4.toInt64)) + x6.toInt64)) + x5.toInt64) - (((100000 : Int64) * (((100 : Int64) * (((10 : Int64) * (((10 : Int64) * (((10 : Int64) * (((10 : Int64) * ((1 : Int64) + (h.1 251 34).toInt64)) + (h.1 258 (((3 : Int32) * x1) + (1 : Int32)).toNatClampNeg).toInt64)) + x2.toInt64)) + x3.toInt64)) + x4.toInt64)) + x6.toInt64)) + x5.toInt64) / (8191 : Int64) * (8191 : Int64)).toInt32.toNatClampNeg) (((100000 : Int64) * (((100 : Int64) * (((10 : Int64) * (((10 : Int64) * (((10 : Int64) * (((10 : Int64) * ((1 : Int64) + (h.1 251 34).toInt64)) + (h.1 258 (((3 : Int32) * x1) + (1 : Int32)).toNatClampNeg).toInt64)) + x2.toInt64)) + x3.toInt64)) + x4.toInt64)) + x6.toInt64)) + x5.toInt64)) = 0 then (if inB ((((100000 : Int64) * (((100 : Int64) * (((10 : Int64) * (((10 : Int64) * (((10 : Int64) * (((10 : Int64) * ((1 : Int64) + (h.1 251 34).toInt64)) + (h.1 258 (((3 : Int32) * x1) + (1 : Int32)).toNatClampNeg).toInt64)) + x2.toInt64)) + x3.toInt64)) + x4.toInt64)) + x6.toInt64)) + x5.toInt64) - (((100000 : Int64) * (((100 : Int64) * (((10 : Int64) * (((10 : Int64) * (((10 : Int64) * (((10 : Int64) * ((1 : Int64) + (h.1 251 34).toInt64)) + (h.1 258 (((3 : Int32) * x1) + (1 : Int32)).toNatClampNeg).toInt64)) + x2.toInt64)) + x3.toInt64)) + x4.toInt64)) + x6.toInt64)) + x5.toInt64) / (8191 : Int64) * (8191 : Int64)).toInt32 (aln 267) then (some ((h.1 267 ((((100000 : Int64) * (((100 : Int64) * (((10 : Int64) * (((10 : Int64) * (((10 : Int64) * (((10 : Int64) * ((1 : Int64) + (h.1 251 34).toInt64)) + (h.1 258 (((3 : Int32) * x1) + (1 : Int32)).toNatClampNeg).toInt64)) + x2.toInt64)) + x3.toInt64)) + x4.toInt64)) + x6.toInt64)) + x5.toInt64) - (((100000 : Int64) * (((100 : Int64) * (((10 : Int64) * (((10 : Int64) * (((10 : Int64) * (((10 : Int64) * ((1 : Int64) + (h.1 251 34).toInt64)) + (h.1 258 (((3 : Int32) * x1) + (1 : Int32)).toNatClampNeg).toInt64)) + x2.toInt64)) + x3.toInt64)) + x4.toInt64)) + x6.toInt64)) + x5.toInt64) / (8191 : Int64) * (8191 : Int64)).toInt32.toNatClampNeg), h)) else none) else (if inB (((3 : Int32) * x1) + (1 : Int32)) (aln 258) then (if inB (99 : Int32) (aln 255) then (if inB (118 : Int32) (aln 255) then (if inB (98 : Int32) (aln 255) then (if inB (112 : Int32) (aln 255) then (if inB (110 : Int32) (aln 255) then (if inB (116 : Int32) (aln 255) then (if inB ((wI (wI (wI (wI (wI (wI h 255 (99 : Int32).toNatClampNeg (h.1 258 (((3 : Int32) * x1) + (1 : Int32)).toNatClampNeg)) 255 (118 : Int32).toNatClampNeg x2) 255 (98 : Int32).toNatClampNeg x3) 255 (112 : Int32).toNatClampNeg x4) 255 (110 : Int32).toNatClampNeg x5) 255 (116 : Int32).toNatClampNeg x6).1 251 34) (aln 254) then (bd (X12_goThrough n 253 ((240 : Int32) * ((wI (wI (wI (wI (wI (wI h 255 (99 : Int32).toNatClampNeg (h.1 258 (((3 : Int32) * x1) + (1 : Int32)).toNatClampNeg)) 255 (118 : Int32).toNatClampNeg x2) 255 (98 : Int32).toNatClampNeg x3) 255 (112 : Int32).toNatClampNeg x4) 255 (110 : Int32).toNatClampNeg x5) 255 (116 : Int32).toNatClampNeg x6).1 251 34)) ((wI (wI (wI (wI (wI (wI h 255 (99 : Int32).toNatClampNeg (h.1 258 (((3 : Int32) * x1) + (1 : Int32)).toNatClampNeg)) 255 (118 : Int32).toNatClampNeg x2) 255 (98 : Int32).toNatClampNeg x3) 255 (112 : Int32).toNatClampNeg x4) 255 (110 : Int32).toNatClampNeg x5) 255 (116 : Int32).toNatClampNeg x6).1 254 ((wI (wI (wI (wI (wI (wI h 255 (99 : Int32).toNatClampNeg (h.1 258 (((3 : Int32) * x1) + (1 : Int32)).toNatClampNeg)) 255 (118 : Int32).toNatClampNeg x2) 255 (98 : Int32).toNatClampNeg x3) 255 (112 : Int32).toNatClampNeg x4) 255 (110 : Int32).toNatClampNeg x5) 255 (116 : Int32).toNatClampNeg x6).1 251 34).toNatClampNeg) (wI (wI (wI (wI (wI (wI h 255 (99 : Int32).toNatClampNeg (h.1 258 (((3 : Int32) * x1) + (1 : Int32)).toNatClampNeg)) 255 (118 : Int32).toNatClampNeg x2) 255 (98 : Int32).toNatClampNeg x3) 255 (112 : Int32).toNatClampNeg x4) 255 (110 : Int32).toNatClampNeg x5) 255 (116 : Int32).toNatClampNeg x6)) (fun _ h6 => (if inB ((((100000 : Int64) * (((100 : Int64) * (((10 : Int64) * (((10 : Int64) * (((10 : Int64) * (((10 : Int64) * ((1 : Int64) + (h.1 251 34).toInt64)) + (h.1 258 (((3 : Int32) * x1) + (1 : Int32)).toNatClampNeg).toInt64)) + x2.toInt64)) + x3.toInt64)) + x4.toInt64)) + x6.toInt64)) + x5.toInt64) - (((100000 : Int64) * (((100 : Int64) * (((10 : Int64) * (((10 : Int64) * (((10 : Int64) * (((10 : Int64) * ((1 : Int64) + (h.1 251 34).toInt64)) + (h.1 258 (((3 : Int32) * x1) + (1 : Int32)).toNatClampNeg).toInt64)) + x2.toInt64)) + x3.toInt64)) + x4.toInt64)) + x6.toInt64)) + x5.toInt64) / (8191 : Int64) * (8191 : Int64)).toInt32 (aln 266) then (if inB ((((100000 : Int64) * (((100 : Int64) * (((10 : Int64) * (((10 : Int64) * (((10 : Int64) * (((10 : Int64) * ((1 : Int64) + (h.1 251 34).toInt64)) + (h.1 258 (((3 : Int32) * x1) + (1 : Int32)).toNatClampNeg).toInt64)) + x2.toInt64)) + x3.toInt64)) + x4.toInt64)) + x6.toInt64)) + x5.toInt64) - (((100000 : Int64) * (((100 : Int64) * (((10 : Int64) * (((10 : Int64) * (((10 : Int64) * (((10 : Int64) * ((1 : Int64) + (h.1 251 34).toInt64)) + (h.1 258 (((3 : Int32) * x1) + (1 : Int32)).toNatClampNeg).toInt64)) + x2.toInt64)) + x3.toInt64)) + x4.toInt64)) + x6.toInt64)) + x5.toInt64) / (8191 : Int64) * (8191 : Int64)).toInt32 (aln 267) then (some (((wI (wL h6 266 ((((100000 : Int64) * (((100 : Int64) * (((10 : Int64) * (((10 : Int64) * (((10 : Int64) * (((10 : Int64) * ((1 : Int64) + (h.1 251 34).toInt64)) + (h.1 258 (((3 : Int32) * x1) + (1 : Int32)).toNatClampNeg).toInt64)) + x2.toInt64)) + x3.toInt64)) + x4.toInt64)) + x6.toInt64)) + x5.toInt64) - (((100000 : Int64) * (((100 : Int64) * (((10 : Int64) * (((10 : Int64) * (((10 : Int64) * (((10 : Int64) * ((1 : Int64) + (h.1 251 34).toInt64)) + (h.1 258 (((3 : Int32) * x1) + (1 : Int32)).toNatClampNeg).toInt64)) + x2.toInt64)) + x3.toInt64)) + x4.toInt64)) + x6.toInt64)) + x5.toInt64) / (8191 : Int64) * (8191 : Int64)).toInt32.toNatClampNeg (((100000 : Int64) * (((100 : Int64) * (((10 : Int64) * (((10 : Int64) * (((10 : Int64) * (((10 : Int64) * ((1 : Int64) + (h.1 251 34).toInt64)) + (h.1 258 (((3 : Int32) * x1) + (1 : Int32)).toNatClampNeg).toInt64)) + x2.toInt64)) + x3.toInt64)) + x4.toInt64)) + x6.toInt64)) + x5.toInt64)) 267 ((((100000 : Int64) * (((100 : Int64) * (((10 : Int64) * (((10 : Int64) * (((10 : Int64) * (((10 : Int64) * ((1 : Int64) + (h.1 251 34).toInt64)) + (h.1 258 (((3 : Int32) * x1) + (1 : Int32)).toNatClampNeg).toInt64)) + x2.toInt64)) + x3.toInt64)) + x4.toInt64)) + x6.toInt64)) + x5.toInt64) - (((100000 : Int64) * (((100 : Int64) * (((10 : Int64) * (((10 : Int64) * (((10 : Int64) * (((10 : Int64) * ((1 : Int64) + (h.1 251 34).toInt64)) + (h.1 258 (((3 : Int32) * x1) + (1 : Int32)).toNatClampNeg).toInt64)) + x2.toInt64)) + x3.toInt64)) + x4.toInt64)) + x6.toInt64)) + x5.toInt64) / (8191 : Int64) * (8191 : Int64)).toInt32.toNatClampNeg ((wL h6 266 ((((100000 : Int64) * (((100 : Int64) * (((10 : Int64) * (((10 : Int64) * (((10 : Int64) * (((10 : Int64) * ((1 : Int64) + (h.1 251 34).toInt64)) + (h.1 258 (((3 : Int32) * x1) + (1 : Int32)).toNatClampNeg).toInt64)) + x2.toInt64)) + x3.toInt64)) + x4.toInt64)) + x6.toInt64)) + x5.toInt64) - (((100000 : Int64) * (((100 : Int64) * (((10 : Int64) * (((10 : Int64) * (((10 : Int64) * (((10 : Int64) * ((1 : Int64) + (h.1 251 34).toInt64)) + (h.1 258 (((3 : Int32) * x1) + (1 : Int32)).toNatClampNeg).toInt64)) + x2.toInt64)) + x3.toInt64)) + x4.toInt64)) + x6.toInt64)) + x5.toInt64) / (8191 : Int64) * (8191 : Int64)).toInt32.toNatClampNeg (((100000 : Int64) * (((100 : Int64) * (((10 : Int64) * (((10 : Int64) * (((10 : Int64) * (((10 : Int64) * ((1 : Int64) + (h.1 251 34).toInt64)) + (h.1 258 (((3 : Int32) * x1) + (1 : Int32)).toNatClampNeg).toInt64)) + x2.toInt64)) + x3.toInt64)) + x4.toInt64)) + x6.toInt64)) + x5.toInt64)).1 251 14)).1 251 14), (wI (wL h6 266 ((((100000 : Int64) * (((100 : Int64) * (((10 : Int64) * (((10 : Int64) * (((10 : Int64) * (((10 : Int64) * ((1 : Int64) + (h.1 251 34).toInt64)) + (h.1 258 (((3 : Int32) * x1) + (1 : Int32)).toNatClampNeg).toInt64)) + x2.toInt64)) + x3.toInt64)) + x4.toInt64)) + x6.toInt64)) + x5.toInt64) - (((100000 : Int64) * (((100 : Int64) * (((10 : Int64) * (((10 : Int64) * (((10 : Int64) * (((10 : Int64) * ((1 : Int64) + (h.1 251 34).toInt64)) + (h.1 258 (((3 : Int32) * x1) + (1 : Int32)).toNatClampNeg).toInt64)) + x2.toInt64)) + x3.toInt64)) + x4.toInt64)) + x6.toInt64)) + x5.toInt64) / (8191 : Int64) * (8191 : Int64)).toInt32.toNatClampNeg (((100000 : Int64) * (((100 : Int64) * (((10 : Int64) * (((10 : Int64) * (((10 : Int64) * (((10 : Int64) * ((1 : Int64) + (h.1 251 34).toInt64)) + (h.1 258 (((3 : Int32) * x1) + (1 : Int32)).toNatClampNeg).toInt64)) + x2.toInt64)) + x3.toInt64)) + x4.toInt64)) + x6.toInt64)) + x5.toInt64)) 267 ((((100000 : Int64) * (((100 : Int64) * (((10 : Int64) * (((10 : Int64) * (((10 : Int64) * (((10 : Int64) * ((1 : Int64) + (h.1 251 34).toInt64)) + (h.1 258 (((3 : Int32) * x1) + (1 : Int32)).toNatClampNeg).toInt64)) + x2.toInt64)) + x3.toInt64)) + x4.toInt64)) + x6.toInt64)) + x5.toInt64) - (((100000 : Int64) * (((100 : Int64) * (((10 : Int64) * (((10 : Int64) * (((10 : Int64) * (((10 : Int64) * ((1 : Int64) + (h.1 251 34).toInt64)) + (h.1 258 (((3 : Int32) * x1) + (1 : Int32)).toNatClampNeg).toInt64)) + x2.toInt64)) + x3.toInt64)) + x4.toInt64)) + x6.toInt64)) + x5.toInt64) / (8191 : Int64) * (8191 : Int64)).toInt32.toNatClampNeg ((wL h6 266 ((((100000 : Int64) * (((100 : Int64) * (((10 : Int64) * (((10 : Int64) * (((10 : Int64) * (((10 : Int64) * ((1 : Int64) + (h.1 251 34).toInt64)) + (h.1 258 (((3 : Int32) * x1) + (1 : Int32)).toNatClampNeg).toInt64)) + x2.toInt64)) + x3.toInt64)) + x4.toInt64)) + x6.toInt64)) + x5.toInt64) - (((100000 : Int64) * (((100 : Int64) * (((10 : Int64) * (((10 : Int64) * (((10 : Int64) * (((10 : Int64) * ((1 : Int64) + (h.1 251 34).toInt64)) + (h.1 258 (((3 : Int32) * x1) + (1 : Int32)).toNatClampNeg).toInt64)) + x2.toInt64)) + x3.toInt64)) + x4.toInt64)) + x6.toInt64)) + x5.toInt64) / (8191 : Int64) * (8191 : Int64)).toInt32.toNatClampNeg (((100000 : Int64) * (((100 : Int64) * (((10 : Int64) * (((10 : Int64) * (((10 : Int64) * (((10 : Int64) * ((1 : Int64) + (h.1 251 34).toInt64)) + (h.1 258 (((3 : Int32) * x1) + (1 : Int32)).toNatClampNeg).toInt64)) + x2.toInt64)) + x3.toInt64)) + x4.toInt64)) + x6.toInt64)) + x5.toInt64)).1 251 14)))) else none) else none))) else none) else none) else none) else none) else none) else none) else none) else none)) else none) else none))
set_option maxRecDepth 100000 in
set_option maxHeartbeats 4000000 in
theorem s_X12_pageWorth {X : WX} {o : Mm} {n : Nat} {x1 : Int32} {x2 : Int32} {x3 : Int32} {x4 : Int32} {x5 : Int32} {x6 : Int32} {rv : Int32} {hz : Mm} {h : Mm} (hF : X12_pageWorth n x1 x2 x3 x4 x5 x6 h = some (rv, hz)) : Sat X yX12_pageWorth cX12_pageWorth 10 (some .int) 89 [.ref (xa X 251), .int x1, .int x2, .int x3, .int x4, .int x5, .int x6] false o h (some (.int rv)) hz := by
  unfold X12_pageWorth at hF
  refine Sat.mk (own := RX12) rfl (by decide +kernel) (Nat.le_of_ble_eq_true rfl) (fun G => ?_)
  refine V.sub (lv2 := [(0, _), (1, _), (2, _), (3, _), (4, _), (5, _), (6, _)]) [0, 1, 2, 3, 4, 5, 6] rfl ?_
  refine V.aload_n 0 dX12_pageWorth_0 rfl rfl ?_
  refine V.getI fl_X12_67 sh_251 rfl km_251 dX12_pageWorth_1 ?_
  refine V.iconst (v := -1) dX12_pageWorth_4 rfl ?_
  refine V.icmp_ne (tgt := 25) dX12_pageWorth_5 rfl (fun c => ?_) (fun c => ?_)
  · replace hF := iq c hF
    refine V.lconst (v := 1) dX12_pageWorth_25 rfl ?_
    refine V.aload_n 0 dX12_pageWorth_26 rfl rfl ?_
    refine V.getI fl_X12_67 sh_251 rfl km_251 dX12_pageWorth_27 ?_
    refine V.i2l dX12_pageWorth_30 ?_
    refine V.ladd dX12_pageWorth_31 ?_
    refine V.lstore [(7, _), (0, _), (1, _), (2, _), (3, _), (4, _), (5, _), (6, _)] dX12_pageWorth_32 (by decide) rfl ?_
    refine V.ldc2 (v := 10) dX12_pageWorth_34 kc_X12_303 ?_
    refine V.lload 0 dX12_pageWorth_37 rfl ?_
    refine V.lmul dX12_pageWorth_39 ?_
    refine V.aload_n 1 dX12_pageWorth_40 rfl rfl ?_
    refine V.getR (v := 258) fl_X12_43 sh_251 rfl fx_251_20 (by decide) dX12_pageWorth_41 ?_
    refine V.iconst (v := 3) dX12_pageWorth_44 rfl ?_
    refine V.iload_n 2 dX12_pageWorth_45 rfl rfl ?_
    refine V.imul dX12_pageWorth_46 ?_
    refine V.iconst (v := 1) dX12_pageWorth_47 rfl ?_
    refine V.iadd dX12_pageWorth_48 ?_
    obtain ⟨hk, hF⟩ := ck hF
    refine V.iald io_258 hk dX12_pageWorth_49 ?_
    refine V.i2l dX12_pageWorth_50 ?_
    refine V.ladd dX12_pageWorth_51 ?_
    refine V.lstore [(7, _), (0, _), (1, _), (2, _), (3, _), (4, _), (5, _), (6, _)] dX12_pageWorth_52 (by decide) rfl ?_
    refine V.ldc2 (v := 10) dX12_pageWorth_54 kc_X12_303 ?_
    refine V.lload 0 dX12_pageWorth_57 rfl ?_
    refine V.lmul dX12_pageWorth_59 ?_
    refine V.iload_n 3 dX12_pageWorth_60 rfl rfl ?_
    refine V.i2l dX12_pageWorth_61 ?_
    refine V.ladd dX12_pageWorth_62 ?_
    refine V.lstore [(7, _), (0, _), (1, _), (2, _), (3, _), (4, _), (5, _), (6, _)] dX12_pageWorth_63 (by decide) rfl ?_
    refine V.ldc2 (v := 10) dX12_pageWorth_65 kc_X12_303 ?_
    refine V.lload 0 dX12_pageWorth_68 rfl ?_
    refine V.lmul dX12_pageWorth_70 ?_
    refine V.iload_n 4 dX12_pageWorth_71 rfl rfl ?_
    refine V.i2l dX12_pageWorth_72 ?_
    refine V.ladd dX12_pageWorth_73 ?_
    refine V.lstore [(7, _), (0, _), (1, _), (2, _), (3, _), (4, _), (5, _), (6, _)] dX12_pageWorth_74 (by decide) rfl ?_
    refine V.ldc2 (v := 10) dX12_pageWorth_76 kc_X12_303 ?_
    refine V.lload 0 dX12_pageWorth_79 rfl ?_
    refine V.lmul dX12_pageWorth_81 ?_
    refine V.iload 5 dX12_pageWorth_82 rfl ?_
    refine V.i2l dX12_pageWorth_84 ?_
    refine V.ladd dX12_pageWorth_85 ?_
    refine V.lstore [(7, _), (0, _), (1, _), (2, _), (3, _), (4, _), (5, _), (6, _)] dX12_pageWorth_86 (by decide) rfl ?_
    refine V.ldc2 (v := 100) dX12_pageWorth_88 kc_X12_305 ?_
    refine V.lload 0 dX12_pageWorth_91 rfl ?_
    refine V.lmul dX12_pageWorth_93 ?_
    refine V.iload 7 dX12_pageWorth_94 rfl ?_
    refine V.i2l dX12_pageWorth_96 ?_
    refine V.ladd dX12_pageWorth_97 ?_
    refine V.lstore [(7, _), (0, _), (1, _), (2, _), (3, _), (4, _), (5, _), (6, _)] dX12_pageWorth_98 (by decide) rfl ?_
    refine V.ldc2 (v := 100000) dX12_pageWorth_100 kc_X12_307 ?_
    refine V.lload 0 dX12_pageWorth_103 rfl ?_
    refine V.lmul dX12_pageWorth_105 ?_
    refine V.iload 6 dX12_pageWorth_106 rfl ?_
    refine V.i2l dX12_pageWorth_108 ?_
    refine V.ladd dX12_pageWorth_109 ?_
    refine V.lstore [(7, _), (0, _), (1, _), (2, _), (3, _), (4, _), (5, _), (6, _)] dX12_pageWorth_110 (by decide) rfl ?_
    refine V.lload 0 dX12_pageWorth_112 rfl ?_
    refine V.ldc2 (v := 8191) dX12_pageWorth_114 kc_X12_309 ?_
    refine V.lrem dX12_pageWorth_117 (by decide) ?_
    refine V.l2i dX12_pageWorth_118 ?_
    refine V.istore [(9, _), (7, _), (0, _), (1, _), (2, _), (3, _), (4, _), (5, _), (6, _)] dX12_pageWorth_119 (by decide) rfl ?_
    refine V.aload_n 2 dX12_pageWorth_121 rfl rfl ?_
    refine V.getR (v := 266) fl_X12_71 sh_251 rfl fx_251_36 (by decide) dX12_pageWorth_122 ?_
    refine V.iload 0 dX12_pageWorth_125 rfl ?_
    obtain ⟨hk, hF⟩ := ck hF
    refine V.lald io_266 hk dX12_pageWorth_127 ?_
    refine V.lload 1 dX12_pageWorth_128 rfl ?_
    refine V.lcmp dX12_pageWorth_130 ?_
    refine V.if_ne (tgt := 142) dX12_pageWorth_131 rfl (fun c => ?_) (fun c => ?_)
    · replace hF := iq c hF
      refine V.aload_n 2 dX12_pageWorth_142 rfl rfl ?_
      refine V.getR (v := 255) fl_X12_20 sh_251 rfl fx_251_4 (by decide) dX12_pageWorth_143 ?_
      refine V.bipush (v := 99) dX12_pageWorth_146 (by decide) ?_
      refine V.aload_n 2 dX12_pageWorth_148 rfl rfl ?_
      refine V.getR (v := 258) fl_X12_43 sh_251 rfl fx_251_20 (by decide) dX12_pageWorth_149 ?_
      refine V.iconst (v := 3) dX12_pageWorth_152 rfl ?_
      refine V.iload_n 3 dX12_pageWorth_153 rfl rfl ?_
      refine V.imul dX12_pageWorth_154 ?_
      refine V.iconst (v := 1) dX12_pageWorth_155 rfl ?_
      refine V.iadd dX12_pageWorth_156 ?_
      obtain ⟨hk, hF⟩ := ck hF
      refine V.iald io_258 hk dX12_pageWorth_157 ?_
      obtain ⟨hk, hF⟩ := ck hF
      refine V.iast io_255 hk dX12_pageWorth_158 ?_
      refine V.aload_n 2 dX12_pageWorth_159 rfl rfl ?_
      refine V.getR (v := 255) fl_X12_20 sh_251 rfl fx_251_4 (by decide) dX12_pageWorth_160 ?_
      refine V.bipush (v := 118) dX12_pageWorth_163 (by decide) ?_
      refine V.iload_n 4 dX12_pageWorth_165 rfl rfl ?_
      obtain ⟨hk, hF⟩ := ck hF
      refine V.iast io_255 hk dX12_pageWorth_166 ?_
      refine V.aload_n 2 dX12_pageWorth_167 rfl rfl ?_
      refine V.getR (v := 255) fl_X12_20 sh_251 rfl fx_251_4 (by decide) dX12_pageWorth_168 ?_
      refine V.bipush (v := 98) dX12_pageWorth_171 (by decide) ?_
      refine V.iload_n 5 dX12_pageWorth_173 rfl rfl ?_
      obtain ⟨hk, hF⟩ := ck hF
      refine V.iast io_255 hk dX12_pageWorth_174 ?_
      refine V.aload_n 2 dX12_pageWorth_175 rfl rfl ?_
      refine V.getR (v := 255) fl_X12_20 sh_251 rfl fx_251_4 (by decide) dX12_pageWorth_176 ?_
      refine V.bipush (v := 112) dX12_pageWorth_179 (by decide) ?_
      refine V.iload 6 dX12_pageWorth_181 rfl ?_
      obtain ⟨hk, hF⟩ := ck hF
      refine V.iast io_255 hk dX12_pageWorth_183 ?_
      refine V.aload_n 2 dX12_pageWorth_184 rfl rfl ?_
      refine V.getR (v := 255) fl_X12_20 sh_251 rfl fx_251_4 (by decide) dX12_pageWorth_185 ?_
      refine V.bipush (v := 110) dX12_pageWorth_188 (by decide) ?_
      refine V.iload 7 dX12_pageWorth_190 rfl ?_
      obtain ⟨hk, hF⟩ := ck hF
      refine V.iast io_255 hk dX12_pageWorth_192 ?_
      refine V.aload_n 2 dX12_pageWorth_193 rfl rfl ?_
      refine V.getR (v := 255) fl_X12_20 sh_251 rfl fx_251_4 (by decide) dX12_pageWorth_194 ?_
      refine V.bipush (v := 116) dX12_pageWorth_197 (by decide) ?_
      refine V.iload 8 dX12_pageWorth_199 rfl ?_
      obtain ⟨hk, hF⟩ := ck hF
      refine V.iast io_255 hk dX12_pageWorth_201 ?_
      refine V.aload_n 2 dX12_pageWorth_202 rfl rfl ?_
      refine V.aload_n 2 dX12_pageWorth_203 rfl rfl ?_
      refine V.getR (v := 253) fl_X12_13 sh_251 rfl fx_251_2 (by decide) dX12_pageWorth_204 ?_
      refine V.sipush (v := 240) dX12_pageWorth_207 (by decide) ?_
      refine V.aload_n 2 dX12_pageWorth_210 rfl rfl ?_
      refine V.getI fl_X12_67 sh_251 rfl km_251 dX12_pageWorth_211 ?_
      refine V.imul dX12_pageWorth_214 ?_
      refine V.aload_n 2 dX12_pageWorth_215 rfl rfl ?_
      refine V.getR (v := 254) fl_X12_16 sh_251 rfl fx_251_3 (by decide) dX12_pageWorth_216 ?_
      refine V.aload_n 2 dX12_pageWorth_219 rfl rfl ?_
      refine V.getI fl_X12_67 sh_251 rfl km_251 dX12_pageWorth_220 ?_
      obtain ⟨hk, hF⟩ := ck hF
      refine V.iald io_254 hk dX12_pageWorth_223 ?_
      obtain ⟨r4, h6, hc5, hF⟩ := bd_s hF
      refine V.callVv mf_X12_goThrough ml_X12_274 sh_251 (s_X12_goThrough io_253 hc5) (by decide) rfl rfl (Nat.le_of_ble_eq_true rfl) dX12_pageWorth_224 ?_
      refine V.aload_n 2 dX12_pageWorth_227 rfl rfl ?_
      refine V.getR (v := 266) fl_X12_71 sh_251 rfl fx_251_36 (by decide) dX12_pageWorth_228 ?_
      refine V.iload 0 dX12_pageWorth_231 rfl ?_
      refine V.lload 1 dX12_pageWorth_233 rfl ?_
      obtain ⟨hk, hF⟩ := ck hF
      refine V.last io_266 hk dX12_pageWorth_235 ?_
      refine V.aload_n 2 dX12_pageWorth_236 rfl rfl ?_
      refine V.getR (v := 267) fl_X12_75 sh_251 rfl fx_251_37 (by decide) dX12_pageWorth_237 ?_
      refine V.iload 0 dX12_pageWorth_240 rfl ?_
      refine V.aload_n 2 dX12_pageWorth_242 rfl rfl ?_
      refine V.getI fl_X12_201 sh_251 rfl km_251 dX12_pageWorth_243 ?_
      obtain ⟨hk, hF⟩ := ck hF
      refine V.iast io_267 hk dX12_pageWorth_246 ?_
      refine V.aload_n 2 dX12_pageWorth_247 rfl rfl ?_
      refine V.getI fl_X12_201 sh_251 rfl km_251 dX12_pageWorth_248 ?_
      cases hF
      exact V.iret dX12_pageWorth_251
    · replace hF := ip c hF
      refine V.aload_n 2 dX12_pageWorth_134 rfl rfl ?_
      refine V.getR (v := 267) fl_X12_75 sh_251 rfl fx_251_37 (by decide) dX12_pageWorth_135 ?_
      refine V.iload 0 dX12_pageWorth_138 rfl ?_
      obtain ⟨hk, hF⟩ := ck hF
      refine V.iald io_267 hk dX12_pageWorth_140 ?_
      cases hF
      exact V.iret dX12_pageWorth_141
  · replace hF := ip c hF
    refine V.aload_n 0 dX12_pageWorth_8 rfl rfl ?_
    refine V.getR (v := 258) fl_X12_43 sh_251 rfl fx_251_20 (by decide) dX12_pageWorth_9 ?_
    refine V.iconst (v := 3) dX12_pageWorth_12 rfl ?_
    refine V.iload_n 1 dX12_pageWorth_13 rfl rfl ?_
    refine V.imul dX12_pageWorth_14 ?_
    refine V.iconst (v := 1) dX12_pageWorth_15 rfl ?_
    refine V.iadd dX12_pageWorth_16 ?_
    obtain ⟨hk, hF⟩ := ck hF
    refine V.iald io_258 hk dX12_pageWorth_17 ?_
    refine V.iload_n 2 dX12_pageWorth_18 rfl rfl ?_
    refine V.iconst (v := 3) dX12_pageWorth_19 rfl ?_
    refine V.idiv dX12_pageWorth_20 (by decide) ?_
    refine V.iadd dX12_pageWorth_21 ?_
    refine V.iload_n 3 dX12_pageWorth_22 rfl rfl ?_
    refine V.isub dX12_pageWorth_23 ?_
    cases hF
    exact V.iret dX12_pageWorth_24
